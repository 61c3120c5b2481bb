/-! A RUN: the model lets -/
/-- a let's powers -/
noncomputable def ltp (hs ey : Int) (sl : SL) (W : Nat → Int32) (O : Nat → Option V6) (s : Nat) (x : S7) : Nat → Int × S7 × (Nat → V6)
  | 0 => (0, x, fun _ _ => 0)
  | j + 1 => if (ltp hs ey sl W O s x j).1 = 0 then ((pwS hs ey sl (W j) (s + j) (O j) (ltp hs ey sl W O s x j).2.1).1, (pwS hs ey sl (W j) (s + j) (O j) (ltp hs ey sl W O s x j).2.1).2.1, fun k => if k = j then (pwS hs ey sl (W j) (s + j) (O j) (ltp hs ey sl W O s x j).2.1).2.2 else (ltp hs ey sl W O s x j).2.2 k) else ltp hs ey sl W O s x j
/-- a let's calculation -/
def ltc (hs : Int) (sl : SL) (ov : Nat → Bool) (vs : Nat → V6) (x : S7) : Nat → Int × S7
  | 0 => match sl true 1 false with
    | none => (2, x)
    | some fl => pset hs (setp x (vs 0 1)) (ct 1 false fl (vmk (vs 0) 1)) true (lse (vs 0) 1)
  | j + 1 => thn (ltc hs sl ov vs x j) (fun y => if ov (j + 1) then pdC hs (sl false 1 false) (vs (j + 1)) y else pmC hs (sl false 1 false) (vs (j + 1)) (decide (1 < j + 1) && ov j) y)
/-- a let -/
noncomputable def ltR (hs ey : Int) (sl : SL) (W : Nat → Int32) (O : Nat → Option V6) (ov : Nat → Bool) (s : Nat) (x : S7) (N : Nat) : Int × S7 × V6 := if (ltp hs ey sl W O s x N).1 = 0 then (if (ltc hs sl ov (ltp hs ey sl W O s x N).2.2 (ltp hs ey sl W O s x N).2.1 (N - 1)).1 = 0 then pwT ey (zpl (ltc hs sl ov (ltp hs ey sl W O s x N).2.2 (ltp hs ey sl W O s x N).2.1 (N - 1)).2) (sl true 1 false) true 1 false (fun _ => 0) (ltc hs sl ov (ltp hs ey sl W O s x N).2.2 (ltp hs ey sl W O s x N).2.1 (N - 1)).2 else ((ltc hs sl ov (ltp hs ey sl W O s x N).2.2 (ltp hs ey sl W O s x N).2.1 (N - 1)).1, x, fun _ => 0)) else ((ltp hs ey sl W O s x N).1, x, fun _ => 0)
def LV (k : Nat) (x y : S7) : Prop := -4096 ≤ zs y ∧ zs y ≤ 4096 ∧ 0 ≤ zh y ∧ zh y ≤ 4096 ∧ 0 ≤ zu y ∧ zu y ≤ 100000 ∧ 0 ≤ zv y ∧ zv y ≤ 100000 ∧ zsl x ≤ zsl y ∧ zsl y ≤ zsl x + 2 * k ∧ zhm x ≤ zhm y ∧ zhm y ≤ zhm x + k
section LTB
variable {x y z : S7} {hs ey : Int} {sl : SL} {W : Nat → Int32} {O : Nat → Option V6} {ov : Nat → Bool} {s k j N : Nat} {vs : Nat → V6}
theorem LV_s (a : LV k x y) (b : MV y z) : LV (k + 1) x z := by unfold LV MV at *; omega
theorem LV_0 (be : BUn x) : LV 0 x x := by unfold BUn at be; unfold LV; omega
theorem LV_t {i : Nat} (a : LV k x y) (b : LV i y z) : LV (k + i) x z := by unfold LV at *; omega
theorem BUn_L (be : BUn x) (e1 : zsl x ≤ 900000) (e2 : zhm x ≤ 900000) (hk : k ≤ 500) (a : LV k x y) : BUn y := by unfold BUn LV at *; omega
theorem ltp_up (c : (ltp hs ey sl W O s x j).1 ≠ 0) (k : Nat) : ltp hs ey sl W O s x (j + k) = ltp hs ey sl W O s x j := by
  induction k with
  | zero => rfl
  | succ k ih =>
    have e : ltp hs ey sl W O s x (j + k + 1) = ltp hs ey sl W O s x (j + k) := if_neg (by rw [ih]; exact c)
    exact e.trans ih
theorem ltp_b (gvo : ∀ j, j < N → ∀ v, O j = some v → GV v) (be : BUn x) (e1 : zsl x ≤ 900000) (e2 : zhm x ≤ 900000) (h0 : 0 ≤ hs) (hN : N ≤ 210) (s2 : s ≤ 200) : ∀ j, j ≤ N → (ltp hs ey sl W O s x j).1 = 0 → LV j x (ltp hs ey sl W O s x j).2.1 ∧ (∀ k, k < j → GV ((ltp hs ey sl W O s x j).2.2 k)) ∧ s + j ≤ 200 := by
  intro j
  induction j with
  | zero => intro _ _; exact ⟨LV_0 be, fun k hk => absurd hk (Nat.not_lt_zero _), s2⟩
  | succ j ih =>
    intro hj w
    by_cases c : (ltp hs ey sl W O s x j).1 = 0
    · obtain ⟨i1, i2, i3⟩ := ih (by omega) c
      have e : ltp hs ey sl W O s x (j + 1) = ((pwS hs ey sl (W j) (s + j) (O j) (ltp hs ey sl W O s x j).2.1).1, (pwS hs ey sl (W j) (s + j) (O j) (ltp hs ey sl W O s x j).2.1).2.1, fun k => if k = j then (pwS hs ey sl (W j) (s + j) (O j) (ltp hs ey sl W O s x j).2.1).2.2 else (ltp hs ey sl W O s x j).2.2 k) := if_pos c
      rw [e] at w ⊢
      obtain ⟨b1, b2, b3⟩ := pwS_b (gvo j (by omega)) (BUn_L be e1 e2 (show j ≤ 500 by omega) i1) h0 w
      refine ⟨LV_s i1 b1, fun k hk => ?_, by omega⟩
      show GV (if k = j then (pwS hs ey sl (W j) (s + j) (O j) (ltp hs ey sl W O s x j).2.1).2.2 else (ltp hs ey sl W O s x j).2.2 k)
      by_cases q : k = j
      · rw [if_pos q]; exact b2
      · rw [if_neg q]; exact i2 k (by omega)
    · have e : ltp hs ey sl W O s x (j + 1) = ltp hs ey sl W O s x j := if_neg c
      rw [e] at w
      exact absurd w c
theorem ltc_b (gv : ∀ k, k < N → GV (vs k)) (be : BUn x) (e1 : zsl x ≤ 950000) (e2 : zhm x ≤ 950000) (h0 : 0 ≤ hs) (hN : N ≤ 210) : ∀ j, j < N → (ltc hs sl ov vs x j).1 = 0 → LV (j + 1) x (ltc hs sl ov vs x j).2 ∧ zpl (ltc hs sl ov vs x j).2 ≤ 99 + 110 * j ∧ -99 - 110 * j ≤ zpl (ltc hs sl ov vs x j).2 := by
  intro j
  induction j with
  | zero =>
    intro hj w
    have g0 := gv 0 hj
    have lb := lse_b g0 (F := 1) (by decide) (by decide)
    have a := g0.1 0 (by decide)
    simp only [Nat.mul_zero, Nat.zero_add] at a
    unfold BUn at be
    unfold ltc at w ⊢
    cases ee : sl true 1 false with
    | none => simp only [ee] at w; exact absurd w (by decide)
    | some fl =>
      simp only [ee] at w ⊢
      have p := pset_b w
      have a1 : zs (setp x (vs 0 1)) = zs x := rfl
      have a2 : zu (setp x (vs 0 1)) = zu x := rfl
      have a3 : zsl (setp x (vs 0 1)) = zsl x := rfl
      have a4 : zhm (setp x (vs 0 1)) = zhm x := rfl
      have a5 : zpl (setp x (vs 0 1)) = vs 0 1 := rfl
      have q5 : (if (true : Bool) then (0 : Int) else zu (setp x (vs 0 1))) = 0 := rfl
      rw [q5] at p
      unfold LV
      omega
  | succ j ih =>
    intro hj w
    unfold ltc at w ⊢
    unfold thn at w ⊢
    by_cases c : (ltc hs sl ov vs x j).1 = 0
    · rw [if_pos c] at w ⊢
      obtain ⟨i1, i2, i3⟩ := ih (by omega) c
      have by1 : BUn (ltc hs sl ov vs x j).2 := by unfold BUn LV at *; omega
      generalize (ltc hs sl ov vs x j).2 = y at *
      cases eo : ov (j + 1) with
      | true =>
        simp only [eo, if_true] at w ⊢
        obtain ⟨b1, b2, b3⟩ := pdC_b (gv (j + 1) hj) by1 h0 w
        exact ⟨LV_s i1 b1, by omega, by omega⟩
      | false =>
        simp only [eo, Bool.false_eq_true, if_false] at w ⊢
        obtain ⟨b1, b2, b3⟩ := pmC_b (gv (j + 1) hj) by1 h0 w
        exact ⟨LV_s i1 b1, by omega, by omega⟩
    · rw [if_neg c] at w
      exact absurd w c
end LTB
section MLE
variable {X : JX} {d : Nat} {Q : JQ} {h : JH} {n : Nat} {m ρ τ f : Nat → Nat} {b t : Nat → Bool} {fl : Nat → Nat → Int} {r : Nat} {s : Nat} {x : S7} {hs ey : Int} {W : Nat → Int32} {O : Nat → Option V6} {ov : Nat → Bool}
theorem MX_fr {A : List Nat} {F : List (Nat × Nat)} {h1 : JH} (mx : MX h x) (k : fr A F h h1) (k1 : (81, 14) ∉ F) (k2 : (81, 15) ∉ F) (k3 : (81, 16) ∉ F) (k4 : (81, 17) ∉ F) (k5 : (81, 49) ∉ F) (k6 : (81, 50) ∉ F) (k7 : (81, 57) ∉ F) : MX h1 x := MX_eq mx (frI k k1 (by decide)) (frI k k2 (by decide)) (frI k k3 (by decide)) (frI k k4 (by decide)) (frI k k5 (by decide)) (frI k k6 (by decide)) (frI k k7 (by decide))
/-- the value is kept -/
theorem l_lets211 (g : G h) {c : Nat} (hc : c < 12) (H : ∀ h1, fr [110] [] h h1 → (∀ w, w < 6 → aF h1 110 (6 * c + w) = aF h 111 w) → (∀ j, (j < 6 * c ∨ 6 * c + 6 ≤ j) → aF h1 110 j = aF h 110 j) → Q (some (.int 1)) h1) {o1 o2 o3 o6 : Option Value} {c1 s1 : Nat} : jB_X12_lets_211 X d Q 81 o1 o2 o3 (nI c) 0 o6 h c1 s1 := by
  have L : ∀ (rr w : Nat) (h3 : JH) (z s : Nat), w + rr = 6 → fr [110] [] h h3 → (∀ j, j < w → aF h3 110 (6 * c + j) = aF h 111 j) → (∀ j, (j < 6 * c ∨ 6 * c + 6 ≤ j) → aF h3 110 j = aF h 110 j) → jB_X12_lets_211 X d Q 81 o1 o2 o3 (nI c) (nI w) o6 h3 z s := by
    intro rr
    induction rr with
    | zero =>
      intro w h3 z s hw k3 pj oj
      exact jT_X12_lets_211 (jif_n (nI_nlt (a := w) (b := 6) (by omega) (by omega)) ⟨by decide, H h3 k3 (fun j hj => pj j (by omega)) oj⟩)
    | succ rr ih =>
      intro w h3 z s hw k3 pj oj
      have g3 := G_fr g rfl k3
      have j0 : 6 * nI c + nI w = nI (6 * c + w) := by rw [show 6 * nI c = nI (6 * c) from pk_mul 6 c, nI_add]
      have jv0 : vp_in (nI (6 * c + w)) 72 := by rw [vp_inI, nI_toInt (by omega)]; omega
      have jc0 : (nI (6 * c + w)).toNatClampNeg = 6 * c + w := nI_clamp (by omega)
      have ivw : vp_in (nI w) 1260 := by rw [vp_inI, nI_toInt (by omega)]; omega
      have icw : (nI w).toNatClampNeg = w := nI_clamp (by omega)
      have e111 : aF h3 111 = aF h 111 := frF k3 (by decide)
      refine jT_X12_lets_211 (jif_t (nI_lt (b := 6) (by omega) (by omega)) ?_)
      simp (decide := true) only [jgf_ob (c := 12), gM g3, gN g3, jaI_ar (p := 111) (n := 1260), jwI_ar (p := 110) (n := 72), j0, jv0, jc0, ivw, icw, true_and, e111]
      have q110 : aF (wF h3 110 (upd (aF h3 110) (6 * c + w) (aF h 111 w))) 110 = upd (aF h3 110) (6 * c + w) (aF h 111 w) := aF_wF (t := .int) (n := 72) (by simp only [gM g3])
      rw [nI_1]
      refine ih (w + 1) _ _ _ (by omega) (fr_wF (by decide) k3) (fun j hj => ?_) (fun j hj => ?_)
      · rw [q110]
        by_cases z : j = w
        · rw [z, upd_s]
        · rw [upd_n (by omega)]; exact pj j (by omega)
      · rw [q110, upd_n (by omega)]; exact oj j hj
  exact L 6 0 h _ _ (by omega) fr_rfl (fun j hj => absurd hj (Nat.not_lt_zero _)) (fun j _ => rfl)
end MLE
