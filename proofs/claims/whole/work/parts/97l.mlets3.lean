/-! A RUN: the model's let, its calculation and its powers -/
section MLC
variable {X : JX} {d : Nat} {Q : JQ} {h : JH} {n : Nat} {m ρ τ f : Nat → Nat} {b t : Nat → Bool} {fl : Nat → Nat → Int} {r : Nat} {s : Nat} {x y0 : S7} {hs ey : Int} {W : Nat → Int32} {O : Nat → Option V6} {ov : Nat → Bool} {vs : Nat → V6} {a A0 N c : Nat}
theorem ltc_up {sl : SL} {j : Nat} (c : (ltc hs sl ov vs x j).1 ≠ 0) (k : Nat) : ltc hs sl ov vs x (j + k) = ltc hs sl ov vs x j := by
  induction k with
  | zero => rfl
  | succ k ih =>
    have e : ltc hs sl ov vs x (j + k + 1) = ltc hs sl ov vs x (j + k) := if_neg (by rw [ih]; exact c)
    exact e.trans ih
/-- the calculation goes on from j + 1 -/
theorem l_lets77 (g : G h) (rb : RB h n m ρ τ b f t fl) (hr : r < n) (e13 : fI h 81 13 = nI r) (be : BUn x) (x1 : zsl x ≤ 950000) (x2 : zhm x ≤ 950000) (e10 : (fI h 81 10).toInt = hs) (h0 : 0 ≤ hs) (h20 : hs ≤ 20) (e11 : (fI h 81 11).toInt = ey) (y0 : 0 ≤ ey) (y40 : ey ≤ 40) (ha : a < 820) (hc : c < 12) (hN : N ≤ 210) (hA : A0 + N ≤ 210) (e93 : aF h 93 a = nI c) (e94 : aF h 94 a = nI A0) (eo : ∀ j, j < N → aF h 98 (A0 + j) = bi (ov j)) (gv : ∀ k, k < N → GV (vs k)) {k : Nat} {flk : Nat → Int} (sm : SM h k true 1 false flk) {q : Int × S7 × V6} {xx : S7} (eq : q = if (ltc hs (slf r (m r) b f t fl) ov vs x (N - 1)).1 = 0 then pwT ey (zpl (ltc hs (slf r (m r) b f t fl) ov vs x (N - 1)).2) (some flk) true 1 false (fun _ => 0) (ltc hs (slf r (m r) b f t fl) ov vs x (N - 1)).2 else ((ltc hs (slf r (m r) b f t fl) ov vs x (N - 1)).1, xx, fun _ => 0)) (H1 : q.1 = 0 → ∀ h1, fr lF pF h h1 → MX h1 q.2.1 → aF h1 109 = upd (aF h 109) c 1 → (∀ w, w < 6 → (aF h1 110 (6 * c + w)).toInt = q.2.2 w) → (∀ j, (j < 6 * c ∨ 6 * c + 6 ≤ j) → aF h1 110 j = aF h 110 j) → fI h1 81 48 = fI h 81 48 → Q (some (.int 1)) h1) (H0 : q.1 ≠ 0 → ∀ h1, fr lF pF h h1 → (fI h1 81 52).toInt = q.1 → Q (some (.int 0)) h1) : ∀ (rr j : Nat) (h1 : JH) (o5 o6 : Option Value) (c1 s1 : Nat), j + 1 + rr = N → (ltc hs (slf r (m r) b f t fl) ov vs x j).1 = 0 → fr [] mF h h1 → MX h1 (ltc hs (slf r (m r) b f t fl) ov vs x j).2 → (∀ k, k < N → PW h1 k (vs k)) → jB_X12_lets_77 X (d + 6) Q 81 (nI a) (nI N) (nI k) (nI (j + 1)) o5 o6 h1 c1 s1 := by
  intro rr
  induction rr with
  | zero =>
    intro j h1 o5 o6 c1 s1 hj w k1 mx pw
    have ej : N - 1 = j := by omega
    rw [ej, if_pos w] at eq
    obtain ⟨b1, b2, b3⟩ := ltc_b gv be x1 x2 h0 hN j (by omega) w
    have by1 : BUn (ltc hs (slf r (m r) b f t fl) ov vs x j).2 := by unfold BUn LV at *; omega
    have kk : fr lF pF h h1 := fr_mono (by decide) (by decide) k1
    have sm1 : SM h1 k true 1 false flk := by
      unfold SM at sm ⊢
      rw [frF k1 (by decide), frF k1 (by decide), frF k1 (by decide), frF k1 (by decide)]
      exact sm
    refine l_letsE (d := d + 1) (G_fr g rfl k1) mx by1 sm1 (by rw [frI k1 (by decide) (by decide)]; exact e11) y0 y40 ha hc (by rw [frF k1 (by decide)]; exact e93) (by omega) (by omega) eq (fun e0 h2 k2 mx2 q109 q110 o110 e48 => ?_) (fun e0 h2 k2 e52 => H0 e0 h2 (fr_trans kk k2) e52) (nI_nlt (by omega) (by omega))
    refine H1 e0 h2 (fr_trans kk k2) mx2 ?_ q110 (fun i hi => ?_) ?_
    · rw [q109, frF k1 (by decide)]
    · rw [o110 i hi, frF k1 (by decide)]
    · rw [e48, frI k1 (by decide) (by decide)]
  | succ rr ih =>
    intro j h1 o5 o6 c1 s1 hj w k1 mx pw
    obtain ⟨b1, b2, b3⟩ := ltc_b gv be x1 x2 h0 hN j (by omega) w
    have g1 := G_fr g rfl k1
    have rb1 : RB h1 n m ρ τ b f t fl := RB_fr rb k1 (by decide)
    have f13 : fI h1 81 13 = nI r := by rw [frI k1 (by decide) (by decide)]; exact e13
    have f10 : (fI h1 81 10).toInt = hs := by rw [frI k1 (by decide) (by decide)]; exact e10
    have f94 : aF h1 94 a = nI A0 := by rw [frF k1 (by decide)]; exact e94
    have f98 : aF h1 98 (A0 + (j + 1)) = bi (ov (j + 1)) := by rw [frF k1 (by decide)]; exact eo (j + 1) (by omega)
    have f98' : aF h1 98 (A0 + j) = bi (ov j) := by rw [frF k1 (by decide)]; exact eo j (by omega)
    have gvj := gv (j + 1) (by omega)
    have pwj := pw (j + 1) (by omega)
    have be1 : BE (ltc hs (slf r (m r) b f t fl) ov vs x j).2 := by unfold BE BUn LV at *; omega
    have iva : vp_in (nI a) 820 := by rw [vp_inI, nI_toInt (by omega)]; omega
    have ica : (nI a).toNatClampNeg = a := nI_clamp (by omega)
    have i1 : nI A0 + nI (j + 1) = nI (A0 + (j + 1)) := nI_add _ _
    have i2 : nI (A0 + (j + 1)) - 1 = nI (A0 + j) := by
      rw [ti_eq]
      have t1 := nI_toInt (show A0 + (j + 1) < 2147483648 by omega)
      have t2 := nI_toInt (show A0 + j < 2147483648 by omega)
      rw [t2]
      have t3 : (nI (A0 + (j + 1)) - 1).toInt = (A0 + j : Int) := (by simp only [Int32.toInt_add, Int32.toInt_sub, Int32.toInt_mul, Int32.toInt_neg, Int.bmod_def, tl, t4]; omega)
      rw [t3]
      omega
    have iv1 : vp_in (nI (A0 + (j + 1))) 420 := by rw [vp_inI, nI_toInt (by omega)]; omega
    have ic1 : (nI (A0 + (j + 1))).toNatClampNeg = A0 + (j + 1) := nI_clamp (by omega)
    have iv2 : vp_in (nI (A0 + j)) 420 := by rw [vp_inI, nI_toInt (by omega)]; omega
    have ic2 : (nI (A0 + j)).toNatClampNeg = A0 + j := nI_clamp (by omega)
    have NX : ∀ (h2 : JH) (o5 o6 : Option Value), fr [] mF h1 h2 → (ltc hs (slf r (m r) b f t fl) ov vs x (j + 1)).1 = 0 → MX h2 (ltc hs (slf r (m r) b f t fl) ov vs x (j + 1)).2 → jB_X12_lets_77 X (d + 6) Q 81 (nI a) (nI N) (nI k) (nI (j + 1) + 1) o5 o6 h2 c1 s1 := by
      intro h2 o5 o6 k2 w2 mx2
      rw [nI_1]
      exact ih (j + 1) h2 _ _ _ _ (by omega) w2 (fr_trans k1 k2) mx2 (fun i hi => PW_fr (pw i hi) k2 (by decide))
    have BR : ∀ h2 : JH, fr [] mF h1 h2 → (ltc hs (slf r (m r) b f t fl) ov vs x (j + 1)).1 ≠ 0 → (fI h2 81 52).toInt = (ltc hs (slf r (m r) b f t fl) ov vs x (j + 1)).1 → Q (some (.int 0)) h2 := by
      intro h2 k2 w2 e52
      have up := ltc_up w2 (N - 1 - (j + 1))
      rw [show j + 1 + (N - 1 - (j + 1)) = N - 1 by omega] at up
      rw [up, if_neg w2] at eq
      refine H0 (by rw [eq]; exact w2) h2 (fr_mono (by decide) (by decide) (fr_trans k1 k2)) ?_
      rw [eq]
      exact e52
    have es : ltc hs (slf r (m r) b f t fl) ov vs x (j + 1) = if ov (j + 1) then pdC hs (slf r (m r) b f t fl false 1 false) (vs (j + 1)) (ltc hs (slf r (m r) b f t fl) ov vs x j).2 else pmC hs (slf r (m r) b f t fl false 1 false) (vs (j + 1)) (decide (1 < j + 1) && ov j) (ltc hs (slf r (m r) b f t fl) ov vs x j).2 := if_pos w
    -- one factor, by the calls
    have MUL : ∀ (bh : Bool) (o5 o6 : Option Value) (u : Int32), u = bi bh → ov (j + 1) = false → (decide (1 < j + 1) && ov j) = bh → jrc h1 (.ref 81) 12 (jex X (d + 6) 213 [.ref 81, .int (nI (j + 1)), .int u] h1 fun r18 h17 => (jrI r18 fun x19 => (jifp (x19 = 0) (Q (some (.int 0)) h17) (jB_X12_lets_77 X (d + 6) Q 81 (nI a) (nI N) (nI k) (nI (j + 1) + 1) o5 o6 h17 c1 s1)))) := by
      intro bh o5 o6 u eu eov ebh
      subst eu
      rw [eov, ebh] at es
      have es : ltc hs (slf r (m r) b f t fl) ov vs x (j + 1) = pmC hs (slf r (m r) b f t fl false 1 false) (vs (j + 1)) bh (ltc hs (slf r (m r) b f t fl) ov vs x j).2 := es
      rw [jrc_ob (by simp only [gM g1])]
      refine c_timesBy g1 rb1 hr f13 mx be1 f10 h0 h20 pwj gvj (by omega) es (fun e0 h2 k2 mx2 => ?_) (fun e0 h2 k2 e52 => ?_)
      · try dsimp only [jrI, jrN, jrA, jisr, jnul, jcat1]
        exact jif_n (by decide) (NX h2 _ _ k2 e0 mx2)
      · try dsimp only [jrI, jrN, jrA, jisr, jnul, jcat1]
        exact jif_t rfl (BR h2 k2 e0 e52)
    have DIV : ∀ (o5 o6 : Option Value), ov (j + 1) = true → jrc h1 (.ref 81) 12 (jex X (d + 6) 211 [.ref 81, .int (nI (j + 1))] h1 fun r18 h17 => (jrI r18 fun x19 => (jifp (x19 = 0) (Q (some (.int 0)) h17) (jB_X12_lets_77 X (d + 6) Q 81 (nI a) (nI N) (nI k) (nI (j + 1) + 1) o5 o6 h17 c1 s1)))) := by
      intro o5 o6 eov
      rw [eov] at es
      have es : ltc hs (slf r (m r) b f t fl) ov vs x (j + 1) = pdC hs (slf r (m r) b f t fl false 1 false) (vs (j + 1)) (ltc hs (slf r (m r) b f t fl) ov vs x j).2 := es
      rw [jrc_ob (by simp only [gM g1])]
      change jex X (d + 1 + 5) 211 _ _ _
      refine c_overBy g1 rb1 hr f13 mx be1 f10 h0 h20 pwj gvj (by omega) es (fun e0 h2 k2 mx2 => ?_) (fun e0 h2 k2 e52 => ?_)
      · try dsimp only [jrI, jrN, jrA, jisr, jnul, jcat1]
        exact jif_n (by decide) (NX h2 _ _ k2 e0 mx2)
      · try dsimp only [jrI, jrN, jrA, jisr, jnul, jcat1]
        exact jif_t rfl (BR h2 k2 e0 e52)
    refine jT_X12_lets_77 (jif_t (nI_lt (by omega) (by omega)) ?_)
    have A : ∀ (s0 : Int32), s0 = bi (ov (j + 1)) → jB_X12_lets_106 X (d + 6) Q 81 (nI a) (nI N) (nI k) (nI (j + 1)) o5 o6 s0 h1 c1 s1 := by
      intro s0 e0
      subst e0
      refine jT_X12_lets_106 ?_
      simp (decide := true) only [jgf_ob (c := 12), gM g1, gN g1, jaI_ar (p := 94) (n := 820), jaI_ar (p := 98) (n := 420), iva, ica, f94, i1, i2, iv2, ic2, f98', true_and]
      have t1 : (1 : Int32).toInt = 1 := rfl
      refine ⟨fun v1 => ⟨fun v2 => ⟨fun v3 => ?_, fun v3 => ?_⟩, fun v2 => ⟨fun v3 => ?_, fun v3 => ?_⟩⟩, fun v1 => ⟨fun v3 => ?_, fun v3 => ?_⟩⟩
      all_goals cases eo1 : ov (j + 1) <;> simp (decide := true) only [eo1] at v3
      · refine MUL true _ _ 1 rfl eo1 ?_
        rw [ti_lt, t1, nI_toInt (by omega)] at v1
        rw [decide_eq_true (show 1 < j + 1 by omega)]
        cases eo2 : ov j
        · rw [eo2] at v2; exact absurd v2 (by decide)
        · rfl
      · exact DIV _ _ eo1
      · refine MUL false _ _ 0 rfl eo1 ?_
        cases eo2 : ov j
        · rw [Bool.and_false]
        · exact absurd (by rw [eo2]; rfl) v2
      · exact DIV _ _ eo1
      · refine MUL false _ _ 0 rfl eo1 ?_
        rw [ti_lt, t1, nI_toInt (by omega)] at v1
        rw [decide_eq_false (show ¬ 1 < j + 1 by omega), Bool.false_and]
      · exact DIV _ _ eo1
    simp (decide := true) only [jgf_ob (c := 12), gM g1, gN g1, jaI_ar (p := 94) (n := 820), jaI_ar (p := 98) (n := 420), iva, ica, f94, i1, iv1, ic1, f98, true_and]
    refine ⟨fun v => A 1 ?_, fun v => A 0 ?_⟩
    · exact v.symm
    · cases eo1 : ov (j + 1)
      · rfl
      · exact absurd (by rw [eo1]; rfl) v
end MLC
