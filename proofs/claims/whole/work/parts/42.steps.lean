/-! DIVIDING MARKS -/
theorem jaI_s {X : JX} {h : JH} {i : Int32} {K : Int32 → Prop} : jaI X h (.float 1) i K = (vp_in i 7 ∧ K (jsteps i.toNatClampNeg)) := rfl
theorem jaln_s {X : JX} {h : JH} {K : Int32 → Prop} : jaln X h (.float 1) K = K 7 := rfl
def sv (i : Nat) : Nat := match i with
  | 0 => 1
  | 1 => 2
  | 2 => 5
  | 3 => 10
  | 4 => 20
  | 5 => 50
  | _ => 100
theorem sv_js (i : Nat) : jsteps i = nI (sv i) := by
  rcases i with _ | _ | _ | _ | _ | _ | i <;> rfl
theorem sv_k (i : Nat) : 1 ≤ sv i ∧ sv i ≤ 100 ∧ sv i * (100 / sv i) = 100 := by
  rcases i with _ | _ | _ | _ | _ | _ | i <;> first | decide | (show 1 ≤ 100 ∧ 100 ≤ 100 ∧ 100 * (100 / 100) = 100; decide)
/-- is a part wide enough at this stride -/
def wid (f : Nat) (t : Bool) (q s i : Nat) : Int := max (tp f t (q + (i + 1) * s) - tp f t (q + i * s)) (tp f t (q + i * s) - tp f t (q + (i + 1) * s))
def WE (f : Nat) (t : Bool) (gap : Int) (q s : Nat) : Bool := (List.range (100 / s)).all fun i => decide (gap ≤ wid f t q s i)
theorem WE_t {f : Nat} {t : Bool} {gap : Int} {q s : Nat} (h : ∀ i, i < 100 / s → gap ≤ wid f t q s i) : WE f t gap q s = true := by
  unfold WE
  rw [List.all_eq_true]
  exact fun i hi => decide_eq_true (h i (List.mem_range.mp hi))
theorem WE_f {f : Nat} {t : Bool} {gap : Int} {q s i : Nat} (hi : i < 100 / s) (h : wid f t q s i < gap) : WE f t gap q s = false := by
  rw [← Bool.not_eq_true]
  intro e
  unfold WE at e
  rw [List.all_eq_true] at e
  have := of_decide_eq_true (e i (List.mem_range.mpr hi))
  omega
def stpF (f : Nat) (t : Bool) (gap : Int) (q : Nat) : Nat → Nat → Nat
  | _, 0 => 100
  | i, j + 1 => if WE f t gap q (sv i) = true then sv i else stpF f t gap q (i + 1) j
theorem stpF_rg {f : Nat} {t : Bool} {gap : Int} {q : Nat} : ∀ j i, 1 ≤ stpF f t gap q i j ∧ stpF f t gap q i j ≤ 100
  | 0, i => by unfold stpF; omega
  | j + 1, i => by
    unfold stpF
    split
    · exact ⟨(sv_k i).1, (sv_k i).2.1⟩
    · exact stpF_rg j (i + 1)
def SUMM (f : Nat) (t : Bool) (gap : Int) : Nat → Nat
  | 0 => 1
  | w + 1 => SUMM f t gap w + 100 / stpF f t gap (100 * w) 0 7
theorem SUMM_le {f : Nat} {t : Bool} {gap : Int} : ∀ w, SUMM f t gap w ≤ 1 + 100 * w
  | 0 => by unfold SUMM; omega
  | w + 1 => by
    have := SUMM_le (f := f) (t := t) (gap := gap) w
    have h2 : 100 / stpF f t gap (100 * w) 0 7 ≤ 100 := Nat.div_le_self _ _
    unfold SUMM
    omega
section STP
variable {X : JX} {d : Nat} {Q : JQ} {h : JH} {τ k f q s : Nat} {b t : Bool} {fl : Nat → Int}
theorem c_isWide (g : G h) (sc : SC h τ b f t fl) {a1 a2 gap : Int32} (h1 : a1.toInt = q) (h2 : a2.toInt = s) (s1 : 1 ≤ s) (s2 : s ≤ 100) (hs : s * (100 / s) = 100) (hq : q + 100 ≤ 900 * f) (H0 : WE f t gap.toInt q s = false → Q (some (.int 0)) h) (H1 : WE f t gap.toInt q s = true → Q (some (.int 1)) h) : jex X (d + 2) 251 [.ref τ, .int a1, .int a2, .int gap] h Q := by
  obtain ⟨ho, f1, f3, e0, e1, e2, e3, e4, ha, hv, hf⟩ := id sc
  have e5 : (a1 + 100).toInt = ((q + 100 : Nat) : Int) := (by simp only [Int32.toInt_add, Int32.toInt_sub, Int32.toInt_mul, Int32.toInt_neg, Int.bmod_def, tl]; omega)
  have L : ∀ (j i : Nat) (a4 : Int32) (o : Option Value) (c z : Nat), i + j = 100 / s → a4.toInt = ((q + i * s : Nat) : Int) → (∀ u, u < i → gap.toInt ≤ wid f t q s u) → jB_X8_isWideEnough_10 X (d + 1) Q τ a1 o gap a2 a4 h c z := by
    intro j
    induction j with
    | zero =>
      intro i a4 o c z hi h4 hu
      have hi' : i = 100 / s := by omega
      have e6 : i * s = 100 := by rw [hi', Nat.mul_comm]; exact hs
      refine jT_X8_isWideEnough_10 (jif_n (by rw [ti_lt, e5, h4, e6]; omega) ⟨by decide, H1 (WE_t (fun u hu' => hu u (by omega)))⟩)
    | succ j ih =>
      intro i a4 o c z hi h4 hu
      have e6 : (i + 1) * s ≤ 100 := by
        rw [← hs, Nat.mul_comm s]
        exact Nat.mul_le_mul_right s (by omega)
      have e7 : (i + 1) * s = i * s + s := Nat.succ_mul i s
      have e8 : (a4 + a2).toInt = ((q + (i + 1) * s : Nat) : Int) := by
        rw [e7]; rw [e7] at e6; generalize i * s = w at h4 e6 ⊢; exact (by simp only [Int32.toInt_add, Int32.toInt_sub, Int32.toInt_mul, Int32.toInt_neg, Int.bmod_def, tl]; omega)
      refine jT_X8_isWideEnough_10 (jif_t (by rw [ti_lt, e5, h4]; omega) ?_)
      rw [jrc_ob ho]
      refine c_truePlace g sc e8 (by omega) (fun x hx => ?_)
      try dsimp only [jrI, jrN, jrA, jisr, jnul, jcat1]
      rw [jrc_ob ho]
      refine c_truePlace g sc h4 (by omega) (fun y hy => ?_)
      try dsimp only [jrI, jrN, jrA, jisr, jnul, jcat1]
      have r1 := tp_rg (t := t) f1 (show q + (i + 1) * s ≤ 900 * f by omega)
      have r2 := tp_rg (t := t) f1 (show q + i * s ≤ 900 * f by omega)
      have e9 : (x - y).toInt = tp f t (q + (i + 1) * s) - tp f t (q + i * s) := by
        rw [ti_sub (by omega) (by omega), hx, hy]
      refine c_abs (by omega) ?_
      try dsimp only [jrI, jrN, jrA, jisr, jnul, jcat1]
      have ew : (zI (max (x - y).toInt (-(x - y).toInt))).toInt = wid f t q s i := by
        rw [zt (by omega) (by omega), e9]; unfold wid; omega
      refine ⟨fun c1 => ⟨by decide, H0 (WE_f (i := i) (by omega) (by rw [ti_lt, ew] at c1; exact c1))⟩, fun c1 => ?_⟩
      rw [ti_lt, ew] at c1
      refine ih (i + 1) _ _ _ _ (by omega) e8 (fun u hu' => ?_)
      by_cases c2 : u = i
      · subst c2; omega
      · exact hu u (by omega)
  rw [jE_X8_isWideEnough]
  refine jT_X8_isWideEnough_0 (c_max1 (by omega) ?_)
  try dsimp only [jrI, jrN, jrA, jisr, jnul, jcat1]
  exact (L (100 / s) 0 a1 _ _ _ (by omega) (by rw [h1, Nat.zero_mul]; rfl) (fun u hu => by omega))
theorem c_partStep (g : G h) (sc : SC h τ b f t fl) {a1 a2 gap : Int32} {e p : Nat} (h1 : a1.toInt = e) (h2 : a2.toInt = p) (p1 : 1 ≤ p) (p9 : p ≤ 9) (he : e < f) (hq : q = 900 * e + 100 * p - 100) (H : Q (some (.int (nI (stpF f t gap.toInt q 0 7)))) h) : jex X (d + 3) 250 [.ref τ, .int a1, .int a2, .int gap] h Q := by
  obtain ⟨ho, f1, f3, -⟩ := id sc
  have L : ∀ (j i : Nat) (a4 a5 : Int32) (o1 o2 : Option Value) (c z : Nat), i + j = 7 → a4.toInt = q → a5.toInt = i → Q (some (.int (nI (stpF f t gap.toInt q i j)))) h → jB_X8_partStep_13 X (d + 2) Q τ o1 o2 gap a4 a5 h c z := by
    intro j
    induction j with
    | zero =>
      intro i a4 a5 o1 o2 c z hi h4 h5 H
      refine jT_X8_partStep_13 ?_
      rw [jaln_s]
      exact jif_n (by rw [ti_lt, h5, show (7 : Int32).toInt = 7 from rfl]; omega) H
    | succ j ih =>
      intro i a4 a5 o1 o2 c z hi h4 h5 H
      have e7 : a5.toNatClampNeg = i := by rw [ti_clamp, h5]; rfl
      have es := sv_k i
      have h5' : (a5 + 1).toInt = ((i + 1 : Nat) : Int) := (by simp only [Int32.toInt_add, Int32.toInt_sub, Int32.toInt_mul, Int32.toInt_neg, Int.bmod_def, tl]; omega)
      refine jT_X8_partStep_13 ?_
      rw [jaln_s, jaI_s, e7, sv_js]
      refine jif_t (by rw [ti_lt, h5, show (7 : Int32).toInt = 7 from rfl]; omega) ⟨by rw [vp_inI]; omega, ?_⟩
      rw [jrc_ob ho]
      refine c_isWide g sc h4 (nI_toInt (by omega)) es.1 es.2.1 es.2.2 (by omega) (fun hw => ?_) (fun hw => ?_)
      · refine jif_t rfl (ih (i + 1) _ _ _ _ _ _ (by omega) h4 h5' ?_)
        unfold stpF at H
        rw [if_neg (by rw [hw]; decide)] at H
        exact H
      · refine jif_n (by decide) ?_
        rw [jaI_s, e7, sv_js]
        refine ⟨by rw [vp_inI]; omega, ?_⟩
        unfold stpF at H
        rw [if_pos hw] at H
        exact H
  rw [jE_X8_partStep]
  have e5 : (100 * a2).toInt = 100 * a2.toInt := (by simp only [Int32.toInt_add, Int32.toInt_sub, Int32.toInt_mul, Int32.toInt_neg, Int.bmod_def, tl]; omega)
  refine jT_X8_partStep_0 (c_markFor (by omega) (by omega) (fun r hr => ?_))
  exact L 7 0 r 0 _ _ _ _ rfl (by omega) rfl H
theorem c_dividedMarks (g : G h) (sc : SC h τ b f t fl) {gap : Int32} (H : Q (some (.int (nI (SUMM f t gap.toInt (9 * f))))) h) : jex X (d + 4) 258 [.ref τ, .int gap] h Q := by
  obtain ⟨ho, f1, f3, e0, e1, -⟩ := id sc
  have ef : (nI f).toInt = f := nI_toInt (by omega)
  have L : ∀ (j w : Nat) (a2 a3 a4 : Int32) (c z : Nat), j + w = 9 * f → a2 = nI (SUMM f t gap.toInt w) → a3.toInt = ((w / 9 : Nat) : Int) → a4.toInt = ((w % 9 + 1 : Nat) : Int) → w < 9 * f → (∀ (b2 b3 : Int32) (o : Option Value) (c z : Nat), b2 = nI (SUMM f t gap.toInt (9 * (w / 9 + 1))) → b3.toInt = ((w / 9 + 1 : Nat) : Int) → jB_X8_dividedMarks_4 X (d + 3) Q τ gap b2 b3 o h c z) → jB_X8_dividedMarks_15 X (d + 3) Q τ gap a2 a3 a4 h c z := by
    intro j
    induction j with
    | zero => intro w a2 a3 a4 c z hj h2 h3 h4 hw HK; omega
    | succ j ih =>
      intro w a2 a3 a4 c z hj h2 h3 h4 hw HK
      refine jT_X8_dividedMarks_15 (jif_n (by rw [ti_lt, h4, show (9 : Int32).toInt = 9 from rfl]; omega) ?_)
      rw [jrc_ob ho]
      refine c_partStep (q := 100 * w) (e := w / 9) (p := w % 9 + 1) g sc h3 h4 (by omega) (by omega) (by omega) (by omega) ?_
      try dsimp only [jrI, jrN, jrA, jisr, jnul, jcat1]
      have hst := stpF_rg (f := f) (t := t) (gap := gap.toInt) (q := 100 * w) 7 0
      have est : (nI (stpF f t gap.toInt (100 * w) 0 7)).toInt = (stpF f t gap.toInt (100 * w) 0 7 : Nat) := nI_toInt (by omega)
      have hsu := SUMM_le (f := f) (t := t) (gap := gap.toInt) w
      have hdl : 100 / stpF f t gap.toInt (100 * w) 0 7 ≤ 100 := Nat.div_le_self _ _
      refine c_max ?_
      try dsimp only [jrI, jrN, jrA, jisr, jnul, jcat1]
      have ez : zI (max (1 : Int32).toInt (nI (stpF f t gap.toInt (100 * w) 0 7)).toInt) = nI (stpF f t gap.toInt (100 * w) 0 7) := by
        rw [est, show (1 : Int32).toInt = 1 from rfl, show max (1 : Int) (stpF f t gap.toInt (100 * w) 0 7 : Nat) = (stpF f t gap.toInt (100 * w) 0 7 : Nat) by omega]
        rw [ti_eq, est, zt (by omega) (by omega)]
      rw [ez]
      have ene : ¬ (nI (stpF f t gap.toInt (100 * w) 0 7) : Int32) = 0 := fun c => by
        rw [ti_eq, est, show (0 : Int32).toInt = 0 from rfl] at c
        omega
      refine ⟨ene, ?_⟩
      have esum : a2 + 100 / nI (stpF f t gap.toInt (100 * w) 0 7) = nI (SUMM f t gap.toInt (w + 1)) := by
        have eq : (100 / nI (stpF f t gap.toInt (100 * w) 0 7) : Int32).toInt = ((100 / stpF f t gap.toInt (100 * w) 0 7 : Nat) : Int) := by
          rw [ti_divp (by decide) (by omega), est]
          rfl
        have e2 : (nI (SUMM f t gap.toInt w)).toInt = (SUMM f t gap.toInt w : Nat) := nI_toInt (by omega)
        have e3 : (nI (SUMM f t gap.toInt (w + 1))).toInt = (SUMM f t gap.toInt (w + 1) : Nat) := nI_toInt (by unfold SUMM; omega)
        have h0 : 0 ≤ (100 / nI (stpF f t gap.toInt (100 * w) 0 7) : Int32).toInt := by rw [eq]; exact Int.natCast_nonneg _
        rw [ti_eq, h2, e3]
        rw [ti_add (by omega) (by omega), eq, e2]
        show _ = ((SUMM f t gap.toInt w + 100 / stpF f t gap.toInt (100 * w) 0 7 : Nat) : Int)
        omega
      have h4' : (a4 + 1).toInt = ((w % 9 + 2 : Nat) : Int) := (by simp only [Int32.toInt_add, Int32.toInt_sub, Int32.toInt_mul, Int32.toInt_neg, Int.bmod_def, tl]; omega)
      by_cases c9 : w % 9 = 8
      · refine jT_X8_dividedMarks_15 (jif_t (by rw [ti_lt, h4', show (9 : Int32).toInt = 9 from rfl]; omega) ?_)
        refine HK _ _ _ _ _ ?_ ?_
        · rw [esum, show 9 * (w / 9 + 1) = w + 1 by omega]
        · exact (by simp only [Int32.toInt_add, Int32.toInt_sub, Int32.toInt_mul, Int32.toInt_neg, Int.bmod_def, tl]; omega)
      · refine ih (w + 1) _ _ _ _ _ (by omega) esum (by rw [h3]; omega) (by rw [h4']; omega) (by omega) (fun b2 b3 o c z hb2 hb3 => HK b2 b3 o c z ?_ ?_)
        · rw [hb2, show (w + 1) / 9 = w / 9 by omega]
        · rw [hb3, show (w + 1) / 9 = w / 9 by omega]
  have M : ∀ (j e : Nat) (a2 a3 : Int32) (o : Option Value) (c z : Nat), j + e = f → a2 = nI (SUMM f t gap.toInt (9 * e)) → a3.toInt = e → jB_X8_dividedMarks_4 X (d + 3) Q τ gap a2 a3 o h c z := by
    intro j
    induction j with
    | zero =>
      intro e a2 a3 o c z hj h2 h3
      refine jT_X8_dividedMarks_4 ?_
      rw [jgI_ob ho rfl, e1]
      refine jif_n (by rw [ti_lt, ef, h3]; omega) ?_
      rw [h2, show e = f by omega]
      exact H
    | succ j ih =>
      intro e a2 a3 o c z hj h2 h3
      refine jT_X8_dividedMarks_4 ?_
      rw [jgI_ob ho rfl, e1]
      refine jif_t (by rw [ti_lt, ef, h3]; omega) ?_
      refine L (9 * f - 9 * e) (9 * e) a2 a3 1 c z (by omega) h2 (by rw [h3]; omega) (by rw [show (9 * e) % 9 = 0 by omega]; rfl) (by omega) (fun b2 b3 o c z hb2 hb3 => ?_)
      refine ih (e + 1) b2 b3 o c z (by omega) ?_ ?_
      · rw [hb2, show 9 * e / 9 = e by omega]
      · rw [hb3, show 9 * e / 9 = e by omega]
  rw [jE_X8_dividedMarks]
  exact jT_X8_dividedMarks_0 (M f 0 1 0 none _ _ (by omega) rfl rfl)
/-! the model's -/
theorem c_isFar (g : G h) (sm : SM h k b f t fl) {a1 gap a3 a4 a5 : Int32} {e p : Nat} (h1 : a1.toInt = k) (h3 : a3.toInt = e) (h4 : a4.toInt = p) (h5 : a5.toInt = s) (p1 : 1 ≤ p) (p9 : p ≤ 9) (he : e < f) (hq : q = 900 * e + 100 * p - 100) (s1 : 1 ≤ s) (s2 : s ≤ 100) (hs : s * (100 / s) = 100) (H0 : WE f t gap.toInt q s = false → Q (some (.int 0)) h) (H1 : WE f t gap.toInt q s = true → Q (some (.int 1)) h) : jex X (d + 2) 256 [.ref 81, .int a1, .int gap, .int a3, .int a4, .int a5] h Q := by
  obtain ⟨k1, f1, f3, e1, e2, e3, hv, hf⟩ := id sm
  have e5 : (100 * a4 + 100).toInt = ((100 * p + 100 : Nat) : Int) := (by simp only [Int32.toInt_add, Int32.toInt_sub, Int32.toInt_mul, Int32.toInt_neg, Int.bmod_def, tl]; omega)
  have e5b : (100 * a4).toInt = ((100 * p : Nat) : Int) := (by simp only [Int32.toInt_add, Int32.toInt_sub, Int32.toInt_mul, Int32.toInt_neg, Int.bmod_def, tl]; omega)
  have L : ∀ (j i : Nat) (a6 : Int32) (c z : Nat), i + j = 100 / s → a6.toInt = ((100 * p + i * s : Nat) : Int) → (∀ u, u < i → gap.toInt ≤ wid f t q s u) → jB_X12_isFar_7 X (d + 1) Q 81 a1 gap a3 a4 a5 a6 h c z := by
    intro j
    induction j with
    | zero =>
      intro i a6 c z hi h6 hu
      have hi' : i = 100 / s := by omega
      have e6 : i * s = 100 := by rw [hi', Nat.mul_comm]; exact hs
      refine jT_X12_isFar_7 (jif_n (by rw [ti_lt, e5, h6, e6]; omega) ⟨by decide, H1 (WE_t (fun u hu' => hu u (by omega)))⟩)
    | succ j ih =>
      intro i a6 c z hi h6 hu
      have e6 : (i + 1) * s ≤ 100 := by
        rw [← hs, Nat.mul_comm s]
        exact Nat.mul_le_mul_right s (by omega)
      have e7 : (i + 1) * s = i * s + s := Nat.succ_mul i s
      have e8 : (a6 + a5).toInt = ((100 * p + (i + 1) * s : Nat) : Int) := by
        rw [e7]; rw [e7] at e6; generalize i * s = w at h6 e6 ⊢; exact (by simp only [Int32.toInt_add, Int32.toInt_sub, Int32.toInt_mul, Int32.toInt_neg, Int.bmod_def, tl]; omega)
      refine jT_X12_isFar_7 (jif_t (by rw [ti_lt, e5, h6]; omega) ?_)
      simp (decide := true) only [jgI_ob, jgf_ob, jgL_ob, jpI_ob, jpL_ob, jpR_ob, jpN_ob, jrc_ob, obj_sV, obj_wF, obj_wG, obj_wR, arr_sV, arr_wF, arr_wG, arr_wR, arL_sV, arL_wF, arL_wG, arL_wR, arR_sV, arR_wF, arR_wG, arR_wR, fI_sV (c := 0), fI_sV (c := 1), fI_sV (c := 2), fI_sV (c := 4), fI_sV (c := 5), fI_sV (c := 7), fI_sV (c := 8), fI_sV (c := 9), fI_sV (c := 10), fI_sV (c := 11), fI_sV (c := 12), fI_sV (c := 6), fL_sV (c := 9), fL_sV (c := 12), fI_sV_k, fL_sV_k, fV_sV_k, fI_wF, fI_wG, fI_wR, fL_wF, fL_wG, fL_wR, fV_wF, fV_wG, fV_wR, aF_sV, aG_sV, aR_sV, aF_wG, aF_wR, aG_wF, aG_wR, aR_wF, aR_wG, gM g, gN g, ti_lt, tl, true_and]
      refine c_trueOf (n := q + i * s) g sm h1 h3 h6 (by omega) (by omega) (by omega) (by omega) (fun x hx => ?_)
      try dsimp only [jrI, jrN, jrA, jisr, jnul, jcat1]
      simp (decide := true) only [jgI_ob, jgf_ob, jgL_ob, jpI_ob, jpL_ob, jpR_ob, jpN_ob, jrc_ob, obj_sV, obj_wF, obj_wG, obj_wR, arr_sV, arr_wF, arr_wG, arr_wR, arL_sV, arL_wF, arL_wG, arL_wR, arR_sV, arR_wF, arR_wG, arR_wR, fI_sV (c := 0), fI_sV (c := 1), fI_sV (c := 2), fI_sV (c := 4), fI_sV (c := 5), fI_sV (c := 7), fI_sV (c := 8), fI_sV (c := 9), fI_sV (c := 10), fI_sV (c := 11), fI_sV (c := 12), fI_sV (c := 6), fL_sV (c := 9), fL_sV (c := 12), fI_sV_k, fL_sV_k, fV_sV_k, fI_wF, fI_wG, fI_wR, fL_wF, fL_wG, fL_wR, fV_wF, fV_wG, fV_wR, aF_sV, aG_sV, aR_sV, aF_wG, aF_wR, aG_wF, aG_wR, aR_wF, aR_wG, gM g, gN g, ti_lt, tl, true_and]
      refine c_trueOf (n := q + (i + 1) * s) g sm h1 h3 e8 (by omega) (by omega) (by omega) (by omega) (fun y hy => ?_)
      try dsimp only [jrI, jrN, jrA, jisr, jnul, jcat1]
      have r1 := tp_rg (t := t) f1 (show q + (i + 1) * s ≤ 900 * f by omega)
      have r2 := tp_rg (t := t) f1 (show q + i * s ≤ 900 * f by omega)
      refine c_apart (by omega) (by omega) ?_
      try dsimp only [jrI, jrN, jrA, jisr, jnul, jcat1]
      have ew : (zI (max (x.toInt - y.toInt) (y.toInt - x.toInt))).toInt = wid f t q s i := by
        rw [zt (by omega) (by omega), hx, hy]; unfold wid; omega
      refine ⟨fun c1 => H0 (WE_f (i := i) (by omega) (by rw [ew] at c1; exact c1)), fun c1 => ?_⟩
      rw [ew] at c1
      refine ih (i + 1) _ _ _ (by omega) e8 (fun u hu' => ?_)
      by_cases c2 : u = i
      · subst c2; omega
      · exact hu u (by omega)
  rw [jE_X12_isFar]
  exact jT_X12_isFar_0 (L (100 / s) 0 _ _ _ (by omega) (by rw [e5b, Nat.zero_mul]; rfl) (fun u hu => by omega))
theorem c_stepOf {a : Int32} {i : Nat} (hi : i < 7) (ha : a.toInt = i) (H : Q (some (.int (nI (sv i)))) h) : jex X (d + 1) 255 [.int a] h Q := by
  have e : a = Int32.ofNat i := by rw [ti_eq, ha, zN (by omega)]
  subst e
  rw [jE_X12_stepOf]
  refine jT_X12_stepOf_0 ?_
  rcases (show i = 0 ∨ i = 1 ∨ i = 2 ∨ i = 3 ∨ i = 4 ∨ i = 5 ∨ i = 6 by omega) with e | e | e | e | e | e | e <;> subst e <;> (repeat (first | exact H | refine jif_t (by decide) ?_ | refine jif_n (by decide) ?_))
theorem c_divided (g : G h) (sm : SM h k b f t fl) {a1 gap a3 a4 : Int32} {e p : Nat} (h1 : a1.toInt = k) (h3 : a3.toInt = e) (h4 : a4.toInt = p) (p1 : 1 ≤ p) (p9 : p ≤ 9) (he : e < f) (hq : q = 900 * e + 100 * p - 100) (H : Q (some (.int (nI (stpF f t gap.toInt q 0 7)))) h) : jex X (d + 3) 254 [.ref 81, .int a1, .int gap, .int a3, .int a4] h Q := by
  have L : ∀ (j i : Nat) (a5 : Int32) (c z : Nat), i + j = 7 → a5.toInt = i → Q (some (.int (nI (stpF f t gap.toInt q i j)))) h → jB_X12_divided_3 X (d + 2) Q 81 a1 gap a3 a4 a5 h c z := by
    intro j
    induction j with
    | zero =>
      intro i a5 c z hi h5 H
      exact jT_X12_divided_3 (jif_n (by rw [ti_lt, h5, show (7 : Int32).toInt = 7 from rfl]; omega) H)
    | succ j ih =>
      intro i a5 c z hi h5 H
      have es := sv_k i
      have h5' : (a5 + 1).toInt = ((i + 1 : Nat) : Int) := (by simp only [Int32.toInt_add, Int32.toInt_sub, Int32.toInt_mul, Int32.toInt_neg, Int.bmod_def, tl]; omega)
      refine jT_X12_divided_3 (jif_t (by rw [ti_lt, h5, show (7 : Int32).toInt = 7 from rfl]; omega) (c_stepOf (i := i) (by omega) h5 ?_))
      try dsimp only [jrI, jrN, jrA, jisr, jnul, jcat1]
      simp (decide := true) only [jgI_ob, jgf_ob, jgL_ob, jpI_ob, jpL_ob, jpR_ob, jpN_ob, jrc_ob, obj_sV, obj_wF, obj_wG, obj_wR, arr_sV, arr_wF, arr_wG, arr_wR, arL_sV, arL_wF, arL_wG, arL_wR, arR_sV, arR_wF, arR_wG, arR_wR, fI_sV (c := 0), fI_sV (c := 1), fI_sV (c := 2), fI_sV (c := 4), fI_sV (c := 5), fI_sV (c := 7), fI_sV (c := 8), fI_sV (c := 9), fI_sV (c := 10), fI_sV (c := 11), fI_sV (c := 12), fI_sV (c := 6), fL_sV (c := 9), fL_sV (c := 12), fI_sV_k, fL_sV_k, fV_sV_k, fI_wF, fI_wG, fI_wR, fL_wF, fL_wG, fL_wR, fV_wF, fV_wG, fV_wR, aF_sV, aG_sV, aR_sV, aF_wG, aF_wR, aG_wF, aG_wR, aR_wF, aR_wG, gM g, gN g, ti_lt, tl, true_and]
      refine c_isFar (q := q) (s := sv i) g sm h1 h3 h4 (nI_toInt (by omega)) p1 p9 he hq es.1 es.2.1 es.2.2 (fun hw => ?_) (fun hw => ?_)
      · refine jif_t rfl (ih (i + 1) _ _ _ (by omega) h5' ?_)
        unfold stpF at H
        rw [if_neg (by rw [hw]; decide)] at H
        exact H
      · refine jif_n (by decide) (c_stepOf (i := i) (by omega) h5 ?_)
        unfold stpF at H
        rw [if_pos hw] at H
        exact H
  rw [jE_X12_divided]
  exact jT_X12_divided_0 (L 7 0 0 _ _ rfl rfl H)
theorem l_marks (g : G h) (sm : SM h k b f t fl) {gap a4 : Int32} (h1 : a4.toInt = k) {o1 o2 : Option Value} (H : Q (some (.int (nI (SUMM f t gap.toInt (9 * f))))) h) (c z : Nat) : jB_X12_marks_37 X (d + 3) Q 81 o1 o2 gap a4 1 0 none h c z := by
  obtain ⟨k1, f1, f3, e1, e2, e3, hv, hf⟩ := id sm
  have ef : (nI f).toInt = f := nI_toInt (by omega)
  have ivk : vp_in a4 32 := by rw [vp_inI]; omega
  have L : ∀ (j w : Nat) (a2 a3 a7 : Int32) (c z : Nat), j + w = 9 * f → a2 = nI (SUMM f t gap.toInt w) → a3.toInt = ((w / 9 : Nat) : Int) → a7.toInt = ((w % 9 + 1 : Nat) : Int) → w < 9 * f → (∀ (b2 b3 : Int32) (o : Option Value) (c z : Nat), b2 = nI (SUMM f t gap.toInt (9 * (w / 9 + 1))) → b3.toInt = ((w / 9 + 1 : Nat) : Int) → jB_X12_marks_37 X (d + 3) Q 81 o1 o2 gap a4 b2 b3 o h c z) → jB_X12_marks_52 X (d + 3) Q 81 o1 o2 gap a4 a2 a3 a7 h c z := by
    intro j
    induction j with
    | zero => intro w a2 a3 a7 c z hj h2 h3 h7 hw HK; omega
    | succ j ih =>
      intro w a2 a3 a7 c z hj h2 h3 h7 hw HK
      refine jT_X12_marks_52 (jif_t (by rw [ti_lt, h7, show (10 : Int32).toInt = 10 from rfl]; omega) ?_)
      simp (decide := true) only [jgI_ob, jgf_ob, jgL_ob, jpI_ob, jpL_ob, jpR_ob, jpN_ob, jrc_ob, obj_sV, obj_wF, obj_wG, obj_wR, arr_sV, arr_wF, arr_wG, arr_wR, arL_sV, arL_wF, arL_wG, arL_wR, arR_sV, arR_wF, arR_wG, arR_wR, fI_sV (c := 0), fI_sV (c := 1), fI_sV (c := 2), fI_sV (c := 4), fI_sV (c := 5), fI_sV (c := 7), fI_sV (c := 8), fI_sV (c := 9), fI_sV (c := 10), fI_sV (c := 11), fI_sV (c := 12), fI_sV (c := 6), fL_sV (c := 9), fL_sV (c := 12), fI_sV_k, fL_sV_k, fV_sV_k, fI_wF, fI_wG, fI_wR, fL_wF, fL_wG, fL_wR, fV_wF, fV_wG, fV_wR, aF_sV, aG_sV, aR_sV, aF_wG, aF_wR, aG_wF, aG_wR, aR_wF, aR_wG, gM g, gN g, ti_lt, tl, true_and]
      refine c_divided (q := 100 * w) (e := w / 9) (p := w % 9 + 1) g sm h1 h3 h7 (by omega) (by omega) (by omega) (by omega) ?_
      try dsimp only [jrI, jrN, jrA, jisr, jnul, jcat1]
      have hst := stpF_rg (f := f) (t := t) (gap := gap.toInt) (q := 100 * w) 7 0
      have est : (nI (stpF f t gap.toInt (100 * w) 0 7)).toInt = (stpF f t gap.toInt (100 * w) 0 7 : Nat) := nI_toInt (by omega)
      have hsu := SUMM_le (f := f) (t := t) (gap := gap.toInt) w
      have hdl : 100 / stpF f t gap.toInt (100 * w) 0 7 ≤ 100 := Nat.div_le_self _ _
      have ene : ¬ (nI (stpF f t gap.toInt (100 * w) 0 7) : Int32) = 0 := fun c => by
        rw [ti_eq, est, show (0 : Int32).toInt = 0 from rfl] at c
        omega
      refine ⟨ene, ?_⟩
      have esum : a2 + 100 / nI (stpF f t gap.toInt (100 * w) 0 7) = nI (SUMM f t gap.toInt (w + 1)) := by
        have eq : (100 / nI (stpF f t gap.toInt (100 * w) 0 7) : Int32).toInt = ((100 / stpF f t gap.toInt (100 * w) 0 7 : Nat) : Int) := by
          rw [ti_divp (by decide) (by omega), est]
          rfl
        have e2 : (nI (SUMM f t gap.toInt w)).toInt = (SUMM f t gap.toInt w : Nat) := nI_toInt (by omega)
        have e3 : (nI (SUMM f t gap.toInt (w + 1))).toInt = (SUMM f t gap.toInt (w + 1) : Nat) := nI_toInt (by unfold SUMM; omega)
        have h0 : 0 ≤ (100 / nI (stpF f t gap.toInt (100 * w) 0 7) : Int32).toInt := by rw [eq]; exact Int.natCast_nonneg _
        rw [ti_eq, h2, e3]
        rw [ti_add (by omega) (by omega), eq, e2]
        show _ = ((SUMM f t gap.toInt w + 100 / stpF f t gap.toInt (100 * w) 0 7 : Nat) : Int)
        omega
      have h7' : (a7 + 1).toInt = ((w % 9 + 2 : Nat) : Int) := (by simp only [Int32.toInt_add, Int32.toInt_sub, Int32.toInt_mul, Int32.toInt_neg, Int.bmod_def, tl]; omega)
      by_cases c9 : w % 9 = 8
      · refine jT_X12_marks_52 (jif_n (by rw [ti_lt, h7', show (10 : Int32).toInt = 10 from rfl]; omega) ?_)
        refine HK _ _ _ _ _ ?_ ?_
        · rw [esum, show 9 * (w / 9 + 1) = w + 1 by omega]
        · exact (by simp only [Int32.toInt_add, Int32.toInt_sub, Int32.toInt_mul, Int32.toInt_neg, Int.bmod_def, tl]; omega)
      · refine ih (w + 1) _ _ _ _ _ (by omega) esum (by rw [h3]; omega) (by rw [h7']; omega) (by omega) (fun b2 b3 o c z hb2 hb3 => HK b2 b3 o c z ?_ ?_)
        · rw [hb2, show (w + 1) / 9 = w / 9 by omega]
        · rw [hb3, show (w + 1) / 9 = w / 9 by omega]
  have M : ∀ (j e : Nat) (a2 a3 : Int32) (o : Option Value) (c z : Nat), j + e = f → a2 = nI (SUMM f t gap.toInt (9 * e)) → a3.toInt = e → jB_X12_marks_37 X (d + 3) Q 81 o1 o2 gap a4 a2 a3 o h c z := by
    intro j
    induction j with
    | zero =>
      intro e a2 a3 o c z hj h2 h3
      refine jT_X12_marks_37 ?_
      simp (decide := true) only [jgI_ob, jgf_ob, jgL_ob, jpI_ob, jpL_ob, jpR_ob, jpN_ob, jrc_ob, obj_sV, obj_wF, obj_wG, obj_wR, arr_sV, arr_wF, arr_wG, arr_wR, arL_sV, arL_wF, arL_wG, arL_wR, arR_sV, arR_wF, arR_wG, arR_wR, fI_sV (c := 0), fI_sV (c := 1), fI_sV (c := 2), fI_sV (c := 4), fI_sV (c := 5), fI_sV (c := 7), fI_sV (c := 8), fI_sV (c := 9), fI_sV (c := 10), fI_sV (c := 11), fI_sV (c := 12), fI_sV (c := 6), fL_sV (c := 9), fL_sV (c := 12), fI_sV_k, fL_sV_k, fV_sV_k, fI_wF, fI_wG, fI_wR, fL_wF, fL_wG, fL_wR, fV_wF, fV_wG, fV_wR, aF_sV, aG_sV, aR_sV, aF_wG, aF_wR, aG_wF, aG_wR, aR_wF, aR_wG, kC, kM, gM g, gN g, ti_clamp, ivk, h1, Int.toNat_natCast, e2, true_and]
      refine jif_n (by rw [ti_lt, ef, h3]; omega) ?_
      rw [h2, show e = f by omega]
      exact H
    | succ j ih =>
      intro e a2 a3 o c z hj h2 h3
      refine jT_X12_marks_37 ?_
      simp (decide := true) only [jgI_ob, jgf_ob, jgL_ob, jpI_ob, jpL_ob, jpR_ob, jpN_ob, jrc_ob, obj_sV, obj_wF, obj_wG, obj_wR, arr_sV, arr_wF, arr_wG, arr_wR, arL_sV, arL_wF, arL_wG, arL_wR, arR_sV, arR_wF, arR_wG, arR_wR, fI_sV (c := 0), fI_sV (c := 1), fI_sV (c := 2), fI_sV (c := 4), fI_sV (c := 5), fI_sV (c := 7), fI_sV (c := 8), fI_sV (c := 9), fI_sV (c := 10), fI_sV (c := 11), fI_sV (c := 12), fI_sV (c := 6), fL_sV (c := 9), fL_sV (c := 12), fI_sV_k, fL_sV_k, fV_sV_k, fI_wF, fI_wG, fI_wR, fL_wF, fL_wG, fL_wR, fV_wF, fV_wG, fV_wR, aF_sV, aG_sV, aR_sV, aF_wG, aF_wR, aG_wF, aG_wR, aR_wF, aR_wG, kC, kM, gM g, gN g, ti_clamp, ivk, h1, Int.toNat_natCast, e2, true_and]
      refine jif_t (by rw [ti_lt, ef, h3]; omega) ?_
      refine L (9 * f - 9 * e) (9 * e) a2 a3 1 c z (by omega) h2 (by rw [h3]; omega) (by rw [show (9 * e) % 9 = 0 by omega]; rfl) (by omega) (fun b2 b3 o c z hb2 hb3 => ?_)
      refine ih (e + 1) b2 b3 o c z (by omega) ?_ ?_
      · rw [hb2, show 9 * e / 9 = e by omega]
      · rw [hb3, show 9 * e / 9 = e by omega]
  exact M f 0 1 0 none c z (by omega) rfl rfl
end STP
section STC
variable {X : JX} {h : JH} {n : Nat} {m ρ τ f : Nat → Nat} {b t : Nat → Bool} {fl : Nat → Nat → Int}
theorem c_isGap {d : Nat} {Q : JQ} {a : Int32} (H0 : ¬ (1 ≤ a.toInt ∧ a.toInt ≤ 300) → Q (some (.int 0)) h) (H1 : 1 ≤ a.toInt → a.toInt ≤ 300 → Q (some (.int 1)) h) : jex X (d + 1) 249 [.int a] h Q := by
  rw [jE_X11_isGap]
  refine jT_X11_isGap_0 ?_
  simp (decide := true) only [ti_lt, tl, true_and]
  exact ⟨fun c => H0 (by omega), fun c => ⟨fun c2 => H0 (by omega), fun c2 => H1 (by omega) (by omega)⟩⟩
theorem a_step (g : G h) (x : RB h n m ρ τ b f t fl) {a1 a2 a3 a4 a5 : Int32} : AGR X 248 253 [.int a1, .int a2, .int a3, .int a4, .int a5] h (fun h2 => fr [] [] h h2) := by
  intro Q K
  rw [jE_X11_step]
  refine jT_X11_step_0 ?_
  simp (decide := true) only [jgI_ob, jgf_ob, jgL_ob, jpI_ob, jpL_ob, jpR_ob, jpN_ob, jrc_ob, obj_sV, obj_wF, obj_wG, obj_wR, arr_sV, arr_wF, arr_wG, arr_wR, arL_sV, arL_wF, arL_wG, arL_wR, arR_sV, arR_wF, arR_wG, arR_wR, fI_sV (c := 0), fI_sV (c := 1), fI_sV (c := 2), fI_sV (c := 4), fI_sV (c := 5), fI_sV (c := 7), fI_sV (c := 8), fI_sV (c := 9), fI_sV (c := 10), fI_sV (c := 11), fI_sV (c := 12), fI_sV (c := 6), fL_sV (c := 9), fL_sV (c := 12), fI_sV_k, fL_sV_k, fV_sV_k, fI_wF, fI_wG, fI_wR, fL_wF, fL_wG, fL_wR, fV_wF, fV_wG, fV_wR, aF_sV, aG_sV, aR_sV, aF_wG, aF_wR, aG_wF, aG_wR, aR_wF, aR_wG, gO g, gF g, ti_lt, tl, true_and]
  refine c_scaleAt g x (fun c => ?_) (fun r s hr hs er es => ?_)
  · try dsimp only [jrI, jrN, jrA, jisr, jnul, jcat1]
    refine K _ _ (fun Q2 H => ?_)
    rw [jE_X12_step]
    refine jT_X12_step_0 ?_
    simp (decide := true) only [jgI_ob, jgf_ob, jgL_ob, jpI_ob, jpL_ob, jpR_ob, jpN_ob, jrc_ob, obj_sV, obj_wF, obj_wG, obj_wR, arr_sV, arr_wF, arr_wG, arr_wR, arL_sV, arL_wF, arL_wG, arL_wR, arR_sV, arR_wF, arR_wG, arR_wR, fI_sV (c := 0), fI_sV (c := 1), fI_sV (c := 2), fI_sV (c := 4), fI_sV (c := 5), fI_sV (c := 7), fI_sV (c := 8), fI_sV (c := 9), fI_sV (c := 10), fI_sV (c := 11), fI_sV (c := 12), fI_sV (c := 6), fL_sV (c := 9), fL_sV (c := 12), fI_sV_k, fL_sV_k, fV_sV_k, fI_wF, fI_wG, fI_wR, fL_wF, fL_wG, fL_wR, fV_wF, fV_wG, fV_wR, aF_sV, aG_sV, aR_sV, aF_wG, aF_wR, aG_wF, aG_wR, aR_wF, aR_wG, gM g, gN g, ti_lt, tl, true_and]
    refine c_isScale g x (fun c9 => ?_) (fun r s z1 z2 z3 z4 => absurd ⟨r, s, z1, z2, z3, z4⟩ c)
    exact jif_t rfl (H _ fr_rfl)
  · have nn := x.1
    obtain ⟨mm, -, -, -, -, -, -, -⟩ := x.2.2.2.1 r hr
    obtain ⟨w1, w2, sc, sm⟩ := x.2.2.2.2.1 r s hr hs
    have e8 := ix8 (by omega) (by omega) er es
    have iv : vp_in (8 * a1 + a2) 32 := by rw [vp_inI, e8]; omega
    have eg1 := sc.2.2.2.2.1
    have eg2 := sm.2.2.2.2.1
    have ef : (nI (f (8 * r + s))).toInt = f (8 * r + s) := nI_toInt (by have := sc.2.2.1; omega)
    try dsimp only [jrI, jrN, jrA, jisr, jnul, jcat1]
    have bad : ¬ (1 ≤ a3.toInt ∧ a3.toInt ≤ 300 ∧ 0 ≤ a4.toInt ∧ a4.toInt < f (8 * r + s) ∧ 1 ≤ a5.toInt ∧ a5.toInt ≤ 9) → Q (some (.int (-1))) h := by
      intro cc
      refine K _ _ (fun Q2 H => ?_)
      rw [jE_X12_step]
      refine jT_X12_step_0 ?_
      simp (decide := true) only [jgI_ob, jgf_ob, jgL_ob, jpI_ob, jpL_ob, jpR_ob, jpN_ob, jrc_ob, obj_sV, obj_wF, obj_wG, obj_wR, arr_sV, arr_wF, arr_wG, arr_wR, arL_sV, arL_wF, arL_wG, arL_wR, arR_sV, arR_wF, arR_wG, arR_wR, fI_sV (c := 0), fI_sV (c := 1), fI_sV (c := 2), fI_sV (c := 4), fI_sV (c := 5), fI_sV (c := 7), fI_sV (c := 8), fI_sV (c := 9), fI_sV (c := 10), fI_sV (c := 11), fI_sV (c := 12), fI_sV (c := 6), fL_sV (c := 9), fL_sV (c := 12), fI_sV_k, fL_sV_k, fV_sV_k, fI_wF, fI_wG, fI_wR, fL_wF, fL_wG, fL_wR, fV_wF, fV_wG, fV_wR, aF_sV, aG_sV, aR_sV, aF_wG, aF_wR, aG_wF, aG_wR, aR_wF, aR_wG, gM g, gN g, ti_lt, tl, true_and]
      refine c_isScale g x (fun c9 => absurd ⟨r, s, hr, hs, er, es⟩ c9) (fun _ _ _ _ _ _ => ?_)
      refine jif_n (by decide) ?_
      simp (decide := true) only [jgI_ob, jgf_ob, jgL_ob, jpI_ob, jpL_ob, jpR_ob, jpN_ob, jrc_ob, obj_sV, obj_wF, obj_wG, obj_wR, arr_sV, arr_wF, arr_wG, arr_wR, arL_sV, arL_wF, arL_wG, arL_wR, arR_sV, arR_wF, arR_wG, arR_wR, fI_sV (c := 0), fI_sV (c := 1), fI_sV (c := 2), fI_sV (c := 4), fI_sV (c := 5), fI_sV (c := 7), fI_sV (c := 8), fI_sV (c := 9), fI_sV (c := 10), fI_sV (c := 11), fI_sV (c := 12), fI_sV (c := 6), fL_sV (c := 9), fL_sV (c := 12), fI_sV_k, fL_sV_k, fV_sV_k, fI_wF, fI_wG, fI_wR, fL_wF, fL_wG, fL_wR, fV_wF, fV_wG, fV_wR, aF_sV, aG_sV, aR_sV, aF_wG, aF_wR, aG_wF, aG_wR, aR_wF, aR_wG, kC, kM, gM g, gN g, ti_clamp, iv, e8, Int.toNat_natCast, eg2, ef, ti_lt, tl, true_and]
      have HH := H _ fr_rfl
      exact ⟨fun _ => HH, fun _ => ⟨fun _ => HH, fun _ => ⟨fun _ => HH, fun _ => ⟨fun _ => ⟨fun _ => HH, fun _ => ⟨fun _ => HH, fun _ => absurd (by omega) cc⟩⟩, fun _ => HH⟩⟩⟩⟩
    refine c_isGap (fun c => ?_) (fun c0 c1 => ?_)
    · exact jif_t rfl (bad (by omega))
    · refine jif_n (by decide) ?_
      rw [jgI_ob sc.1 rfl, eg1, jrc_ob sc.1]
      simp (decide := true) only [ti_lt, tl, ef]
      refine ⟨fun c => bad (by omega), fun c2 => ⟨fun c3 => ⟨fun c => bad (by omega), fun c4 => ⟨fun c => bad (by omega), fun c5 => ?_⟩⟩, fun c => bad (by omega)⟩⟩
      refine c_partStep (q := 900 * a4.toInt.toNat + 100 * a5.toInt.toNat - 100) (e := a4.toInt.toNat) (p := a5.toInt.toNat) g sc (by omega) (by omega) (by omega) (by omega) (by omega) rfl ?_
      refine K _ _ (fun Q2 H => ?_)
      rw [jE_X12_step]
      refine jT_X12_step_0 ?_
      simp (decide := true) only [jgI_ob, jgf_ob, jgL_ob, jpI_ob, jpL_ob, jpR_ob, jpN_ob, jrc_ob, obj_sV, obj_wF, obj_wG, obj_wR, arr_sV, arr_wF, arr_wG, arr_wR, arL_sV, arL_wF, arL_wG, arL_wR, arR_sV, arR_wF, arR_wG, arR_wR, fI_sV (c := 0), fI_sV (c := 1), fI_sV (c := 2), fI_sV (c := 4), fI_sV (c := 5), fI_sV (c := 7), fI_sV (c := 8), fI_sV (c := 9), fI_sV (c := 10), fI_sV (c := 11), fI_sV (c := 12), fI_sV (c := 6), fL_sV (c := 9), fL_sV (c := 12), fI_sV_k, fL_sV_k, fV_sV_k, fI_wF, fI_wG, fI_wR, fL_wF, fL_wG, fL_wR, fV_wF, fV_wG, fV_wR, aF_sV, aG_sV, aR_sV, aF_wG, aF_wR, aG_wF, aG_wR, aR_wF, aR_wG, gM g, gN g, ti_lt, tl, true_and]
      refine c_isScale g x (fun c9 => absurd ⟨r, s, hr, hs, er, es⟩ c9) (fun _ _ _ _ _ _ => ?_)
      refine jif_n (by decide) ?_
      simp (decide := true) only [jgI_ob, jgf_ob, jgL_ob, jpI_ob, jpL_ob, jpR_ob, jpN_ob, jrc_ob, obj_sV, obj_wF, obj_wG, obj_wR, arr_sV, arr_wF, arr_wG, arr_wR, arL_sV, arL_wF, arL_wG, arL_wR, arR_sV, arR_wF, arR_wG, arR_wR, fI_sV (c := 0), fI_sV (c := 1), fI_sV (c := 2), fI_sV (c := 4), fI_sV (c := 5), fI_sV (c := 7), fI_sV (c := 8), fI_sV (c := 9), fI_sV (c := 10), fI_sV (c := 11), fI_sV (c := 12), fI_sV (c := 6), fL_sV (c := 9), fL_sV (c := 12), fI_sV_k, fL_sV_k, fV_sV_k, fI_wF, fI_wG, fI_wR, fL_wF, fL_wG, fL_wR, fV_wF, fV_wG, fV_wR, aF_sV, aG_sV, aR_sV, aF_wG, aF_wR, aG_wF, aG_wR, aR_wF, aR_wG, kC, kM, gM g, gN g, ti_clamp, iv, e8, Int.toNat_natCast, eg2, ef, ti_lt, tl, true_and]
      repeat (first | refine jif_t (by omega) ?_ | refine jif_n (by omega) ?_ | refine ⟨by omega, ?_⟩)
      exact c_divided (q := 900 * a4.toInt.toNat + 100 * a5.toInt.toNat - 100) (e := a4.toInt.toNat) (p := a5.toInt.toNat) g sm e8 (by omega) (by omega) (by omega) (by omega) (by omega) rfl (H _ fr_rfl)
theorem a_marks (g : G h) (x : RB h n m ρ τ b f t fl) {a1 a2 a3 : Int32} : AGR X 257 259 [.int a1, .int a2, .int a3] h (fun h2 => fr [] [] h h2) := by
  intro Q K
  rw [jE_X11_marks]
  refine jT_X11_marks_0 ?_
  simp (decide := true) only [jgI_ob, jgf_ob, jgL_ob, jpI_ob, jpL_ob, jpR_ob, jpN_ob, jrc_ob, obj_sV, obj_wF, obj_wG, obj_wR, arr_sV, arr_wF, arr_wG, arr_wR, arL_sV, arL_wF, arL_wG, arL_wR, arR_sV, arR_wF, arR_wG, arR_wR, fI_sV (c := 0), fI_sV (c := 1), fI_sV (c := 2), fI_sV (c := 4), fI_sV (c := 5), fI_sV (c := 7), fI_sV (c := 8), fI_sV (c := 9), fI_sV (c := 10), fI_sV (c := 11), fI_sV (c := 12), fI_sV (c := 6), fL_sV (c := 9), fL_sV (c := 12), fI_sV_k, fL_sV_k, fV_sV_k, fI_wF, fI_wG, fI_wR, fL_wF, fL_wG, fL_wR, fV_wF, fV_wG, fV_wR, aF_sV, aG_sV, aR_sV, aF_wG, aF_wR, aG_wF, aG_wR, aR_wF, aR_wG, gO g, gF g, ti_lt, tl, true_and]
  refine c_scaleAt g x (fun c => ?_) (fun r s hr hs er es => ?_)
  · try dsimp only [jrI, jrN, jrA, jisr, jnul, jcat1]
    refine K _ _ (fun Q2 H => ?_)
    rw [jE_X12_marks]
    refine jT_X12_marks_0 ?_
    simp (decide := true) only [jgI_ob, jgf_ob, jgL_ob, jpI_ob, jpL_ob, jpR_ob, jpN_ob, jrc_ob, obj_sV, obj_wF, obj_wG, obj_wR, arr_sV, arr_wF, arr_wG, arr_wR, arL_sV, arL_wF, arL_wG, arL_wR, arR_sV, arR_wF, arR_wG, arR_wR, fI_sV (c := 0), fI_sV (c := 1), fI_sV (c := 2), fI_sV (c := 4), fI_sV (c := 5), fI_sV (c := 7), fI_sV (c := 8), fI_sV (c := 9), fI_sV (c := 10), fI_sV (c := 11), fI_sV (c := 12), fI_sV (c := 6), fL_sV (c := 9), fL_sV (c := 12), fI_sV_k, fL_sV_k, fV_sV_k, fI_wF, fI_wG, fI_wR, fL_wF, fL_wG, fL_wR, fV_wF, fV_wG, fV_wR, aF_sV, aG_sV, aR_sV, aF_wG, aF_wR, aG_wF, aG_wR, aR_wF, aR_wG, gM g, gN g, ti_lt, tl, true_and]
    refine c_isScale g x (fun c9 => ?_) (fun r s z1 z2 z3 z4 => absurd ⟨r, s, z1, z2, z3, z4⟩ c)
    exact jif_t rfl (H _ fr_rfl)
  · have nn := x.1
    obtain ⟨mm, -, -, -, -, -, -, -⟩ := x.2.2.2.1 r hr
    obtain ⟨w1, w2, sc, sm⟩ := x.2.2.2.2.1 r s hr hs
    have e8 := ix8 (by omega) (by omega) er es
    try dsimp only [jrI, jrN, jrA, jisr, jnul, jcat1]
    refine c_isGap (fun c => ?_) (fun c0 c1 => ?_)
    · refine jif_t rfl ?_
      refine K _ _ (fun Q2 H => ?_)
      rw [jE_X12_marks]
      refine jT_X12_marks_0 ?_
      simp (decide := true) only [jgI_ob, jgf_ob, jgL_ob, jpI_ob, jpL_ob, jpR_ob, jpN_ob, jrc_ob, obj_sV, obj_wF, obj_wG, obj_wR, arr_sV, arr_wF, arr_wG, arr_wR, arL_sV, arL_wF, arL_wG, arL_wR, arR_sV, arR_wF, arR_wG, arR_wR, fI_sV (c := 0), fI_sV (c := 1), fI_sV (c := 2), fI_sV (c := 4), fI_sV (c := 5), fI_sV (c := 7), fI_sV (c := 8), fI_sV (c := 9), fI_sV (c := 10), fI_sV (c := 11), fI_sV (c := 12), fI_sV (c := 6), fL_sV (c := 9), fL_sV (c := 12), fI_sV_k, fL_sV_k, fV_sV_k, fI_wF, fI_wG, fI_wR, fL_wF, fL_wG, fL_wR, fV_wF, fV_wG, fV_wR, aF_sV, aG_sV, aR_sV, aF_wG, aF_wR, aG_wF, aG_wR, aR_wF, aR_wG, gM g, gN g, ti_lt, tl, true_and]
      refine c_isScale g x (fun c9 => absurd ⟨r, s, hr, hs, er, es⟩ c9) (fun _ _ _ _ _ _ => ?_)
      refine jif_n (by decide) ?_
      try simp (decide := true) only [ti_lt, tl]
      have HH := H _ fr_rfl
      exact ⟨fun _ => HH, fun _ => ⟨fun _ => HH, fun _ => absurd (by omega) c⟩⟩
    · refine jif_n (by decide) ?_
      rw [jrc_ob sc.1]
      refine c_dividedMarks g sc ?_
      refine K _ _ (fun Q2 H => ?_)
      rw [jE_X12_marks]
      refine jT_X12_marks_0 ?_
      simp (decide := true) only [jgI_ob, jgf_ob, jgL_ob, jpI_ob, jpL_ob, jpR_ob, jpN_ob, jrc_ob, obj_sV, obj_wF, obj_wG, obj_wR, arr_sV, arr_wF, arr_wG, arr_wR, arL_sV, arL_wF, arL_wG, arL_wR, arR_sV, arR_wF, arR_wG, arR_wR, fI_sV (c := 0), fI_sV (c := 1), fI_sV (c := 2), fI_sV (c := 4), fI_sV (c := 5), fI_sV (c := 7), fI_sV (c := 8), fI_sV (c := 9), fI_sV (c := 10), fI_sV (c := 11), fI_sV (c := 12), fI_sV (c := 6), fL_sV (c := 9), fL_sV (c := 12), fI_sV_k, fL_sV_k, fV_sV_k, fI_wF, fI_wG, fI_wR, fL_wF, fL_wG, fL_wR, fV_wF, fV_wG, fV_wR, aF_sV, aG_sV, aR_sV, aF_wG, aF_wR, aG_wF, aG_wR, aR_wF, aR_wG, gM g, gN g, ti_lt, tl, true_and]
      refine c_isScale g x (fun c9 => absurd ⟨r, s, hr, hs, er, es⟩ c9) (fun _ _ _ _ _ _ => ?_)
      refine jif_n (by decide) ?_
      try simp (decide := true) only [ti_lt, tl]
      repeat (first | refine jif_t (by omega) ?_ | refine jif_n (by omega) ?_ | refine ⟨by omega, ?_⟩)
      exact l_marks g sm e8 (H _ fr_rfl) _ _
end STC
