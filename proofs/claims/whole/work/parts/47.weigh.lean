/-! WEIGHING THE GUESSES: the class -/
def dl (c1 c2 : Prop) [Decidable c1] [Decidable c2] : Int := (if c1 then 1 else 0) - (if c2 then 1 else 0)
def tI (A : Nat → Int32) : Nat → Int := fun k => (A k).toInt
theorem bi_inj {a b : Bool} : bi a = bi b ↔ a = b := by cases a <;> cases b <;> decide
section WGH
variable {X : JX} {d : Nat} {Q : JQ} {h : JH} {A72 A73 A74 A75 A76 : Nat → Int32}
theorem c_flawAt {a : Int32} {i : Nat} (ha : a.toInt = i) (hi : i < 40) (H : ∀ r : Int32, r.toInt = flw i → Q (some (.int r)) h) : jex X (d + 1) 284 [.int a] h Q := by
  rw [jE_X0_flawAt]
  have e1 : (a - 20).toInt = (i : Int) - 20 := (by simp only [Int32.toInt_add, Int32.toInt_sub, Int32.toInt_mul, Int32.toInt_neg, Int.bmod_def, tl]; omega)
  have e2 : (a - 20 + 1).toInt = (i : Int) - 19 := (by simp only [Int32.toInt_add, Int32.toInt_sub, Int32.toInt_mul, Int32.toInt_neg, Int.bmod_def, tl]; omega)
  refine jT_X0_flawAt_0 ⟨fun c => H _ ?_, fun c => H _ ?_⟩
  · rw [ti_lt, ha, show (20 : Int32).toInt = 20 from rfl] at c
    unfold flw
    rw [if_pos (by omega), e1]
  · rw [ti_lt, ha, show (20 : Int32).toInt = 20 from rfl] at c
    unfold flw
    rw [if_neg (by omega), e2]
theorem c_absI {a : Int32} (h0 : -1000000 ≤ a.toInt) (h1 : a.toInt ≤ 1000000) (H : ∀ r : Int32, r.toInt = abi a.toInt → Q (some (.int r)) h) : jex X (d + 1) 125 [.int a] h Q := by
  refine c_abs (by omega) (H _ ?_)
  rw [zt (by omega) (by omega)]
  rfl
theorem l_wf (g : G h) {a1 a2 a3 a4 a5 : Int32} {F σ : Nat} (h1 : a1.toInt = F) (hF : F < 80) (h2 : a2.toInt = σ) (hσ : σ < 128) {sn : Int} (h3 : a3.toInt = sn) (hs : sn = 1 ∨ sn = -1) {ap : Int} (e73 : (aF h 73 F).toInt = ap) (hap0 : -5000 ≤ ap) (hap1 : ap ≤ 5000) (h5 : a5 = bi (decide (a4.toInt < abi ap))) (hb : ∀ i, i < 40 → -10000 ≤ (aF h 78 (1 + 40 * σ + i)).toInt ∧ (aF h 78 (1 + 40 * σ + i)).toInt ≤ 10000 ∧ -100000 ≤ (aF h 79 (1 + 40 * σ + i)).toInt ∧ (aF h 79 (1 + 40 * σ + i)).toInt ≤ 100000) (H : ∀ h', fr [78, 79] [] h h' → (∀ v, (∀ i, i < 40 → v ≠ 1 + 40 * σ + i) → aF h' 78 v = aF h 78 v ∧ aF h' 79 v = aF h 79 v) → (∀ i, i < 40 → (aF h' 78 (1 + 40 * σ + i)).toInt = (aF h 78 (1 + 40 * σ + i)).toInt + dl (a4.toInt < abi (ap + sn * flw i)) (a4.toInt < abi ap) ∧ (aF h' 79 (1 + 40 * σ + i)).toInt = (aF h 79 (1 + 40 * σ + i)).toInt + F * dl (a4.toInt < abi (ap + sn * flw i)) (a4.toInt < abi ap)) → Q none h') : ∀ (j i : Nat) (h' : JH) (a6 : Int32) (o7 o8 : Option Value) (c z : Nat), j + i = 40 → a6.toInt = i → fr [78, 79] [] h h' → (∀ v, (∀ u, u < i → v ≠ 1 + 40 * σ + u) → aF h' 78 v = aF h 78 v ∧ aF h' 79 v = aF h 79 v) → (∀ i', i' < i → (aF h' 78 (1 + 40 * σ + i')).toInt = (aF h 78 (1 + 40 * σ + i')).toInt + dl (a4.toInt < abi (ap + sn * flw i')) (a4.toInt < abi ap) ∧ (aF h' 79 (1 + 40 * σ + i')).toInt = (aF h 79 (1 + 40 * σ + i')).toInt + F * dl (a4.toInt < abi (ap + sn * flw i')) (a4.toInt < abi ap)) → jB_X0_weighFlaws_24 X (d + 1) Q 71 a1 a2 a3 a4 a5 a6 o7 o8 h' c z := by
  intro j
  induction j with
  | zero =>
    intro i h' a6 o7 o8 c z hj h6 k u1 u2
    have hi : i = 40 := by omega
    subst hi
    refine jT_X0_weighFlaws_24 (jif_n (by rw [ti_lt, h6]; decide) (H h' k u1 u2))
  | succ j ih =>
    intro i h' a6 o7 o8 c z hj h6 k u1 u2
    have g' := G_fr g rfl k
    have e73' : aF h' 73 = aF h 73 := frF k (by decide)
    have hfl := flw_rg (i := i) (by omega)
    have h6' : (a6 + 1).toInt = ((i + 1 : Nat) : Int) := (by simp only [Int32.toInt_add, Int32.toInt_sub, Int32.toInt_mul, Int32.toInt_neg, Int.bmod_def, tl]; omega)
    have en : (1 + a2 * 40 + a6).toInt = ((1 + 40 * σ + i : Nat) : Int) := by
      have e1 : (a2 * 40).toInt = 40 * (σ : Int) := (by simp only [Int32.toInt_add, Int32.toInt_sub, Int32.toInt_mul, Int32.toInt_neg, Int.bmod_def, tl]; omega)
      have e2 : (1 + a2 * 40).toInt = 1 + 40 * (σ : Int) := by
        generalize a2 * 40 = w at e1; exact (by simp only [Int32.toInt_add, Int32.toInt_sub, Int32.toInt_mul, Int32.toInt_neg, Int.bmod_def, tl]; omega)
      generalize 1 + a2 * 40 = w at e2; exact (by simp only [Int32.toInt_add, Int32.toInt_sub, Int32.toInt_mul, Int32.toInt_neg, Int.bmod_def, tl]; omega)
    have iv : vp_in (1 + a2 * 40 + a6) 5121 := by rw [vp_inI, en]; omega
    have u0 := u1 (1 + 40 * σ + i) (fun u hu => by omega)
    have hbi := hb i (by omega)
    refine jT_X0_weighFlaws_24 (jif_t (by rw [ti_lt, h6, show (40 : Int32).toInt = 40 from rfl]; omega) ?_)
    simp (decide := true) only [jgI_ob, jgf_ob, jgL_ob, jpI_ob, jpL_ob, jpR_ob, jpN_ob, jrc_ob, obj_sV, obj_wF, obj_wG, obj_wR, arr_sV, arr_wF, arr_wG, arr_wR, arL_sV, arL_wF, arL_wG, arL_wR, arR_sV, arR_wF, arR_wG, arR_wR, fI_sV (c := 0), fI_sV (c := 1), fI_sV (c := 2), fI_sV (c := 4), fI_sV (c := 5), fI_sV (c := 7), fI_sV (c := 8), fI_sV (c := 9), fI_sV (c := 10), fI_sV (c := 11), fI_sV (c := 12), fI_sV (c := 6), fL_sV (c := 9), fL_sV (c := 12), fI_sV_k, fL_sV_k, fV_sV_k, fI_wF, fI_wG, fI_wR, fL_wF, fL_wG, fL_wR, fV_wF, fV_wG, fV_wR, aF_sV, aG_sV, aR_sV, aF_wG, aF_wR, aG_wF, aG_wR, aR_wF, aR_wG, kC, kM, gO g', gF g', ti_clamp, h1, Int.toNat_natCast, e73']
    refine ⟨by rw [vp_inI]; omega, c_flawAt h6 (by omega) (fun w hw => ?_)⟩
    try dsimp only [jrI, jrN, jrA, jisr, jnul, jcat1]
    have hp : (a3 * w).toInt = sn * flw i := by
      have hb2 : -20 ≤ a3.toInt * w.toInt ∧ a3.toInt * w.toInt ≤ 20 := by
        rw [h3, hw]; rcases hs with e | e <;> rw [e] <;> omega
      rw [ti_mul (by omega) (by omega), h3, hw]
    have hq : (aF h 73 F + a3 * w).toInt = ap + sn * flw i := by
      have hb2 : -20 ≤ sn * flw i ∧ sn * flw i ≤ 20 := by rcases hs with e | e <;> rw [e] <;> omega
      rw [ti_add (by omega) (by omega), hp, e73]
    have hb3 : -20 ≤ sn * flw i ∧ sn * flw i ≤ 20 := by rcases hs with e | e <;> rw [e] <;> omega
    refine c_absI (by omega) (by omega) (fun x hx => ?_)
    try dsimp only [jrI, jrN, jrA, jisr, jnul, jcat1]
    rw [hq] at hx
    -- what the loop's second half does, from either bit
    have S : ∀ (bt : Bool) (c z : Nat), bt = decide (a4.toInt < abi (ap + sn * flw i)) → jB_X0_weighFlaws_58 X (d + 1) Q 71 a1 a2 a3 a4 a5 a6 o7 o8 (bi bt) h' c z := by
      intro bt c z hbt
      have same : dl (a4.toInt < abi (ap + sn * flw i)) (a4.toInt < abi ap) = (if bt then 1 else 0) - (if decide (a4.toInt < abi ap) then 1 else 0) := by
        unfold dl
        rw [hbt]
        simp
      refine jT_X0_weighFlaws_58 ⟨fun c1 => ?_, fun c1 => ?_⟩
      · refine ih (i + 1) h' _ _ _ _ _ (by omega) h6' k (fun v hv => u1 v (fun u hu => hv u (by omega))) (fun i' hi' => ?_)
        by_cases e : i' = i
        · subst e
          have eq : bt = decide (a4.toInt < abi ap) := by
            rw [h5] at c1
            exact bi_inj.mp c1
          rw [same, eq, u0.1, u0.2]
          simp
        · exact u2 i' (by omega)
      · have hne : bt = !(decide (a4.toInt < abi ap)) := by
          rw [h5] at c1
          have nn : bt ≠ decide (a4.toInt < abi ap) := fun e => c1 (bi_inj.mpr e)
          generalize decide (a4.toInt < abi ap) = b2 at nn ⊢
          cases bt <;> cases b2 <;> first | rfl | exact absurd rfl nn
        refine jif_n (by rw [ti_lt, en, tl.1]; omega) ?_
        simp (decide := true) only [jgI_ob, jgf_ob, jgL_ob, jpI_ob, jpL_ob, jpR_ob, jpN_ob, jrc_ob, obj_sV, obj_wF, obj_wG, obj_wR, arr_sV, arr_wF, arr_wG, arr_wR, arL_sV, arL_wF, arL_wG, arL_wR, arR_sV, arR_wF, arR_wG, arR_wR, fI_sV (c := 0), fI_sV (c := 1), fI_sV (c := 2), fI_sV (c := 4), fI_sV (c := 5), fI_sV (c := 7), fI_sV (c := 8), fI_sV (c := 9), fI_sV (c := 10), fI_sV (c := 11), fI_sV (c := 12), fI_sV (c := 6), fL_sV (c := 9), fL_sV (c := 12), fI_sV_k, fL_sV_k, fV_sV_k, fI_wF, fI_wG, fI_wR, fL_wF, fL_wG, fL_wR, fV_wF, fV_wG, fV_wR, aF_sV, aG_sV, aR_sV, aF_wG, aF_wR, aG_wF, aG_wR, aR_wF, aR_wG, kC, kM, gO g', gF g', ti_clamp, en, Int.toNat_natCast, ti_lt, tn, jcat1, fV_wF, aF_wF_ne, arr_wF]
        refine jif_t (by omega) ?_
        simp only [u0.1, u0.2]
        cases bt
        · have hd : decide (a4.toInt < abi ap) = true := by cases e : decide (a4.toInt < abi ap) <;> rw [e] at hne <;> first | rfl | cases hne
          have m1 : (aF h 78 (1 + 40 * σ + i) + (-1)).toInt = (aF h 78 (1 + 40 * σ + i)).toInt - 1 := (by simp only [Int32.toInt_add, Int32.toInt_sub, Int32.toInt_mul, Int32.toInt_neg, Int.bmod_def, tl]; omega)
          have m2 : (aF h 79 (1 + 40 * σ + i) + (-a1)).toInt = (aF h 79 (1 + 40 * σ + i)).toInt - F := (by simp only [Int32.toInt_add, Int32.toInt_sub, Int32.toInt_mul, Int32.toInt_neg, Int.bmod_def, tl]; omega)
          refine ⟨iv, jif_t rfl ⟨iv, iv, jif_t rfl ⟨iv, ?_⟩⟩⟩
          refine ih (i + 1) _ _ _ _ _ _ (by omega) h6' (fr_wF (by decide) (fr_wF (by decide) k)) (fun v hv => ?_) (fun i' hi' => ?_)
          · simp (decide := true) only [jgI_ob, jgf_ob, jgL_ob, jpI_ob, jpL_ob, jpR_ob, jpN_ob, jrc_ob, obj_sV, obj_wF, obj_wG, obj_wR, arr_sV, arr_wF, arr_wG, arr_wR, arL_sV, arL_wF, arL_wG, arL_wR, arR_sV, arR_wF, arR_wG, arR_wR, fI_sV (c := 0), fI_sV (c := 1), fI_sV (c := 2), fI_sV (c := 4), fI_sV (c := 5), fI_sV (c := 7), fI_sV (c := 8), fI_sV (c := 9), fI_sV (c := 10), fI_sV (c := 11), fI_sV (c := 12), fI_sV (c := 6), fL_sV (c := 9), fL_sV (c := 12), fI_sV_k, fL_sV_k, fV_sV_k, fI_wF, fI_wG, fI_wR, fL_wF, fL_wG, fL_wR, fV_wF, fV_wG, fV_wR, aF_sV, aG_sV, aR_sV, aF_wG, aF_wR, aG_wF, aG_wR, aR_wF, aR_wG, kC, kM, gO g', aF_wF_ne, upd_n (hv i (by omega))]
            exact u1 v (fun u hu => hv u (by omega))
          · simp (decide := true) only [jgI_ob, jgf_ob, jgL_ob, jpI_ob, jpL_ob, jpR_ob, jpN_ob, jrc_ob, obj_sV, obj_wF, obj_wG, obj_wR, arr_sV, arr_wF, arr_wG, arr_wR, arL_sV, arL_wF, arL_wG, arL_wR, arR_sV, arR_wF, arR_wG, arR_wR, fI_sV (c := 0), fI_sV (c := 1), fI_sV (c := 2), fI_sV (c := 4), fI_sV (c := 5), fI_sV (c := 7), fI_sV (c := 8), fI_sV (c := 9), fI_sV (c := 10), fI_sV (c := 11), fI_sV (c := 12), fI_sV (c := 6), fL_sV (c := 9), fL_sV (c := 12), fI_sV_k, fL_sV_k, fV_sV_k, fI_wF, fI_wG, fI_wR, fL_wF, fL_wG, fL_wR, fV_wF, fV_wG, fV_wR, aF_sV, aG_sV, aR_sV, aF_wG, aF_wR, aG_wF, aG_wR, aR_wF, aR_wG, kC, kM, gO g', aF_wF_ne]
            by_cases e : i' = i
            · subst e
              rw [upd_s, upd_s, m1, m2, same, hd]
              simp
              omega
            · rw [upd_n (by omega), upd_n (by omega)]
              exact u2 i' (by omega)
        · have hd : decide (a4.toInt < abi ap) = false := by cases e : decide (a4.toInt < abi ap) <;> rw [e] at hne <;> first | rfl | cases hne
          have m1 : (aF h 78 (1 + 40 * σ + i) + 1).toInt = (aF h 78 (1 + 40 * σ + i)).toInt + 1 := (by simp only [Int32.toInt_add, Int32.toInt_sub, Int32.toInt_mul, Int32.toInt_neg, Int.bmod_def, tl]; omega)
          have m2 : (aF h 79 (1 + 40 * σ + i) + a1).toInt = (aF h 79 (1 + 40 * σ + i)).toInt + F := (by simp only [Int32.toInt_add, Int32.toInt_sub, Int32.toInt_mul, Int32.toInt_neg, Int.bmod_def, tl]; omega)
          refine ⟨iv, jif_n (by decide) ⟨iv, iv, jif_n (by decide) ⟨iv, ?_⟩⟩⟩
          refine ih (i + 1) _ _ _ _ _ _ (by omega) h6' (fr_wF (by decide) (fr_wF (by decide) k)) (fun v hv => ?_) (fun i' hi' => ?_)
          · simp (decide := true) only [jgI_ob, jgf_ob, jgL_ob, jpI_ob, jpL_ob, jpR_ob, jpN_ob, jrc_ob, obj_sV, obj_wF, obj_wG, obj_wR, arr_sV, arr_wF, arr_wG, arr_wR, arL_sV, arL_wF, arL_wG, arL_wR, arR_sV, arR_wF, arR_wG, arR_wR, fI_sV (c := 0), fI_sV (c := 1), fI_sV (c := 2), fI_sV (c := 4), fI_sV (c := 5), fI_sV (c := 7), fI_sV (c := 8), fI_sV (c := 9), fI_sV (c := 10), fI_sV (c := 11), fI_sV (c := 12), fI_sV (c := 6), fL_sV (c := 9), fL_sV (c := 12), fI_sV_k, fL_sV_k, fV_sV_k, fI_wF, fI_wG, fI_wR, fL_wF, fL_wG, fL_wR, fV_wF, fV_wG, fV_wR, aF_sV, aG_sV, aR_sV, aF_wG, aF_wR, aG_wF, aG_wR, aR_wF, aR_wG, kC, kM, gO g', aF_wF_ne, upd_n (hv i (by omega))]
            exact u1 v (fun u hu => hv u (by omega))
          · simp (decide := true) only [jgI_ob, jgf_ob, jgL_ob, jpI_ob, jpL_ob, jpR_ob, jpN_ob, jrc_ob, obj_sV, obj_wF, obj_wG, obj_wR, arr_sV, arr_wF, arr_wG, arr_wR, arL_sV, arL_wF, arL_wG, arL_wR, arR_sV, arR_wF, arR_wG, arR_wR, fI_sV (c := 0), fI_sV (c := 1), fI_sV (c := 2), fI_sV (c := 4), fI_sV (c := 5), fI_sV (c := 7), fI_sV (c := 8), fI_sV (c := 9), fI_sV (c := 10), fI_sV (c := 11), fI_sV (c := 12), fI_sV (c := 6), fL_sV (c := 9), fL_sV (c := 12), fI_sV_k, fL_sV_k, fV_sV_k, fI_wF, fI_wG, fI_wR, fL_wF, fL_wG, fL_wR, fV_wF, fV_wG, fV_wR, aF_sV, aG_sV, aR_sV, aF_wG, aF_wR, aG_wF, aG_wR, aR_wF, aR_wG, kC, kM, gO g', aF_wF_ne]
            by_cases e : i' = i
            · subst e
              rw [upd_s, upd_s, m1, m2, same, hd]
              simp
            · rw [upd_n (by omega), upd_n (by omega)]
              exact u2 i' (by omega)
    refine ⟨fun c1 => ?_, fun c1 => ?_⟩
    · rw [ti_lt, hx] at c1
      exact S true _ _ (by rw [decide_eq_true c1])
    · rw [ti_lt, hx] at c1
      exact S false _ _ (by rw [decide_eq_false c1])
theorem c_weighFlaws (g : G h) {a1 a2 a3 a4 : Int32} {F σ : Nat} (h1 : a1.toInt = F) (hF : F < 80) (h2 : a2.toInt = σ) (hσ : σ < 128) {sn : Int} (h3 : a3.toInt = sn) (hs : sn = 1 ∨ sn = -1) {ap : Int} (e73 : (aF h 73 F).toInt = ap) (hap0 : -5000 ≤ ap) (hap1 : ap ≤ 5000) (hb : ∀ i, i < 40 → -10000 ≤ (aF h 78 (1 + 40 * σ + i)).toInt ∧ (aF h 78 (1 + 40 * σ + i)).toInt ≤ 10000 ∧ -100000 ≤ (aF h 79 (1 + 40 * σ + i)).toInt ∧ (aF h 79 (1 + 40 * σ + i)).toInt ≤ 100000) (H : ∀ h', fr [78, 79] [] h h' → (∀ v, (∀ i, i < 40 → v ≠ 1 + 40 * σ + i) → aF h' 78 v = aF h 78 v ∧ aF h' 79 v = aF h 79 v) → (∀ i, i < 40 → (aF h' 78 (1 + 40 * σ + i)).toInt = (aF h 78 (1 + 40 * σ + i)).toInt + dl (a4.toInt < abi (ap + sn * flw i)) (a4.toInt < abi ap) ∧ (aF h' 79 (1 + 40 * σ + i)).toInt = (aF h 79 (1 + 40 * σ + i)).toInt + F * dl (a4.toInt < abi (ap + sn * flw i)) (a4.toInt < abi ap)) → Q none h') : jex X (d + 2) 283 [.ref 71, .int a1, .int a2, .int a3, .int a4] h Q := by
  rw [jE_X0_weighFlaws]
  refine jT_X0_weighFlaws_0 ?_
  simp (decide := true) only [jgI_ob, jgf_ob, jgL_ob, jpI_ob, jpL_ob, jpR_ob, jpN_ob, jrc_ob, obj_sV, obj_wF, obj_wG, obj_wR, arr_sV, arr_wF, arr_wG, arr_wR, arL_sV, arL_wF, arL_wG, arL_wR, arR_sV, arR_wF, arR_wG, arR_wR, fI_sV (c := 0), fI_sV (c := 1), fI_sV (c := 2), fI_sV (c := 4), fI_sV (c := 5), fI_sV (c := 7), fI_sV (c := 8), fI_sV (c := 9), fI_sV (c := 10), fI_sV (c := 11), fI_sV (c := 12), fI_sV (c := 6), fL_sV (c := 9), fL_sV (c := 12), fI_sV_k, fL_sV_k, fV_sV_k, fI_wF, fI_wG, fI_wR, fL_wF, fL_wG, fL_wR, fV_wF, fV_wG, fV_wR, aF_sV, aG_sV, aR_sV, aF_wG, aF_wR, aG_wF, aG_wR, aR_wF, aR_wG, kC, kM, gO g, gF g, ti_clamp, h1, Int.toNat_natCast]
  refine ⟨by rw [vp_inI]; omega, c_absI (by omega) (by omega) (fun x hx => ?_)⟩
  try dsimp only [jrI, jrN, jrA, jisr, jnul, jcat1]
  rw [e73] at hx
  refine ⟨fun c => ?_, fun c => ?_⟩
  · rw [ti_lt, hx] at c
    exact l_wf g h1 hF h2 hσ h3 hs e73 hap0 hap1 (by rw [decide_eq_true c]; rfl) hb H 40 0 h 0 _ _ _ _ rfl rfl fr_rfl (fun v _ => ⟨rfl, rfl⟩) (fun i' hi' => by omega)
  · rw [ti_lt, hx] at c
    exact l_wf g h1 hF h2 hσ h3 hs e73 hap0 hap1 (by rw [decide_eq_false c]; rfl) hb H 40 0 h 0 _ _ _ _ rfl rfl fr_rfl (fun v _ => ⟨rfl, rfl⟩) (fun i' hi' => by omega)
theorem c_noteKnown (g : G h) {a1 a2 : Int32} {r : Int} {N : Nat} (h1 : a1.toInt = r) (h2 : a2.toInt = N) (hN : N ≤ 80) (H : ∀ h', fr [77] [] h h' → (∀ k, k < 80 → aF h' 77 k = bi (knS (tI (aF h 72)) (tI (aF h 76)) r N N k)) → Q none h') : jex X (d + 1) 282 [.ref 71, .int a1, .int a2] h Q := by
  have L2 : ∀ (j i : Nat) (h' : JH) (a3 : Int32) (o1 : Option Value) (c z : Nat), j + i = N → a3.toInt = i → fr [77] [] h h' → (∀ k, k < 80 → aF h' 77 k = bi (knS (tI (aF h 72)) (tI (aF h 76)) r N i k)) → jB_X0_noteKnown_45 X d Q 71 o1 a2 a3 h' c z := by
    intro j
    induction j with
    | zero =>
      intro i h' a3 o1 c z hj h3 k u
      have : i = N := by omega
      subst this
      exact jT_X0_noteKnown_45 (jif_n (by rw [ti_lt]; omega) (H h' k u))
    | succ j ih =>
      intro i h' a3 o1 c z hj h3 k u
      have g' := G_fr g rfl k
      have e72 : aF h' 72 = aF h 72 := frF k (by decide)
      have e76 : aF h' 76 = aF h 76 := frF k (by decide)
      have h3' : (a3 + 1).toInt = ((i + 1 : Nat) : Int) := (by simp only [Int32.toInt_add, Int32.toInt_sub, Int32.toInt_mul, Int32.toInt_neg, Int.bmod_def, tl]; omega)
      have iv : vp_in a3 80 := by rw [vp_inI]; omega
      refine jT_X0_noteKnown_45 (jif_t (by rw [ti_lt]; omega) ?_)
      simp (decide := true) only [jgI_ob, jgf_ob, jgL_ob, jpI_ob, jpL_ob, jpR_ob, jpN_ob, jrc_ob, obj_sV, obj_wF, obj_wG, obj_wR, arr_sV, arr_wF, arr_wG, arr_wR, arL_sV, arL_wF, arL_wG, arL_wR, arR_sV, arR_wF, arR_wG, arR_wR, fI_sV (c := 0), fI_sV (c := 1), fI_sV (c := 2), fI_sV (c := 4), fI_sV (c := 5), fI_sV (c := 7), fI_sV (c := 8), fI_sV (c := 9), fI_sV (c := 10), fI_sV (c := 11), fI_sV (c := 12), fI_sV (c := 6), fL_sV (c := 9), fL_sV (c := 12), fI_sV_k, fL_sV_k, fV_sV_k, fI_wF, fI_wG, fI_wR, fL_wF, fL_wG, fL_wR, fV_wF, fV_wG, fV_wR, aF_sV, aG_sV, aR_sV, aF_wG, aF_wR, aG_wF, aG_wR, aR_wF, aR_wG, kC, kM, gO g', gF g', ti_clamp, h3, Int.toNat_natCast, ti_lt, ti_eq, tl, tn, iv, true_and, e72, e76]
      have nar0 : vp_nar .boolean (0 : Int32) = 0 := rfl
      refine jif_t (by omega) ⟨fun c1 => ⟨fun c2 => ?_, fun c2 => ⟨fun c3 => ?_, fun c3 => ?_⟩⟩, fun c1 => ?_⟩
      · refine ih (i + 1) h' _ _ _ _ (by omega) h3' k (fun q hq => ?_)
        rw [u q hq, knS_s]
        have : decide (tI (aF h 76) i = (q : Int)) = false := decide_eq_false (fun e => by unfold tI at e; omega)
        rw [this]
        simp
      · refine ⟨by rw [vp_inI]; omega, ?_⟩
        refine ih (i + 1) _ _ _ _ _ (by omega) h3' (fr_wF (by decide) k) (fun q hq => ?_)
        simp (decide := true) only [jgI_ob, jgf_ob, jgL_ob, jpI_ob, jpL_ob, jpR_ob, jpN_ob, jrc_ob, obj_sV, obj_wF, obj_wG, obj_wR, arr_sV, arr_wF, arr_wG, arr_wR, arL_sV, arL_wF, arL_wG, arL_wR, arR_sV, arR_wF, arR_wG, arR_wR, fI_sV (c := 0), fI_sV (c := 1), fI_sV (c := 2), fI_sV (c := 4), fI_sV (c := 5), fI_sV (c := 7), fI_sV (c := 8), fI_sV (c := 9), fI_sV (c := 10), fI_sV (c := 11), fI_sV (c := 12), fI_sV (c := 6), fL_sV (c := 9), fL_sV (c := 12), fI_sV_k, fL_sV_k, fV_sV_k, fI_wF, fI_wG, fI_wR, fL_wF, fL_wG, fL_wR, fV_wF, fV_wG, fV_wR, aF_sV, aG_sV, aR_sV, aF_wG, aF_wR, aG_wF, aG_wR, aR_wF, aR_wG, kC, kM, gO g']
        rw [nar0, knS_s]
        by_cases e : q = (aF h 76 i).toInt.toNat
        · subst e
          rw [upd_s]
          have e1 : decide (tI (aF h 72) i = -1) = true := decide_eq_true c1
          have e2 : decide (tI (aF h 76) i = (((aF h 76 i).toInt.toNat : Nat) : Int)) = true := decide_eq_true (by unfold tI; omega)
          rw [e1, e2]
          simp [bi]
        · rw [upd_n e, u q hq]
          have : decide (tI (aF h 76) i = (q : Int)) = false := decide_eq_false (fun e2 => by unfold tI at e2; omega)
          rw [this]
          simp
      · refine ih (i + 1) h' _ _ _ _ (by omega) h3' k (fun q hq => ?_)
        rw [u q hq, knS_s]
        have : decide (tI (aF h 76) i = (q : Int)) = false := decide_eq_false (fun e => by unfold tI at e; omega)
        rw [this]
        simp
      · refine ih (i + 1) h' _ _ _ _ (by omega) h3' k (fun q hq => ?_)
        rw [u q hq, knS_s]
        have : decide (tI (aF h 72) i = -1) = false := decide_eq_false c1
        rw [this]
        simp
  have L1 : ∀ (j i : Nat) (h' : JH) (a3 : Int32) (c z : Nat), j + i = 80 → a3.toInt = i → fr [77] [] h h' → (∀ k, k < i → aF h' 77 k = bi (knS (tI (aF h 72)) (tI (aF h 76)) r N 0 k)) → jB_X0_noteKnown_2 X d Q 71 a1 a2 a3 h' c z := by
    intro j
    induction j with
    | zero =>
      intro i h' a3 c z hj h3 k u
      have g' := G_fr g rfl k
      refine jT_X0_noteKnown_2 ?_
      simp (decide := true) only [jgI_ob, jgf_ob, jgL_ob, jpI_ob, jpL_ob, jpR_ob, jpN_ob, jrc_ob, obj_sV, obj_wF, obj_wG, obj_wR, arr_sV, arr_wF, arr_wG, arr_wR, arL_sV, arL_wF, arL_wG, arL_wR, arR_sV, arR_wF, arR_wG, arR_wR, fI_sV (c := 0), fI_sV (c := 1), fI_sV (c := 2), fI_sV (c := 4), fI_sV (c := 5), fI_sV (c := 7), fI_sV (c := 8), fI_sV (c := 9), fI_sV (c := 10), fI_sV (c := 11), fI_sV (c := 12), fI_sV (c := 6), fL_sV (c := 9), fL_sV (c := 12), fI_sV_k, fL_sV_k, fV_sV_k, fI_wF, fI_wG, fI_wR, fL_wF, fL_wG, fL_wR, fV_wF, fV_wG, fV_wR, aF_sV, aG_sV, aR_sV, aF_wG, aF_wR, aG_wF, aG_wR, aR_wF, aR_wG, kC, kM, gO g', gF g', ti_lt, tn]
      refine jif_n (by omega) (L2 N 0 h' 0 _ _ _ (by omega) rfl k (fun q hq => u q (by omega)))
    | succ j ih =>
      intro i h' a3 c z hj h3 k u
      have g' := G_fr g rfl k
      have e72 : aF h' 72 = aF h 72 := frF k (by decide)
      have h3' : (a3 + 1).toInt = ((i + 1 : Nat) : Int) := (by simp only [Int32.toInt_add, Int32.toInt_sub, Int32.toInt_mul, Int32.toInt_neg, Int.bmod_def, tl]; omega)
      have iv : vp_in a3 80 := by rw [vp_inI]; omega
      have nar0 : vp_nar .boolean (0 : Int32) = 0 := rfl
      have nar1 : vp_nar .boolean (1 : Int32) = 1 := rfl
      refine jT_X0_noteKnown_2 ?_
      simp (decide := true) only [jgI_ob, jgf_ob, jgL_ob, jpI_ob, jpL_ob, jpR_ob, jpN_ob, jrc_ob, obj_sV, obj_wF, obj_wG, obj_wR, arr_sV, arr_wF, arr_wG, arr_wR, arL_sV, arL_wF, arL_wG, arL_wR, arR_sV, arR_wF, arR_wG, arR_wR, fI_sV (c := 0), fI_sV (c := 1), fI_sV (c := 2), fI_sV (c := 4), fI_sV (c := 5), fI_sV (c := 7), fI_sV (c := 8), fI_sV (c := 9), fI_sV (c := 10), fI_sV (c := 11), fI_sV (c := 12), fI_sV (c := 6), fL_sV (c := 9), fL_sV (c := 12), fI_sV_k, fL_sV_k, fV_sV_k, fI_wF, fI_wG, fI_wR, fL_wF, fL_wG, fL_wR, fV_wF, fV_wG, fV_wR, aF_sV, aG_sV, aR_sV, aF_wG, aF_wR, aG_wF, aG_wR, aR_wF, aR_wG, kC, kM, gO g', gF g', ti_clamp, h3, Int.toNat_natCast, ti_lt, ti_eq, h1, h2, tl, tn, iv, true_and, e72, nar0, nar1]
      have fin : ∀ (v : Int32), v = bi (knS (tI (aF h 72)) (tI (aF h 76)) r N 0 i) → ∀ (c z : Nat), jB_X0_noteKnown_2 X d Q 71 a1 a2 (a3 + 1) (wF h' 77 (upd (aF h' 77) i v)) c z := by
        intro v hv c z
        refine ih (i + 1) _ _ _ _ (by omega) h3' (fr_wF (by decide) k) (fun q hq => ?_)
        simp (decide := true) only [jgI_ob, jgf_ob, jgL_ob, jpI_ob, jpL_ob, jpR_ob, jpN_ob, jrc_ob, obj_sV, obj_wF, obj_wG, obj_wR, arr_sV, arr_wF, arr_wG, arr_wR, arL_sV, arL_wF, arL_wG, arL_wR, arR_sV, arR_wF, arR_wG, arR_wR, fI_sV (c := 0), fI_sV (c := 1), fI_sV (c := 2), fI_sV (c := 4), fI_sV (c := 5), fI_sV (c := 7), fI_sV (c := 8), fI_sV (c := 9), fI_sV (c := 10), fI_sV (c := 11), fI_sV (c := 12), fI_sV (c := 6), fL_sV (c := 9), fL_sV (c := 12), fI_sV_k, fL_sV_k, fV_sV_k, fI_wF, fI_wG, fI_wR, fL_wF, fL_wG, fL_wR, fV_wF, fV_wG, fV_wR, aF_sV, aG_sV, aR_sV, aF_wG, aF_wR, aG_wF, aG_wR, aR_wF, aR_wG, kC, kM, gO g']
        by_cases e : q = i
        · subst e; rw [upd_s]; exact hv
        · rw [upd_n e]; exact u q (by omega)
      refine jif_t (by omega) ⟨fun c1 => ⟨fun c2 => fin 1 ?_ _ _, fun c2 => fin 0 ?_ _ _⟩, fun c1 => fin 0 ?_ _ _⟩
      · have : decide (i < N ∧ tI (aF h 72) i = r) = true := decide_eq_true ⟨by omega, c2⟩
        unfold knS
        rw [this]
        rfl
      · have : decide (i < N ∧ tI (aF h 72) i = r) = false := decide_eq_false (fun e => c2 e.2)
        unfold knS
        rw [this]
        rfl
      · have : decide (i < N ∧ tI (aF h 72) i = r) = false := decide_eq_false (fun e => by omega)
        unfold knS
        rw [this]
        rfl
  rw [jE_X0_noteKnown]
  exact jT_X0_noteKnown_0 (L1 80 0 h 0 _ _ rfl rfl fr_rfl (fun q hq => by omega))
/-- what the weighing rests on: of each known fact its difference and its slots -/
def WK (kn : Nat → Bool) (N S : Nat) (A73 A74 A75 : Nat → Int32) : Prop := ∀ k, kn k = true → k < N ∧ -5000 ≤ (A73 k).toInt ∧ (A73 k).toInt ≤ 5000 ∧ 0 ≤ (A74 k).toInt ∧ (A74 k).toInt < S ∧ 0 ≤ (A75 k).toInt ∧ (A75 k).toInt < S ∧ (A74 k).toInt ≠ (A75 k).toInt
def PX (ap s1 s2 : Nat → Int) (kn : Nat → Bool) (M : Int) (F v k : Nat) : Bool := if k < F then PV ap s1 s2 kn M v k else PV ap s1 s2 kn M 0 k
theorem PV_0 {kn : Nat → Bool} {N S : Nat} {M : Int} (w : WK kn N S A73 A74 A75) (k : Nat) : PV (tI A73) (tI A74) (tI A75) kn M 0 k = (kn k && decide (M < abi (tI A73 k))) := by
  unfold PV
  cases e : kn k
  · rfl
  · have := w k e
    have e1 : evv (tI A73) (tI A74) (tI A75) (gs 0) (gd 0) k = tI A73 k := by
      unfold evv gs gd tI
      simp
    rw [e1]
theorem PX_un {ap s1 s2 : Nat → Int} {kn : Nat → Bool} {M : Int} {F v : Nat} (h : kn F = false) (k : Nat) : PX ap s1 s2 kn M (F + 1) v k = PX ap s1 s2 kn M F v k := by
  unfold PX
  by_cases c : k < F
  · rw [if_pos (by omega), if_pos c]
  · by_cases c2 : k = F
    · subst c2
      rw [if_pos (by omega), if_neg c]
      unfold PV
      rw [h]
      rfl
    · rw [if_neg (by omega), if_neg c]
theorem PX_st {ap s1 s2 : Nat → Int} {kn : Nat → Bool} {M : Int} {F v : Nat} (hF : F < 80) : cnt (PX ap s1 s2 kn M (F + 1) v) 80 + (if PV ap s1 s2 kn M 0 F = true then 1 else 0) = cnt (PX ap s1 s2 kn M F v) 80 + (if PV ap s1 s2 kn M v F = true then 1 else 0) ∧ smm (PX ap s1 s2 kn M (F + 1) v) 80 + (if PV ap s1 s2 kn M 0 F = true then F else 0) = smm (PX ap s1 s2 kn M F v) 80 + (if PV ap s1 s2 kn M v F = true then F else 0) := by
  have u := cnt_up (p := PX ap s1 s2 kn M F v) (q := PX ap s1 s2 kn M (F + 1) v) 80 hF (fun j hj hn => by
    unfold PX
    by_cases c : j < F
    · rw [if_pos c, if_pos (by omega)]
    · rw [if_neg c, if_neg (by omega)])
  have e1 : PX ap s1 s2 kn M F v F = PV ap s1 s2 kn M 0 F := by unfold PX; rw [if_neg (by omega)]
  have e2 : PX ap s1 s2 kn M (F + 1) v F = PV ap s1 s2 kn M v F := by unfold PX; rw [if_pos (by omega)]
  rw [e1, e2] at u
  exact u
theorem c_weigh (g : G h) {a1 a2 a3 a4 : Int32} {r : Int} {N sc : Nat} (h1 : a1.toInt = r) (h2 : a2.toInt = N) (hN : N ≤ 80) (h3 : a3.toInt = sc) (hsc : sc ≤ 8) (w : WK (knS (tI (aF h 72)) (tI (aF h 76)) r N N) N (16 * sc) (aF h 73) (aF h 74) (aF h 75)) (H : ∀ h', fr [77, 78, 79] [(71, 9)] h h' → (fI h' 71 9).toInt = ((1 + 640 * sc : Nat) : Int) → (∀ k, k < 80 → aF h' 77 k = bi (knS (tI (aF h 72)) (tI (aF h 76)) r N N k)) → (∀ v, v < 1 + 640 * sc → (aF h' 78 v).toInt = (cnt (PV (tI (aF h 73)) (tI (aF h 74)) (tI (aF h 75)) (knS (tI (aF h 72)) (tI (aF h 76)) r N N) a4.toInt v) 80 : Nat) ∧ (aF h' 79 v).toInt = (smm (PV (tI (aF h 73)) (tI (aF h 74)) (tI (aF h 75)) (knS (tI (aF h 72)) (tI (aF h 76)) r N N) a4.toInt v) 80 : Nat)) → Q none h') : jex X (d + 3) 281 [.ref 71, .int a1, .int a2, .int a3, .int a4] h Q := by
  generalize hkn : knS (tI (aF h 72)) (tI (aF h 76)) r N N = kn at w H
  generalize hap : tI (aF h 73) = ap at H
  generalize hs1 : tI (aF h 74) = s1 at H
  generalize hs2 : tI (aF h 75) = s2 at H
  have e0 : ∀ k, PV ap s1 s2 kn a4.toInt 0 k = (kn k && decide (a4.toInt < abi (ap k))) := fun k => by rw [← hap, ← hs1, ← hs2]; exact PV_0 w k
  have L3 : ∀ (j F : Nat) (h' : JH) (a7 : Int32) (o1 o2 o3 o5 o6 : Option Value) (c z : Nat), j + F = 80 → a7.toInt = F → fr [77, 78, 79] [(71, 9)] h h' → (fI h' 71 9).toInt = ((1 + 640 * sc : Nat) : Int) → (∀ k, k < 80 → aF h' 77 k = bi (kn k)) → (∀ v, v < 1 + 640 * sc → (aF h' 78 v).toInt = (cnt (PX ap s1 s2 kn a4.toInt F v) 80 : Nat) ∧ (aF h' 79 v).toInt = (smm (PX ap s1 s2 kn a4.toInt F v) 80 : Nat)) → jB_X0_weigh_122 X (d + 2) Q 71 o1 o2 o3 a4 o5 o6 a7 h' c z := by
    intro j
    induction j with
    | zero =>
      intro F h' a7 o1 o2 o3 o5 o6 c z hj h7 k eg ek ev
      have hF : F = 80 := by omega
      subst hF
      have g' := G_fr g rfl k
      refine jT_X0_weigh_122 ?_
      simp (decide := true) only [jgI_ob, jgf_ob, jgL_ob, jpI_ob, jpL_ob, jpR_ob, jpN_ob, jrc_ob, obj_sV, obj_wF, obj_wG, obj_wR, arr_sV, arr_wF, arr_wG, arr_wR, arL_sV, arL_wF, arL_wG, arL_wR, arR_sV, arR_wF, arR_wG, arR_wR, fI_sV (c := 0), fI_sV (c := 1), fI_sV (c := 2), fI_sV (c := 4), fI_sV (c := 5), fI_sV (c := 7), fI_sV (c := 8), fI_sV (c := 9), fI_sV (c := 10), fI_sV (c := 11), fI_sV (c := 12), fI_sV (c := 6), fL_sV (c := 9), fL_sV (c := 12), fI_sV_k, fL_sV_k, fV_sV_k, fI_wF, fI_wG, fI_wR, fL_wF, fL_wG, fL_wR, fV_wF, fV_wG, fV_wR, aF_sV, aG_sV, aR_sV, aF_wG, aF_wR, aG_wF, aG_wR, aR_wF, aR_wG, kC, kM, gO g', gF g', ti_lt, tn]
      refine jif_n (by omega) (H h' k eg ek (fun v hv => ?_))
      have := ev v hv
      rw [cnt_cg (q := PV ap s1 s2 kn a4.toInt v) 80 (fun j hj => by unfold PX; rw [if_pos hj]), smm_cg (q := PV ap s1 s2 kn a4.toInt v) 80 (fun j hj => by unfold PX; rw [if_pos hj])] at this
      exact this
    | succ j ih =>
      intro F h' a7 o1 o2 o3 o5 o6 c z hj h7 k eg ek ev
      have g' := G_fr g rfl k
      have h7' : (a7 + 1).toInt = ((F + 1 : Nat) : Int) := (by simp only [Int32.toInt_add, Int32.toInt_sub, Int32.toInt_mul, Int32.toInt_neg, Int.bmod_def, tl]; omega)
      have iv : vp_in a7 80 := by rw [vp_inI]; omega
      have e73 : aF h' 73 = aF h 73 := frF k (by decide)
      have e74 : aF h' 74 = aF h 74 := frF k (by decide)
      have e75 : aF h' 75 = aF h 75 := frF k (by decide)
      refine jT_X0_weigh_122 ?_
      simp (decide := true) only [jgI_ob, jgf_ob, jgL_ob, jpI_ob, jpL_ob, jpR_ob, jpN_ob, jrc_ob, obj_sV, obj_wF, obj_wG, obj_wR, arr_sV, arr_wF, arr_wG, arr_wR, arL_sV, arL_wF, arL_wG, arL_wR, arR_sV, arR_wF, arR_wG, arR_wR, fI_sV (c := 0), fI_sV (c := 1), fI_sV (c := 2), fI_sV (c := 4), fI_sV (c := 5), fI_sV (c := 7), fI_sV (c := 8), fI_sV (c := 9), fI_sV (c := 10), fI_sV (c := 11), fI_sV (c := 12), fI_sV (c := 6), fL_sV (c := 9), fL_sV (c := 12), fI_sV_k, fL_sV_k, fV_sV_k, fI_wF, fI_wG, fI_wR, fL_wF, fL_wG, fL_wR, fV_wF, fV_wG, fV_wR, aF_sV, aG_sV, aR_sV, aF_wG, aF_wR, aG_wF, aG_wR, aR_wF, aR_wG, kC, kM, gO g', gF g', ti_clamp, h7, Int.toNat_natCast, ti_lt, tn, iv, true_and, ek F (by omega), e74]
      refine jif_t (by omega) ?_
      cases ekn : kn F
      · refine jif_t rfl (ih (F + 1) h' _ _ _ _ _ _ _ _ (by omega) h7' k eg ek (fun v hv => ?_))
        rw [cnt_cg 80 (fun j _ => PX_un ekn j), smm_cg 80 (fun j _ => PX_un ekn j)]
        exact ev v hv
      · obtain ⟨w1, w2, w3, w4, w5, w6, w7, w8⟩ := w F ekn
        refine jif_n (by decide) ?_
        have n1 : (aF h 74 F).toInt = ((aF h 74 F).toInt.toNat : Nat) := by omega
        have n2 : (aF h 75 F).toInt = ((aF h 75 F).toInt.toNat : Nat) := by omega
        have rg : ∀ v, v < 1 + 640 * sc → 0 ≤ (aF h' 78 v).toInt ∧ (aF h' 78 v).toInt ≤ 80 ∧ 0 ≤ (aF h' 79 v).toInt ∧ (aF h' 79 v).toInt ≤ 6400 := fun v hv => by
          have e1 := ev v hv
          have e2 := cnt_le (PX ap s1 s2 kn a4.toInt F v) 80
          have e3 := smm_le (PX ap s1 s2 kn a4.toInt F v) 80
          omega
        refine c_weighFlaws (F := F) (σ := (aF h 74 F).toInt.toNat) (sn := 1) (ap := (aF h 73 F).toInt) g' h7 (by omega) n1 (by omega) rfl (Or.inl rfl) (by rw [e73]) w2 w3 (fun i hi => by have := rg (1 + 40 * (aF h 74 F).toInt.toNat + i) (by omega); omega) (fun i1 k1 p1 p2 => ?_)
        have g1 := G_fr g' rfl k1
        try dsimp only [jrI, jrN, jrA, jisr, jnul, jcat1]
        have f75 : aF i1 75 = aF h 75 := (frF k1 (by decide)).trans e75
        have f73 : aF i1 73 = aF h 73 := (frF k1 (by decide)).trans e73
        simp (decide := true) only [jgI_ob, jgf_ob, jgL_ob, jpI_ob, jpL_ob, jpR_ob, jpN_ob, jrc_ob, obj_sV, obj_wF, obj_wG, obj_wR, arr_sV, arr_wF, arr_wG, arr_wR, arL_sV, arL_wF, arL_wG, arL_wR, arR_sV, arR_wF, arR_wG, arR_wR, fI_sV (c := 0), fI_sV (c := 1), fI_sV (c := 2), fI_sV (c := 4), fI_sV (c := 5), fI_sV (c := 7), fI_sV (c := 8), fI_sV (c := 9), fI_sV (c := 10), fI_sV (c := 11), fI_sV (c := 12), fI_sV (c := 6), fL_sV (c := 9), fL_sV (c := 12), fI_sV_k, fL_sV_k, fV_sV_k, fI_wF, fI_wG, fI_wR, fL_wF, fL_wG, fL_wR, fV_wF, fV_wG, fV_wR, aF_sV, aG_sV, aR_sV, aF_wG, aF_wR, aG_wF, aG_wR, aR_wF, aR_wG, kC, kM, gO g1, gF g1, ti_clamp, h7, Int.toNat_natCast, iv, true_and, f75]
        have rg1 : ∀ i, i < 40 → aF i1 78 (1 + 40 * (aF h 75 F).toInt.toNat + i) = aF h' 78 (1 + 40 * (aF h 75 F).toInt.toNat + i) ∧ aF i1 79 (1 + 40 * (aF h 75 F).toInt.toNat + i) = aF h' 79 (1 + 40 * (aF h 75 F).toInt.toNat + i) := fun i hi => p1 _ (fun u hu => by omega)
        refine c_weighFlaws (F := F) (σ := (aF h 75 F).toInt.toNat) (sn := -1) (ap := (aF h 73 F).toInt) g1 h7 (by omega) n2 (by omega) rfl (Or.inr rfl) (by rw [f73]) w2 w3 (fun i hi => by rw [(rg1 i hi).1, (rg1 i hi).2]; have := rg (1 + 40 * (aF h 75 F).toInt.toNat + i) (by omega); omega) (fun i2 k2 q1 q2 => ?_)
        try dsimp only [jrI, jrN, jrA, jisr, jnul, jcat1]
        have kk : fr [77, 78, 79] [(71, 9)] h i2 := fr_trans k (fr_mono (by decide) (by decide) (fr_trans k1 k2))
        refine ih (F + 1) i2 _ _ _ _ _ _ _ _ (by omega) h7' kk ?_ (fun q hq => ?_) (fun v hv => ?_)
        · rw [frI k2 (by decide) (by decide), frI k1 (by decide) (by decide)]; exact eg
        · rw [frF k2 (by decide), frF k1 (by decide)]; exact ek q hq
        · have st := PX_st (ap := ap) (s1 := s1) (s2 := s2) (kn := kn) (M := a4.toInt) (F := F) (v := v) (by omega)
          have eb := ev v hv
          have P0 : PV ap s1 s2 kn a4.toInt 0 F = decide (a4.toInt < abi (aF h 73 F).toInt) := by rw [e0, ekn, ← hap]; rfl
          have PVv : PV ap s1 s2 kn a4.toInt v F = decide (a4.toInt < abi (evv ap s1 s2 (gs v) (gd v) F)) := by unfold PV; rw [ekn]; rfl
          have vx : v = 0 ∨ ∃ σ i, i < 40 ∧ v = 1 + 40 * σ + i := by
            by_cases c : v = 0
            · exact Or.inl c
            · exact Or.inr ⟨(v - 1) / 40, (v - 1) % 40, Nat.mod_lt _ (by decide), by omega⟩
          have key : ∀ (D : Int), ((if PV ap s1 s2 kn a4.toInt v F = true then (1 : Int) else 0) - (if PV ap s1 s2 kn a4.toInt 0 F = true then (1 : Int) else 0) = D) → (aF i2 78 v).toInt = (aF h' 78 v).toInt + D → (aF i2 79 v).toInt = (aF h' 79 v).toInt + F * D → (aF i2 78 v).toInt = (cnt (PX ap s1 s2 kn a4.toInt (F + 1) v) 80 : Nat) ∧ (aF i2 79 v).toInt = (smm (PX ap s1 s2 kn a4.toInt (F + 1) v) 80 : Nat) := by
            intro D hD d1 d2
            rw [d1, d2, eb.1, eb.2]
            by_cases x1 : PV ap s1 s2 kn a4.toInt v F = true
            · by_cases x2 : PV ap s1 s2 kn a4.toInt 0 F = true
              · rw [if_pos x1, if_pos x2] at hD
                rw [if_pos x1, if_pos x2, if_pos x1, if_pos x2] at st
                rw [← hD]
                omega
              · rw [if_pos x1, if_neg x2] at hD
                rw [if_pos x1, if_neg x2, if_pos x1, if_neg x2] at st
                rw [← hD]
                omega
            · by_cases x2 : PV ap s1 s2 kn a4.toInt 0 F = true
              · rw [if_neg x1, if_pos x2] at hD
                rw [if_neg x1, if_pos x2, if_neg x1, if_pos x2] at st
                rw [← hD]
                omega
              · rw [if_neg x1, if_neg x2] at hD
                rw [if_neg x1, if_neg x2, if_neg x1, if_neg x2] at st
                rw [← hD]
                omega
          have dlE : ∀ y : Int, evv ap s1 s2 (gs v) (gd v) F = y → (if PV ap s1 s2 kn a4.toInt v F = true then (1 : Int) else 0) - (if PV ap s1 s2 kn a4.toInt 0 F = true then (1 : Int) else 0) = dl (a4.toInt < abi y) (a4.toInt < abi (aF h 73 F).toInt) := fun y hy => by
            rw [PVv, P0, hy]
            unfold dl
            simp
          have a1F : s1 F = (aF h 74 F).toInt := by rw [← hs1]; rfl
          have a2F : s2 F = (aF h 75 F).toInt := by rw [← hs2]; rfl
          have apF : ap F = (aF h 73 F).toInt := by rw [← hap]; rfl
          rcases vx with c0 | ⟨σ, i, hi, hvi⟩
          · subst c0
            have r1 := p1 0 (fun u hu => by omega)
            have r2 := q1 0 (fun u hu => by omega)
            refine key 0 (by omega) ?_ ?_
            · rw [r2.1, r1.1]; omega
            · rw [r2.2, r1.2]; omega
          · have gg := gs_s (g := σ) hi
            rw [← hvi] at gg
            by_cases c1 : σ = (aF h 74 F).toInt.toNat
            · have r2 := q1 v (fun u hu => by omega)
              have r1 := p2 i hi
              rw [← c1, ← hvi] at r1
              refine key _ (dlE ((aF h 73 F).toInt + 1 * flw i) ?_) ?_ ?_
              · unfold evv
                rw [gg.1, gg.2, a1F, a2F, apF, if_pos (by omega), if_neg (by omega)]
                omega
              · rw [r2.1]; exact r1.1
              · rw [r2.2]; exact r1.2
            · by_cases c2 : σ = (aF h 75 F).toInt.toNat
              · have r1 := p1 v (fun u hu => by omega)
                have r2 := q2 i hi
                rw [← c2, ← hvi] at r2
                rw [r1.1, r1.2] at r2
                refine key _ (dlE ((aF h 73 F).toInt + -1 * flw i) ?_) r2.1 r2.2
                unfold evv
                rw [gg.1, gg.2, a1F, a2F, apF, if_neg (by omega), if_pos (by omega)]
                omega
              · have r1 := p1 v (fun u hu => by omega)
                have r2 := q1 v (fun u hu => by omega)
                refine key 0 ?_ ?_ ?_
                · rw [dlE ((aF h 73 F).toInt) ?_]
                  · unfold dl; omega
                  · unfold evv
                    rw [gg.1, gg.2, a1F, a2F, apF, if_neg (by omega), if_neg (by omega)]
                    omega
                · rw [r2.1, r1.1]; omega
                · rw [r2.2, r1.2]; omega
  have PX0 : ∀ v, cnt (PX ap s1 s2 kn a4.toInt 0 v) 80 = cnt (PV ap s1 s2 kn a4.toInt 0) 80 ∧ smm (PX ap s1 s2 kn a4.toInt 0 v) 80 = smm (PV ap s1 s2 kn a4.toInt 0) 80 := fun v => ⟨cnt_cg 80 (fun j _ => by unfold PX; rw [if_neg (by omega)]), smm_cg 80 (fun j _ => by unfold PX; rw [if_neg (by omega)])⟩
  have L2 : ∀ (j v : Nat) (h' : JH) (a5 a6 a7 : Int32) (o1 o2 o3 : Option Value) (c z : Nat), j + v = 1 + 640 * sc → a7.toInt = v → a5.toInt = (cnt (PV ap s1 s2 kn a4.toInt 0) 80 : Nat) → a6.toInt = (smm (PV ap s1 s2 kn a4.toInt 0) 80 : Nat) → fr [77, 78, 79] [(71, 9)] h h' → (fI h' 71 9).toInt = ((1 + 640 * sc : Nat) : Int) → (∀ k, k < 80 → aF h' 77 k = bi (kn k)) → (∀ u, u < v → aF h' 78 u = a5 ∧ aF h' 79 u = a6) → jB_X0_weigh_86 X (d + 2) Q 71 o1 o2 o3 a4 a5 a6 a7 h' c z := by
    intro j
    induction j with
    | zero =>
      intro v h' a5 a6 a7 o1 o2 o3 c z hj h7 h5 h6 k eg ek eu
      have g' := G_fr g rfl k
      refine jT_X0_weigh_86 ?_
      simp (decide := true) only [jgI_ob, jgf_ob, jgL_ob, jpI_ob, jpL_ob, jpR_ob, jpN_ob, jrc_ob, obj_sV, obj_wF, obj_wG, obj_wR, arr_sV, arr_wF, arr_wG, arr_wR, arL_sV, arL_wF, arL_wG, arL_wR, arR_sV, arR_wF, arR_wG, arR_wR, fI_sV (c := 0), fI_sV (c := 1), fI_sV (c := 2), fI_sV (c := 4), fI_sV (c := 5), fI_sV (c := 7), fI_sV (c := 8), fI_sV (c := 9), fI_sV (c := 10), fI_sV (c := 11), fI_sV (c := 12), fI_sV (c := 6), fL_sV (c := 9), fL_sV (c := 12), fI_sV_k, fL_sV_k, fV_sV_k, fI_wF, fI_wG, fI_wR, fL_wF, fL_wG, fL_wR, fV_wF, fV_wG, fV_wR, aF_sV, aG_sV, aR_sV, aF_wG, aF_wR, aG_wF, aG_wR, aR_wF, aR_wG, kC, kM, gO g', gF g', ti_lt]
      refine jif_n (by omega) (L3 80 0 h' 0 _ _ _ _ _ _ _ rfl rfl k eg ek (fun u hu => ?_))
      rw [(eu u (by omega)).1, (eu u (by omega)).2, (PX0 u).1, (PX0 u).2]
      exact ⟨h5, h6⟩
    | succ j ih =>
      intro v h' a5 a6 a7 o1 o2 o3 c z hj h7 h5 h6 k eg ek eu
      have g' := G_fr g rfl k
      have h7' : (a7 + 1).toInt = ((v + 1 : Nat) : Int) := (by simp only [Int32.toInt_add, Int32.toInt_sub, Int32.toInt_mul, Int32.toInt_neg, Int.bmod_def, tl]; omega)
      have iv : vp_in a7 5121 := by rw [vp_inI]; omega
      refine jT_X0_weigh_86 ?_
      simp (decide := true) only [jgI_ob, jgf_ob, jgL_ob, jpI_ob, jpL_ob, jpR_ob, jpN_ob, jrc_ob, obj_sV, obj_wF, obj_wG, obj_wR, arr_sV, arr_wF, arr_wG, arr_wR, arL_sV, arL_wF, arL_wG, arL_wR, arR_sV, arR_wF, arR_wG, arR_wR, fI_sV (c := 0), fI_sV (c := 1), fI_sV (c := 2), fI_sV (c := 4), fI_sV (c := 5), fI_sV (c := 7), fI_sV (c := 8), fI_sV (c := 9), fI_sV (c := 10), fI_sV (c := 11), fI_sV (c := 12), fI_sV (c := 6), fL_sV (c := 9), fL_sV (c := 12), fI_sV_k, fL_sV_k, fV_sV_k, fI_wF, fI_wG, fI_wR, fL_wF, fL_wG, fL_wR, fV_wF, fV_wG, fV_wR, aF_sV, aG_sV, aR_sV, aF_wG, aF_wR, aG_wF, aG_wR, aR_wF, aR_wG, kC, kM, gO g', gF g', ti_lt, ti_clamp, h7, Int.toNat_natCast, iv, true_and, fV_wF, aF_wF_ne]
      refine jif_t (by omega) (ih (v + 1) _ _ _ _ _ _ _ _ _ (by omega) h7' h5 h6 (fr_wF (by decide) (fr_wF (by decide) k)) ?_ (fun q hq => ?_) (fun u hu => ?_))
      · simp only [fI_wF]; exact eg
      · simp (decide := true) only [jgI_ob, jgf_ob, jgL_ob, jpI_ob, jpL_ob, jpR_ob, jpN_ob, jrc_ob, obj_sV, obj_wF, obj_wG, obj_wR, arr_sV, arr_wF, arr_wG, arr_wR, arL_sV, arL_wF, arL_wG, arL_wR, arR_sV, arR_wF, arR_wG, arR_wR, fI_sV (c := 0), fI_sV (c := 1), fI_sV (c := 2), fI_sV (c := 4), fI_sV (c := 5), fI_sV (c := 7), fI_sV (c := 8), fI_sV (c := 9), fI_sV (c := 10), fI_sV (c := 11), fI_sV (c := 12), fI_sV (c := 6), fL_sV (c := 9), fL_sV (c := 12), fI_sV_k, fL_sV_k, fV_sV_k, fI_wF, fI_wG, fI_wR, fL_wF, fL_wG, fL_wR, fV_wF, fV_wG, fV_wR, aF_sV, aG_sV, aR_sV, aF_wG, aF_wR, aG_wF, aG_wR, aR_wF, aR_wG, aF_wF_ne]; exact ek q hq
      · simp (decide := true) only [jgI_ob, jgf_ob, jgL_ob, jpI_ob, jpL_ob, jpR_ob, jpN_ob, jrc_ob, obj_sV, obj_wF, obj_wG, obj_wR, arr_sV, arr_wF, arr_wG, arr_wR, arL_sV, arL_wF, arL_wG, arL_wR, arR_sV, arR_wF, arR_wG, arR_wR, fI_sV (c := 0), fI_sV (c := 1), fI_sV (c := 2), fI_sV (c := 4), fI_sV (c := 5), fI_sV (c := 7), fI_sV (c := 8), fI_sV (c := 9), fI_sV (c := 10), fI_sV (c := 11), fI_sV (c := 12), fI_sV (c := 6), fL_sV (c := 9), fL_sV (c := 12), fI_sV_k, fL_sV_k, fV_sV_k, fI_wF, fI_wG, fI_wR, fL_wF, fL_wG, fL_wR, fV_wF, fV_wG, fV_wR, aF_sV, aG_sV, aR_sV, aF_wG, aF_wR, aG_wF, aG_wR, aR_wF, aR_wG, kC, kM, gO g', aF_wF_ne]
        by_cases e : u = v
        · subst e; rw [upd_s, upd_s]; exact ⟨rfl, rfl⟩
        · rw [upd_n e, upd_n e]; exact eu u (by omega)
  have L1 : ∀ (j F : Nat) (h' : JH) (a5 a6 a7 : Int32) (o1 o2 o3 : Option Value) (c z : Nat), j + F = 80 → a7.toInt = F → a5.toInt = (cnt (PV ap s1 s2 kn a4.toInt 0) F : Nat) → a6.toInt = (smm (PV ap s1 s2 kn a4.toInt 0) F : Nat) → fr [77, 78, 79] [(71, 9)] h h' → (fI h' 71 9).toInt = ((1 + 640 * sc : Nat) : Int) → (∀ k, k < 80 → aF h' 77 k = bi (kn k)) → jB_X0_weigh_32 X (d + 2) Q 71 o1 o2 o3 a4 a5 a6 a7 h' c z := by
    intro j
    induction j with
    | zero =>
      intro F h' a5 a6 a7 o1 o2 o3 c z hj h7 h5 h6 k eg ek
      have g' := G_fr g rfl k
      have hF : F = 80 := by omega
      subst hF
      refine jT_X0_weigh_32 ?_
      simp (decide := true) only [jgI_ob, jgf_ob, jgL_ob, jpI_ob, jpL_ob, jpR_ob, jpN_ob, jrc_ob, obj_sV, obj_wF, obj_wG, obj_wR, arr_sV, arr_wF, arr_wG, arr_wR, arL_sV, arL_wF, arL_wG, arL_wR, arR_sV, arR_wF, arR_wG, arR_wR, fI_sV (c := 0), fI_sV (c := 1), fI_sV (c := 2), fI_sV (c := 4), fI_sV (c := 5), fI_sV (c := 7), fI_sV (c := 8), fI_sV (c := 9), fI_sV (c := 10), fI_sV (c := 11), fI_sV (c := 12), fI_sV (c := 6), fL_sV (c := 9), fL_sV (c := 12), fI_sV_k, fL_sV_k, fV_sV_k, fI_wF, fI_wG, fI_wR, fL_wF, fL_wG, fL_wR, fV_wF, fV_wG, fV_wR, aF_sV, aG_sV, aR_sV, aF_wG, aF_wR, aG_wF, aG_wR, aR_wF, aR_wG, kC, kM, gO g', gF g', ti_lt, tn]
      exact jif_n (by omega) (L2 (1 + 640 * sc) 0 h' a5 a6 0 _ _ _ _ _ (by omega) rfl h5 h6 k eg ek (fun u hu => by omega))
    | succ j ih =>
      intro F h' a5 a6 a7 o1 o2 o3 c z hj h7 h5 h6 k eg ek
      have g' := G_fr g rfl k
      have h7' : (a7 + 1).toInt = ((F + 1 : Nat) : Int) := (by simp only [Int32.toInt_add, Int32.toInt_sub, Int32.toInt_mul, Int32.toInt_neg, Int.bmod_def, tl]; omega)
      have iv : vp_in a7 80 := by rw [vp_inI]; omega
      have e73 : aF h' 73 = aF h 73 := frF k (by decide)
      have b1 := cnt_le (PV ap s1 s2 kn a4.toInt 0) F
      have b2 := smm_le (PV ap s1 s2 kn a4.toInt 0) F
      have c1' : cnt (PV ap s1 s2 kn a4.toInt 0) (F + 1) = cnt (PV ap s1 s2 kn a4.toInt 0) F + (if PV ap s1 s2 kn a4.toInt 0 F = true then 1 else 0) := rfl
      have c2' : smm (PV ap s1 s2 kn a4.toInt 0) (F + 1) = smm (PV ap s1 s2 kn a4.toInt 0) F + (if PV ap s1 s2 kn a4.toInt 0 F = true then F else 0) := rfl
      rw [e0 F] at c1' c2'
      refine jT_X0_weigh_32 ?_
      simp (decide := true) only [jgI_ob, jgf_ob, jgL_ob, jpI_ob, jpL_ob, jpR_ob, jpN_ob, jrc_ob, obj_sV, obj_wF, obj_wG, obj_wR, arr_sV, arr_wF, arr_wG, arr_wR, arL_sV, arL_wF, arL_wG, arL_wR, arR_sV, arR_wF, arR_wG, arR_wR, fI_sV (c := 0), fI_sV (c := 1), fI_sV (c := 2), fI_sV (c := 4), fI_sV (c := 5), fI_sV (c := 7), fI_sV (c := 8), fI_sV (c := 9), fI_sV (c := 10), fI_sV (c := 11), fI_sV (c := 12), fI_sV (c := 6), fL_sV (c := 9), fL_sV (c := 12), fI_sV_k, fL_sV_k, fV_sV_k, fI_wF, fI_wG, fI_wR, fL_wF, fL_wG, fL_wR, fV_wF, fV_wG, fV_wR, aF_sV, aG_sV, aR_sV, aF_wG, aF_wR, aG_wF, aG_wR, aR_wF, aR_wG, kC, kM, gO g', gF g', ti_clamp, h7, Int.toNat_natCast, ti_lt, tn, iv, true_and, ek F (by omega), e73]
      refine jif_t (by omega) ?_
      cases ekn : kn F
      · rw [ekn] at c1' c2'
        simp only [Bool.false_and, Bool.false_eq_true, if_false] at c1' c2'
        exact jif_t rfl (ih (F + 1) h' _ _ _ _ _ _ _ _ (by omega) h7' (by rw [c1']; exact h5) (by rw [c2']; exact h6) k eg ek)
      · obtain ⟨w1, w2, w3, -⟩ := w F ekn
        rw [ekn] at c1' c2'
        refine jif_n (by decide) (c_absI (by omega) (by omega) (fun x hx => ?_))
        try dsimp only [jrI, jrN, jrA, jisr, jnul, jcat1]
        have apF : ap F = (aF h 73 F).toInt := by rw [← hap]; rfl
        refine ⟨fun q => ?_, fun q => ?_⟩
        · rw [hx, ← apF] at q
          rw [decide_eq_true q] at c1' c2'
          have m1 : (a5 + 1).toInt = a5.toInt + 1 := (by simp only [Int32.toInt_add, Int32.toInt_sub, Int32.toInt_mul, Int32.toInt_neg, Int.bmod_def, tl]; omega)
          have m2 : (a6 + a7).toInt = a6.toInt + a7.toInt := (by simp only [Int32.toInt_add, Int32.toInt_sub, Int32.toInt_mul, Int32.toInt_neg, Int.bmod_def, tl]; omega)
          refine ih (F + 1) h' _ _ _ _ _ _ _ _ (by omega) h7' ?_ ?_ k eg ek
          · rw [c1', m1, h5]; simp
          · rw [c2', m2, h6, h7]; simp
        · rw [hx, ← apF] at q
          rw [decide_eq_false q] at c1' c2'
          refine ih (F + 1) h' _ _ _ _ _ _ _ _ (by omega) h7' ?_ ?_ k eg ek
          · rw [c1', h5]; simp
          · rw [c2', h6]; simp
  rw [jE_X0_weigh]
  refine jT_X0_weigh_0 ?_
  simp (decide := true) only [jgI_ob, jgf_ob, jgL_ob, jpI_ob, jpL_ob, jpR_ob, jpN_ob, jrc_ob, obj_sV, obj_wF, obj_wG, obj_wR, arr_sV, arr_wF, arr_wG, arr_wR, arL_sV, arL_wF, arL_wG, arL_wR, arR_sV, arR_wF, arR_wG, arR_wR, fI_sV (c := 0), fI_sV (c := 1), fI_sV (c := 2), fI_sV (c := 4), fI_sV (c := 5), fI_sV (c := 7), fI_sV (c := 8), fI_sV (c := 9), fI_sV (c := 10), fI_sV (c := 11), fI_sV (c := 12), fI_sV (c := 6), fL_sV (c := 9), fL_sV (c := 12), fI_sV_k, fL_sV_k, fV_sV_k, fI_wF, fI_wG, fI_wR, fL_wF, fL_wG, fL_wR, fV_wF, fV_wG, fV_wR, aF_sV, aG_sV, aR_sV, aF_wG, aF_wR, aG_wF, aG_wR, aR_wF, aR_wG, gO g, gF g, ti_lt, tl, true_and]
  refine c_noteKnown g h1 h2 hN (fun h' k ek => ?_)
  rw [hkn] at ek
  try dsimp only [jrI, jrN, jrA, jisr, jnul, jcat1]
  have g' := G_fr g rfl k
  have e640 : (1 + a3 * 640).toInt = ((1 + 640 * sc : Nat) : Int) := by
    have : (a3 * 640).toInt = 640 * (sc : Int) := (by simp only [Int32.toInt_add, Int32.toInt_sub, Int32.toInt_mul, Int32.toInt_neg, Int.bmod_def, tl]; omega)
    generalize a3 * 640 = q at this
    exact (by simp only [Int32.toInt_add, Int32.toInt_sub, Int32.toInt_mul, Int32.toInt_neg, Int.bmod_def, tl]; omega)
  refine c_min ?_
  try dsimp only [jrI, jrN, jrA, jisr, jnul, jcat1]
  have ez : (zI (min (5121 : Int32).toInt (1 + a3 * 640).toInt)).toInt = ((1 + 640 * sc : Nat) : Int) := by
    rw [e640, show (5121 : Int32).toInt = 5121 from rfl, zt (by omega) (by omega)]
    omega
  generalize zI (min (5121 : Int32).toInt (1 + a3 * 640).toInt) = x at ez
  simp (decide := true) only [jgI_ob, jgf_ob, jgL_ob, jpI_ob, jpL_ob, jpR_ob, jpN_ob, jrc_ob, obj_sV, obj_wF, obj_wG, obj_wR, arr_sV, arr_wF, arr_wG, arr_wR, arL_sV, arL_wF, arL_wG, arL_wR, arR_sV, arR_wF, arR_wG, arR_wR, fI_sV (c := 0), fI_sV (c := 1), fI_sV (c := 2), fI_sV (c := 4), fI_sV (c := 5), fI_sV (c := 7), fI_sV (c := 8), fI_sV (c := 9), fI_sV (c := 10), fI_sV (c := 11), fI_sV (c := 12), fI_sV (c := 6), fL_sV (c := 9), fL_sV (c := 12), fI_sV_k, fL_sV_k, fV_sV_k, fI_wF, fI_wG, fI_wR, fL_wF, fL_wG, fL_wR, fV_wF, fV_wG, fV_wR, aF_sV, aG_sV, aR_sV, aF_wG, aF_wR, aG_wF, aG_wR, aR_wF, aR_wG, gO g', gF g']
  refine L1 80 0 _ 0 0 0 _ _ _ _ _ rfl rfl rfl rfl (fr_sV (by decide) (fr_mono (by decide) (by decide) k)) ?_ (fun q hq => ?_)
  · simp (decide := true) only [jgI_ob, jgf_ob, jgL_ob, jpI_ob, jpL_ob, jpR_ob, jpN_ob, jrc_ob, obj_sV, obj_wF, obj_wG, obj_wR, arr_sV, arr_wF, arr_wG, arr_wR, arL_sV, arL_wF, arL_wG, arL_wR, arR_sV, arR_wF, arR_wG, arR_wR, fI_sV (c := 0), fI_sV (c := 1), fI_sV (c := 2), fI_sV (c := 4), fI_sV (c := 5), fI_sV (c := 7), fI_sV (c := 8), fI_sV (c := 9), fI_sV (c := 10), fI_sV (c := 11), fI_sV (c := 12), fI_sV (c := 6), fL_sV (c := 9), fL_sV (c := 12), fI_sV_k, fL_sV_k, fV_sV_k, fI_wF, fI_wG, fI_wR, fL_wF, fL_wG, fL_wR, fV_wF, fV_wG, fV_wR, aF_sV, aG_sV, aR_sV, aF_wG, aF_wR, aG_wF, aG_wR, aR_wF, aR_wG, gO g']; exact ez
  · simp only [aF_sV]; exact ek q hq
end WGH
