/-! THE NEXT ORDER: class and model -/
section NXT
variable {X : JX} {d : Nat} {Q : JQ} {h : JH} {n : Nat} {L : List Nat}
theorem scnI_s {L : List Nat} {m : Nat} : scnI L (m + 1) = if gt L (m + 1) < gt L m then scnI L m else some m := rfl
theorem TR_at {q i : Nat} (tr : TR h q L) (ok : OK n L) (hi : i < n) (h7 : n ≤ 7) : aF h q i = nI (gt L i) ∧ (aF h q i).toInt = gt L i ∧ gt L i < n := by
  have e := tr i (by rw [ok.1]; exact hi)
  have k := ok.2 i
  exact ⟨e, by rw [e, nI_toInt (by omega)], k⟩
theorem TR_swp {q a b : Nat} {h1 : JH} (tr : TR h q L) (ok : OK n L) (ha : a < n) (hb : b < n) (e : aF h1 q = upd (upd (aF h q) a (aF h q b)) b (aF h q a)) : TR h1 q (swp L a b) := by
  intro i hi
  rw [swp_len] at hi
  rw [e, gt_swp (by rw [ok.1]; exact ha) (by rw [ok.1]; exact hb)]
  by_cases c1 : i = b
  · subst c1
    rw [upd_s, if_pos rfl, tr a (by rw [ok.1]; exact ha)]
  · rw [upd_n c1, if_neg c1]
    by_cases c2 : i = a
    · subst c2
      rw [upd_s, if_pos rfl, tr b (by rw [ok.1]; exact hb)]
    · rw [upd_n c2, if_neg c2, tr i hi]
theorem c_swapTrials (g : G h) (h7 : n ≤ 7) (tr : TR h 68 L) (ok : OK n L) {a1 a2 : Int32} {a b : Nat} (h1 : a1.toInt = a) (h2 : a2.toInt = b) (ha : a < n) (hb : b < n) (H : ∀ h', fr [68] [] h h' → TR h' 68 (swp L a b) → Q none h') : jex X (d + 1) 239 [.ref 59, .int a1, .int a2] h Q := by
  have iv1 : vp_in a1 7 := by rw [vp_inI]; omega
  have iv2 : vp_in a2 7 := by rw [vp_inI]; omega
  rw [jE_X4_swapTrials]
  refine jT_X4_swapTrials_0 ?_
  simp (decide := true) only [jgI_ob, jgf_ob, jgL_ob, jpI_ob, jpL_ob, jpR_ob, jpN_ob, jrc_ob, obj_sV, obj_wF, obj_wG, obj_wR, arr_sV, arr_wF, arr_wG, arr_wR, arL_sV, arL_wF, arL_wG, arL_wR, arR_sV, arR_wF, arR_wG, arR_wR, fI_sV (c := 0), fI_sV (c := 1), fI_sV (c := 2), fI_sV (c := 4), fI_sV (c := 5), fI_sV (c := 7), fI_sV (c := 8), fI_sV (c := 9), fI_sV (c := 10), fI_sV (c := 11), fI_sV (c := 12), fI_sV (c := 6), fL_sV (c := 9), fL_sV (c := 12), fI_sV_k, fL_sV_k, fV_sV_k, fI_wF, fI_wG, fI_wR, fL_wF, fL_wG, fL_wR, fV_wF, fV_wG, fV_wR, aF_sV, aG_sV, aR_sV, aF_wG, aF_wR, aG_wF, aG_wR, aR_wF, aR_wG, kC, kM, gO g, gF g, fV_wF, ti_clamp, h1, h2, Int.toNat_natCast, iv1, iv2, true_and]
  refine H _ (fr_wF (by decide) (fr_wF (by decide) fr_rfl)) (TR_swp tr ok ha hb ?_)
  simp (decide := true) only [jgI_ob, jgf_ob, jgL_ob, jpI_ob, jpL_ob, jpR_ob, jpN_ob, jrc_ob, obj_sV, obj_wF, obj_wG, obj_wR, arr_sV, arr_wF, arr_wG, arr_wR, arL_sV, arL_wF, arL_wG, arL_wR, arR_sV, arR_wF, arR_wG, arR_wR, fI_sV (c := 0), fI_sV (c := 1), fI_sV (c := 2), fI_sV (c := 4), fI_sV (c := 5), fI_sV (c := 7), fI_sV (c := 8), fI_sV (c := 9), fI_sV (c := 10), fI_sV (c := 11), fI_sV (c := 12), fI_sV (c := 6), fL_sV (c := 9), fL_sV (c := 12), fI_sV_k, fL_sV_k, fV_sV_k, fI_wF, fI_wG, fI_wR, fL_wF, fL_wG, fL_wR, fV_wF, fV_wG, fV_wR, aF_sV, aG_sV, aR_sV, aF_wG, aF_wR, aG_wF, aG_wR, aR_wF, aR_wG, kC, kM, gO g]
theorem c_min7 {a b : Int32} (ha : a.toInt = n) (h7 : n ≤ 7) (hb : b.toInt = 7) (H : Q (some (.int a)) h) : jex X (d + 1) 180 [.int a, .int b] h Q := by
  refine c_min ?_
  rw [show zI (min a.toInt b.toInt) = a by
    rw [← Int32.toInt_inj, zt (by omega) (by omega)]
    omega]
  exact H
theorem c_min6 {a b : Int32} (ha : a.toInt = 6) (hb : b.toInt = n) (h6 : n ≤ 6) (H : Q (some (.int b)) h) : jex X (d + 1) 180 [.int a, .int b] h Q := by
  refine c_min ?_
  rw [show zI (min a.toInt b.toInt) = b by
    rw [← Int32.toInt_inj, zt (by omega) (by omega)]
    omega]
  exact H
theorem c_max0 {a b : Int32} (ha : a.toInt = 0) (hb : b.toInt = n) (h6 : n ≤ 6) (H : Q (some (.int b)) h) : jex X (d + 1) 4 [.int a, .int b] h Q := by
  refine c_max ?_
  rw [show zI (max a.toInt b.toInt) = b by
    rw [← Int32.toInt_inj, zt (by omega) (by omega)]
    omega]
  exact H
theorem c_toNext (g : G h) (h1 : 1 ≤ n) (h7 : n ≤ 7) (hn : (fI h 59 3).toInt = n) (tr : TR h 68 L) (ok : OK n L) (H0 : nx L = none → Q (some (.int 0)) h) (H1 : ∀ M h', nx L = some M → fr [68] [] h h' → TR h' 68 M → Q (some (.int 1)) h') : jex X (d + 2) 238 [.ref 59] h Q := by
  have e1 : (fI h 59 3 - 1).toInt = ((n - 1 : Nat) : Int) := (by simp only [Int32.toInt_add, Int32.toInt_sub, Int32.toInt_mul, Int32.toInt_neg, Int.bmod_def, tl]; omega)
  have e2 : (fI h 59 3 - 2).toInt = ((n - 1 : Nat) : Int) - 1 := (by simp only [Int32.toInt_add, Int32.toInt_sub, Int32.toInt_mul, Int32.toInt_neg, Int.bmod_def, tl]; omega)
  have L91 : ∀ (j : Nat) (L' : List Nat) (h' : JH) (a b : Nat) (a3 a4 : Int32) (o1 o2 : Option Value) (c z : Nat), b ≤ a + 2 * j → b < n → a ≤ 7 → a3.toInt = b → a4.toInt = a → OK n L' → TR h' 68 L' → fr [68] [] h h' → (∀ h2, fr [68] [] h h2 → TR h2 68 (rvs j L' a b) → Q (some (.int 1)) h2) → jB_X4_toNextTrial_115 X (d + 1) Q 59 o1 o2 a3 a4 h' c z := by
    intro j
    induction j with
    | zero =>
      intro L' h' a b a3 a4 o1 o2 c z hj hb ha h3 h4 ok' tr' k HK
      exact jT_X4_toNextTrial_115 (jif_n (by rw [ti_lt]; omega) ⟨by decide, HK h' k tr'⟩)
    | succ j ih =>
      intro L' h' a b a3 a4 o1 o2 c z hj hb ha h3 h4 ok' tr' k HK
      have g' := G_fr g rfl k
      unfold rvs at HK
      refine jT_X4_toNextTrial_115 ⟨fun q => ?_, fun q => ?_⟩
      · rw [ti_lt, h3, h4] at q
        rw [if_pos (by omega)] at HK
        simp (decide := true) only [jgI_ob, jgf_ob, jgL_ob, jpI_ob, jpL_ob, jpR_ob, jpN_ob, jrc_ob, obj_sV, obj_wF, obj_wG, obj_wR, arr_sV, arr_wF, arr_wG, arr_wR, arL_sV, arL_wF, arL_wG, arL_wR, arR_sV, arR_wF, arR_wG, arR_wR, fI_sV (c := 0), fI_sV (c := 1), fI_sV (c := 2), fI_sV (c := 4), fI_sV (c := 5), fI_sV (c := 7), fI_sV (c := 8), fI_sV (c := 9), fI_sV (c := 10), fI_sV (c := 11), fI_sV (c := 12), fI_sV (c := 6), fL_sV (c := 9), fL_sV (c := 12), fI_sV_k, fL_sV_k, fV_sV_k, fI_wF, fI_wG, fI_wR, fL_wF, fL_wG, fL_wR, fV_wF, fV_wG, fV_wR, aF_sV, aG_sV, aR_sV, aF_wG, aF_wR, aG_wF, aG_wR, aR_wF, aR_wG, gO g']
        refine c_swapTrials g' h7 tr' ok' h4 h3 (by omega) hb (fun h2 k2 tr2 => ?_)
        try dsimp only [jrI, jrN, jrA, jisr, jnul, jcat1]
        exact ih (swp L' a b) h2 (a + 1) (b - 1) _ _ _ _ _ _ (by omega) (by omega) (by omega) (by simp only [Int32.toInt_add, Int32.toInt_sub, Int32.toInt_mul, Int32.toInt_neg, Int.bmod_def, tl]; omega) (by simp only [Int32.toInt_add, Int32.toInt_sub, Int32.toInt_mul, Int32.toInt_neg, Int.bmod_def, tl]; omega) (OK_swp ok' (by omega) hb) tr2 (fr_trans k k2) HK
      · rw [ti_lt, h3, h4] at q
        rw [if_neg (by omega)] at HK
        exact ⟨by decide, HK h' k tr'⟩
  have SW : ∀ (t k0 : Nat) (a1 a2 : Int32) (o1 o2 : Option Value) (c z : Nat), a1.toInt = t → a2.toInt = k0 → t < n - 1 → k0 < n → nx L = some (rvs 8 (swp L t k0) (t + 1) (n - 1)) → jrc h (.ref 59) 4 (jex X (d + 1) 239 [.ref 59, .int a1, .int a2] h fun r2 h1 => (jrN r2 (jgI h1 (.ref 59) 4 3 fun x3 => (jgf h1 (.ref 59) 4 7 fun v4 => (jaln X h1 v4 fun x5 => (jex X (d + 1) 180 [.int x3, .int x5] h1 fun r7 h6 => (jrI r7 fun x8 => (jB_X4_toNextTrial_115 X (d + 1) Q 59 o1 o2 (x8 - 1) (a1 + 1) h6 c z)))))))) := by
    intro t k0 a1 a2 o1 o2 c z ht hk lt lk hx
    simp (decide := true) only [jgI_ob, jgf_ob, jgL_ob, jpI_ob, jpL_ob, jpR_ob, jpN_ob, jrc_ob, obj_sV, obj_wF, obj_wG, obj_wR, arr_sV, arr_wF, arr_wG, arr_wR, arL_sV, arL_wF, arL_wG, arL_wR, arR_sV, arR_wF, arR_wG, arR_wR, fI_sV (c := 0), fI_sV (c := 1), fI_sV (c := 2), fI_sV (c := 4), fI_sV (c := 5), fI_sV (c := 7), fI_sV (c := 8), fI_sV (c := 9), fI_sV (c := 10), fI_sV (c := 11), fI_sV (c := 12), fI_sV (c := 6), fL_sV (c := 9), fL_sV (c := 12), fI_sV_k, fL_sV_k, fV_sV_k, fI_wF, fI_wG, fI_wR, fL_wF, fL_wG, fL_wR, fV_wF, fV_wG, fV_wR, aF_sV, aG_sV, aR_sV, aF_wG, aF_wR, aG_wF, aG_wR, aR_wF, aR_wG, gO g]
    refine c_swapTrials g h7 tr ok ht hk (by omega) lk (fun h2 k2 tr2 => ?_)
    try dsimp only [jrI, jrN, jrA, jisr, jnul, jcat1]
    have g2 := G_fr g rfl k2
    have e3 : fI h2 59 3 = fI h 59 3 := frI k2 (by decide) (by decide)
    simp (decide := true) only [jgI_ob, jgf_ob, jgL_ob, jpI_ob, jpL_ob, jpR_ob, jpN_ob, jrc_ob, obj_sV, obj_wF, obj_wG, obj_wR, arr_sV, arr_wF, arr_wG, arr_wR, arL_sV, arL_wF, arL_wG, arL_wR, arR_sV, arR_wF, arR_wG, arR_wR, fI_sV (c := 0), fI_sV (c := 1), fI_sV (c := 2), fI_sV (c := 4), fI_sV (c := 5), fI_sV (c := 7), fI_sV (c := 8), fI_sV (c := 9), fI_sV (c := 10), fI_sV (c := 11), fI_sV (c := 12), fI_sV (c := 6), fL_sV (c := 9), fL_sV (c := 12), fI_sV_k, fL_sV_k, fV_sV_k, fI_wF, fI_wG, fI_wR, fL_wF, fL_wG, fL_wR, fV_wF, fV_wG, fV_wR, aF_sV, aG_sV, aR_sV, aF_wG, aF_wR, aG_wF, aG_wR, aR_wF, aR_wG, kC, kM, gO g2, gF g2, e3]
    refine c_min7 hn h7 rfl ?_
    try dsimp only [jrI, jrN, jrA, jisr, jnul, jcat1]
    exact L91 8 (swp L t k0) h2 (t + 1) (n - 1) _ _ _ _ _ _ (by omega) (by omega) (by omega) e1 (by simp only [Int32.toInt_add, Int32.toInt_sub, Int32.toInt_mul, Int32.toInt_neg, Int.bmod_def, tl]; omega) (OK_swp ok (by omega) lk) tr2 k2 (fun h3 k3 tr3 => H1 _ h3 hx k3 tr3)
  have L47 : ∀ (k t : Nat) (a1 a2 : Int32) (o1 o2 : Option Value) (c z : Nat), t ≤ k → k < n → t < n - 1 → a1.toInt = t → a2.toInt = k → nx L = some (rvs 8 (swp L t (scnK L t k)) (t + 1) (n - 1)) → jB_X4_toNextTrial_63 X (d + 1) Q 59 a1 a2 o1 o2 h c z := by
    intro k
    induction k with
    | zero =>
      intro t a1 a2 o1 o2 c z htk hk ht ht1 hk2 hx
      refine jT_X4_toNextTrial_63 (jif_n (by rw [ti_lt]; omega) ?_)
      exact SW t 0 a1 a2 _ _ _ _ ht1 hk2 ht (by omega) hx
    | succ k ih =>
      intro t a1 a2 o1 o2 c z htk hk ht ht1 hk2 hx
      unfold scnK at hx
      refine jT_X4_toNextTrial_63 ⟨fun q => ?_, fun q => ?_⟩
      · rw [ti_lt, ht1, hk2] at q
        have A := TR_at tr ok (show k + 1 < n by omega) h7
        have B := TR_at tr ok (show t < n by omega) h7
        simp (decide := true) only [jgI_ob, jgf_ob, jgL_ob, jpI_ob, jpL_ob, jpR_ob, jpN_ob, jrc_ob, obj_sV, obj_wF, obj_wG, obj_wR, arr_sV, arr_wF, arr_wG, arr_wR, arL_sV, arL_wF, arL_wG, arL_wR, arR_sV, arR_wF, arR_wG, arR_wR, fI_sV (c := 0), fI_sV (c := 1), fI_sV (c := 2), fI_sV (c := 4), fI_sV (c := 5), fI_sV (c := 7), fI_sV (c := 8), fI_sV (c := 9), fI_sV (c := 10), fI_sV (c := 11), fI_sV (c := 12), fI_sV (c := 6), fL_sV (c := 9), fL_sV (c := 12), fI_sV_k, fL_sV_k, fV_sV_k, fI_wF, fI_wG, fI_wR, fL_wF, fL_wG, fL_wR, fV_wF, fV_wG, fV_wR, aF_sV, aG_sV, aR_sV, aF_wG, aF_wR, aG_wF, aG_wR, aR_wF, aR_wG, kC, kM, gO g, gF g, ti_clamp, ht1, hk2, Int.toNat_natCast, ti_lt, A.2.1, B.2.1]
        refine ⟨by rw [vp_inI]; omega, by rw [vp_inI]; omega, fun q2 => ?_, fun q2 => ?_⟩
        · rw [if_pos ⟨by omega, by omega⟩] at hx
          exact ih t _ _ _ _ _ _ (by omega) (by omega) ht ht1 (by simp only [Int32.toInt_add, Int32.toInt_sub, Int32.toInt_mul, Int32.toInt_neg, Int.bmod_def, tl]; omega) hx
        · rw [if_neg (fun w => q2 (by have := w.2; omega))] at hx
          have := SW t (k + 1) a1 a2 (some (.int a1)) (some (.int a2)) c z ht1 hk2 ht hk hx
          simp (decide := true) only [jgI_ob, jgf_ob, jgL_ob, jpI_ob, jpL_ob, jpR_ob, jpN_ob, jrc_ob, obj_sV, obj_wF, obj_wG, obj_wR, arr_sV, arr_wF, arr_wG, arr_wR, arL_sV, arL_wF, arL_wG, arL_wR, arR_sV, arR_wF, arR_wG, arR_wR, fI_sV (c := 0), fI_sV (c := 1), fI_sV (c := 2), fI_sV (c := 4), fI_sV (c := 5), fI_sV (c := 7), fI_sV (c := 8), fI_sV (c := 9), fI_sV (c := 10), fI_sV (c := 11), fI_sV (c := 12), fI_sV (c := 6), fL_sV (c := 9), fL_sV (c := 12), fI_sV_k, fL_sV_k, fV_sV_k, fI_wF, fI_wG, fI_wR, fL_wF, fL_wG, fL_wR, fV_wF, fV_wG, fV_wR, aF_sV, aG_sV, aR_sV, aF_wG, aF_wR, aG_wF, aG_wR, aR_wF, aR_wG, gO g] at this
          exact this
      · rw [ti_lt, ht1, hk2] at q
        rw [if_neg (fun w => q (by have := w.1; omega))] at hx
        exact SW t (k + 1) a1 a2 _ _ _ _ ht1 hk2 ht hk hx
  have L7 : ∀ (m : Nat) (a1 : Int32) (o2 o3 o4 : Option Value) (c z : Nat), m ≤ n - 1 → a1.toInt = (m : Int) - 1 → scnI L (n - 1) = scnI L m → jB_X4_toNextTrial_15 X (d + 1) Q 59 a1 o2 o3 o4 h c z := by
    intro m
    induction m with
    | zero =>
      intro a1 o2 o3 o4 c z hm ha hs
      refine jT_X4_toNextTrial_15 (jif_t (by rw [ti_lt, ha]; decide) (jif_t (by rw [ti_lt, ha]; decide) ⟨by decide, H0 ?_⟩))
      unfold nx
      rw [ok.1, hs]
      rfl
    | succ m ih =>
      intro a1 o2 o3 o4 c z hm ha hs
      have ha' : a1.toInt = m := by omega
      have A := TR_at tr ok (show m < n by omega) h7
      have B := TR_at tr ok (show m + 1 < n by omega) h7
      have m1 : (a1 + 1).toInt = ((m + 1 : Nat) : Int) := (by simp only [Int32.toInt_add, Int32.toInt_sub, Int32.toInt_mul, Int32.toInt_neg, Int.bmod_def, tl]; omega)
      rw [scnI_s] at hs
      refine jT_X4_toNextTrial_15 (jif_n (by rw [ti_lt, tl.1]; omega) ?_)
      simp (decide := true) only [jgI_ob, jgf_ob, jgL_ob, jpI_ob, jpL_ob, jpR_ob, jpN_ob, jrc_ob, obj_sV, obj_wF, obj_wG, obj_wR, arr_sV, arr_wF, arr_wG, arr_wR, arL_sV, arL_wF, arL_wG, arL_wR, arR_sV, arR_wF, arR_wG, arR_wR, fI_sV (c := 0), fI_sV (c := 1), fI_sV (c := 2), fI_sV (c := 4), fI_sV (c := 5), fI_sV (c := 7), fI_sV (c := 8), fI_sV (c := 9), fI_sV (c := 10), fI_sV (c := 11), fI_sV (c := 12), fI_sV (c := 6), fL_sV (c := 9), fL_sV (c := 12), fI_sV_k, fL_sV_k, fV_sV_k, fI_wF, fI_wG, fI_wR, fL_wF, fL_wG, fL_wR, fV_wF, fV_wG, fV_wR, aF_sV, aG_sV, aR_sV, aF_wG, aF_wR, aG_wF, aG_wR, aR_wF, aR_wG, kC, kM, gO g, gF g, ti_clamp, ha', m1, Int.toNat_natCast, ti_lt, tl, A.2.1, B.2.1]
      refine ⟨by rw [vp_inI]; omega, by rw [vp_inI]; omega, fun q => ?_, fun q => jif_n (by omega) ?_⟩
      · rw [if_pos (by omega)] at hs
        exact ih _ _ _ _ _ _ (by omega) (by simp only [Int32.toInt_add, Int32.toInt_sub, Int32.toInt_mul, Int32.toInt_neg, Int.bmod_def, tl]; omega) hs
      · rw [if_neg (by omega)] at hs
        refine c_min7 hn h7 rfl ?_
        try dsimp only [jrI, jrN, jrA, jisr, jnul, jcat1]
        refine L47 (n - 1) m a1 _ _ _ _ _ (by omega) (by omega) (by omega) ha' e1 ?_
        unfold nx
        rw [ok.1, hs]
  rw [jE_X4_toNextTrial]
  refine jT_X4_toNextTrial_0 ?_
  simp (decide := true) only [jgI_ob, jgf_ob, jgL_ob, jpI_ob, jpL_ob, jpR_ob, jpN_ob, jrc_ob, obj_sV, obj_wF, obj_wG, obj_wR, arr_sV, arr_wF, arr_wG, arr_wR, arL_sV, arL_wF, arL_wG, arL_wR, arR_sV, arR_wF, arR_wG, arR_wR, fI_sV (c := 0), fI_sV (c := 1), fI_sV (c := 2), fI_sV (c := 4), fI_sV (c := 5), fI_sV (c := 7), fI_sV (c := 8), fI_sV (c := 9), fI_sV (c := 10), fI_sV (c := 11), fI_sV (c := 12), fI_sV (c := 6), fL_sV (c := 9), fL_sV (c := 12), fI_sV_k, fL_sV_k, fV_sV_k, fI_wF, fI_wG, fI_wR, fL_wF, fL_wG, fL_wR, fV_wF, fV_wG, fV_wR, aF_sV, aG_sV, aR_sV, aF_wG, aF_wR, aG_wF, aG_wR, aR_wF, aR_wG, kC, kM, gO g, gF g]
  refine c_min7 hn h7 rfl ?_
  try dsimp only [jrI, jrN, jrA, jisr, jnul, jcat1]
  exact L7 (n - 1) _ _ _ _ _ _ (Nat.le_refl _) e2 rfl
theorem c_mswap (g : G h) (h7 : n ≤ 7) (tr : TR h 116 L) (ok : OK n L) {a1 a2 : Int32} {a b : Nat} (h1 : a1.toInt = a) (h2 : a2.toInt = b) (ha : a < n) (hb : b < n) (H : ∀ h', fr [116] [] h h' → TR h' 116 (swp L a b) → Q none h') : jex X (d + 1) 244 [.ref 81, .int a1, .int a2] h Q := by
  have iv1 : vp_in a1 7 := by rw [vp_inI]; omega
  have iv2 : vp_in a2 7 := by rw [vp_inI]; omega
  rw [jE_X12_swap]
  refine jT_X12_swap_0 ?_
  simp (decide := true) only [jgI_ob, jgf_ob, jgL_ob, jpI_ob, jpL_ob, jpR_ob, jpN_ob, jrc_ob, obj_sV, obj_wF, obj_wG, obj_wR, arr_sV, arr_wF, arr_wG, arr_wR, arL_sV, arL_wF, arL_wG, arL_wR, arR_sV, arR_wF, arR_wG, arR_wR, fI_sV (c := 0), fI_sV (c := 1), fI_sV (c := 2), fI_sV (c := 4), fI_sV (c := 5), fI_sV (c := 7), fI_sV (c := 8), fI_sV (c := 9), fI_sV (c := 10), fI_sV (c := 11), fI_sV (c := 12), fI_sV (c := 6), fL_sV (c := 9), fL_sV (c := 12), fI_sV_k, fL_sV_k, fV_sV_k, fI_wF, fI_wG, fI_wR, fL_wF, fL_wG, fL_wR, fV_wF, fV_wG, fV_wR, aF_sV, aG_sV, aR_sV, aF_wG, aF_wR, aG_wF, aG_wR, aR_wF, aR_wG, kC, kM, gM g, gN g, fV_wF, ti_clamp, h1, h2, Int.toNat_natCast, iv1, iv2, true_and]
  refine H _ (fr_wF (by decide) (fr_wF (by decide) fr_rfl)) (TR_swp tr ok ha hb ?_)
  simp (decide := true) only [jgI_ob, jgf_ob, jgL_ob, jpI_ob, jpL_ob, jpR_ob, jpN_ob, jrc_ob, obj_sV, obj_wF, obj_wG, obj_wR, arr_sV, arr_wF, arr_wG, arr_wR, arL_sV, arL_wF, arL_wG, arL_wR, arR_sV, arR_wF, arR_wG, arR_wR, fI_sV (c := 0), fI_sV (c := 1), fI_sV (c := 2), fI_sV (c := 4), fI_sV (c := 5), fI_sV (c := 7), fI_sV (c := 8), fI_sV (c := 9), fI_sV (c := 10), fI_sV (c := 11), fI_sV (c := 12), fI_sV (c := 6), fL_sV (c := 9), fL_sV (c := 12), fI_sV_k, fL_sV_k, fV_sV_k, fI_wF, fI_wG, fI_wR, fL_wF, fL_wG, fL_wR, fV_wF, fV_wG, fV_wR, aF_sV, aG_sV, aR_sV, aF_wG, aF_wR, aG_wF, aG_wR, aR_wF, aR_wG, kC, kM, gM g]
theorem c_turns (g : G h) (h1 : 1 ≤ n) (h7 : n ≤ 7) (hn : (fI h 81 58).toInt = n) (tr : TR h 116 L) (ok : OK n L) (H0 : nx L = none → Q (some (.int 0)) h) (H1 : ∀ M h', nx L = some M → fr [116] [] h h' → TR h' 116 M → Q (some (.int 1)) h') : jex X (d + 2) 243 [.ref 81] h Q := by
  have e1 : (fI h 81 58 - 1).toInt = ((n - 1 : Nat) : Int) := (by simp only [Int32.toInt_add, Int32.toInt_sub, Int32.toInt_mul, Int32.toInt_neg, Int.bmod_def, tl]; omega)
  have e2 : (fI h 81 58 - 2).toInt = ((n - 1 : Nat) : Int) - 1 := (by simp only [Int32.toInt_add, Int32.toInt_sub, Int32.toInt_mul, Int32.toInt_neg, Int.bmod_def, tl]; omega)
  have L91 : ∀ (j : Nat) (L' : List Nat) (h' : JH) (a b : Nat) (a3 a4 : Int32) (o1 o2 : Option Value) (c z : Nat), b ≤ a + 2 * j → b < n → a ≤ 7 → a3.toInt = b → a4.toInt = a → OK n L' → TR h' 116 L' → fr [116] [] h h' → (∀ h2, fr [116] [] h h2 → TR h2 116 (rvs j L' a b) → Q (some (.int 1)) h2) → jB_X12_turns_86 X (d + 1) Q 81 o1 o2 a4 a3 h' c z := by
    intro j
    induction j with
    | zero =>
      intro L' h' a b a3 a4 o1 o2 c z hj hb ha h3 h4 ok' tr' k HK
      exact jT_X12_turns_86 (jif_n (by rw [ti_lt]; omega) ⟨by decide, HK h' k tr'⟩)
    | succ j ih =>
      intro L' h' a b a3 a4 o1 o2 c z hj hb ha h3 h4 ok' tr' k HK
      have g' := G_fr g rfl k
      unfold rvs at HK
      refine jT_X12_turns_86 ⟨fun q => ?_, fun q => ?_⟩
      · rw [ti_lt, h3, h4] at q
        rw [if_pos (by omega)] at HK
        simp (decide := true) only [jgI_ob, jgf_ob, jgL_ob, jpI_ob, jpL_ob, jpR_ob, jpN_ob, jrc_ob, obj_sV, obj_wF, obj_wG, obj_wR, arr_sV, arr_wF, arr_wG, arr_wR, arL_sV, arL_wF, arL_wG, arL_wR, arR_sV, arR_wF, arR_wG, arR_wR, fI_sV (c := 0), fI_sV (c := 1), fI_sV (c := 2), fI_sV (c := 4), fI_sV (c := 5), fI_sV (c := 7), fI_sV (c := 8), fI_sV (c := 9), fI_sV (c := 10), fI_sV (c := 11), fI_sV (c := 12), fI_sV (c := 6), fL_sV (c := 9), fL_sV (c := 12), fI_sV_k, fL_sV_k, fV_sV_k, fI_wF, fI_wG, fI_wR, fL_wF, fL_wG, fL_wR, fV_wF, fV_wG, fV_wR, aF_sV, aG_sV, aR_sV, aF_wG, aF_wR, aG_wF, aG_wR, aR_wF, aR_wG, gM g']
        refine c_mswap g' h7 tr' ok' h4 h3 (by omega) hb (fun h2 k2 tr2 => ?_)
        try dsimp only [jrI, jrN, jrA, jisr, jnul, jcat1]
        exact ih (swp L' a b) h2 (a + 1) (b - 1) _ _ _ _ _ _ (by omega) (by omega) (by omega) (by simp only [Int32.toInt_add, Int32.toInt_sub, Int32.toInt_mul, Int32.toInt_neg, Int.bmod_def, tl]; omega) (by simp only [Int32.toInt_add, Int32.toInt_sub, Int32.toInt_mul, Int32.toInt_neg, Int.bmod_def, tl]; omega) (OK_swp ok' (by omega) hb) tr2 (fr_trans k k2) HK
      · rw [ti_lt, h3, h4] at q
        rw [if_neg (by omega)] at HK
        exact ⟨by decide, HK h' k tr'⟩
  have SW : ∀ (t k0 : Nat) (a1 a2 : Int32) (o1 o2 : Option Value) (c z : Nat), a1.toInt = t → a2.toInt = k0 → t < n - 1 → k0 < n → nx L = some (rvs 8 (swp L t k0) (t + 1) (n - 1)) → jrc h (.ref 81) 12 (jex X (d + 1) 244 [.ref 81, .int a1, .int a2] h fun r2 h1 => (jrN r2 (jgI h1 (.ref 81) 12 58 fun x3 => (jB_X12_turns_86 X (d + 1) Q 81 o1 o2 (a1 + 1) (x3 - 1) h1 c z)))) := by
    intro t k0 a1 a2 o1 o2 c z ht hk lt lk hx
    simp (decide := true) only [jgI_ob, jgf_ob, jgL_ob, jpI_ob, jpL_ob, jpR_ob, jpN_ob, jrc_ob, obj_sV, obj_wF, obj_wG, obj_wR, arr_sV, arr_wF, arr_wG, arr_wR, arL_sV, arL_wF, arL_wG, arL_wR, arR_sV, arR_wF, arR_wG, arR_wR, fI_sV (c := 0), fI_sV (c := 1), fI_sV (c := 2), fI_sV (c := 4), fI_sV (c := 5), fI_sV (c := 7), fI_sV (c := 8), fI_sV (c := 9), fI_sV (c := 10), fI_sV (c := 11), fI_sV (c := 12), fI_sV (c := 6), fL_sV (c := 9), fL_sV (c := 12), fI_sV_k, fL_sV_k, fV_sV_k, fI_wF, fI_wG, fI_wR, fL_wF, fL_wG, fL_wR, fV_wF, fV_wG, fV_wR, aF_sV, aG_sV, aR_sV, aF_wG, aF_wR, aG_wF, aG_wR, aR_wF, aR_wG, gM g]
    refine c_mswap g h7 tr ok ht hk (by omega) lk (fun h2 k2 tr2 => ?_)
    try dsimp only [jrI, jrN, jrA, jisr, jnul, jcat1]
    have g2 := G_fr g rfl k2
    have e3 : fI h2 81 58 = fI h 81 58 := frI k2 (by decide) (by decide)
    simp (decide := true) only [jgI_ob, jgf_ob, jgL_ob, jpI_ob, jpL_ob, jpR_ob, jpN_ob, jrc_ob, obj_sV, obj_wF, obj_wG, obj_wR, arr_sV, arr_wF, arr_wG, arr_wR, arL_sV, arL_wF, arL_wG, arL_wR, arR_sV, arR_wF, arR_wG, arR_wR, fI_sV (c := 0), fI_sV (c := 1), fI_sV (c := 2), fI_sV (c := 4), fI_sV (c := 5), fI_sV (c := 7), fI_sV (c := 8), fI_sV (c := 9), fI_sV (c := 10), fI_sV (c := 11), fI_sV (c := 12), fI_sV (c := 6), fL_sV (c := 9), fL_sV (c := 12), fI_sV_k, fL_sV_k, fV_sV_k, fI_wF, fI_wG, fI_wR, fL_wF, fL_wG, fL_wR, fV_wF, fV_wG, fV_wR, aF_sV, aG_sV, aR_sV, aF_wG, aF_wR, aG_wF, aG_wR, aR_wF, aR_wG, gM g2, e3]
    exact L91 8 (swp L t k0) h2 (t + 1) (n - 1) _ _ _ _ _ _ (by omega) (by omega) (by omega) e1 (by simp only [Int32.toInt_add, Int32.toInt_sub, Int32.toInt_mul, Int32.toInt_neg, Int.bmod_def, tl]; omega) (OK_swp ok (by omega) lk) tr2 k2 (fun h3 k3 tr3 => H1 _ h3 hx k3 tr3)
  have L47 : ∀ (k t : Nat) (a1 a2 : Int32) (o1 o2 : Option Value) (c z : Nat), t ≤ k → k < n → t < n - 1 → a1.toInt = t → a2.toInt = k → nx L = some (rvs 8 (swp L t (scnK L t k)) (t + 1) (n - 1)) → jB_X12_turns_47 X (d + 1) Q 81 a1 a2 o1 o2 h c z := by
    intro k
    induction k with
    | zero =>
      intro t a1 a2 o1 o2 c z htk hk ht ht1 hk2 hx
      have t0 : t = 0 := by omega
      subst t0
      have B := TR_at tr ok (show 0 < n by omega) h7
      have SS := SW 0 0 a1 a2 (some (.int a1)) (some (.int a2)) c z ht1 hk2 ht (by omega) hx
      refine jT_X12_turns_47 ?_
      simp (decide := true) only [jgI_ob, jgf_ob, jgL_ob, jpI_ob, jpL_ob, jpR_ob, jpN_ob, jrc_ob, obj_sV, obj_wF, obj_wG, obj_wR, arr_sV, arr_wF, arr_wG, arr_wR, arL_sV, arL_wF, arL_wG, arL_wR, arR_sV, arR_wF, arR_wG, arR_wR, fI_sV (c := 0), fI_sV (c := 1), fI_sV (c := 2), fI_sV (c := 4), fI_sV (c := 5), fI_sV (c := 7), fI_sV (c := 8), fI_sV (c := 9), fI_sV (c := 10), fI_sV (c := 11), fI_sV (c := 12), fI_sV (c := 6), fL_sV (c := 9), fL_sV (c := 12), fI_sV_k, fL_sV_k, fV_sV_k, fI_wF, fI_wG, fI_wR, fL_wF, fL_wG, fL_wR, fV_wF, fV_wG, fV_wR, aF_sV, aG_sV, aR_sV, aF_wG, aF_wR, aG_wF, aG_wR, aR_wF, aR_wG, kC, kM, gM g, gN g, ti_clamp, ht1, hk2, Int.toNat_natCast, ti_lt, B.2.1] at SS ⊢
      refine ⟨by rw [vp_inI]; omega, by rw [vp_inI]; omega, jif_n (by omega) SS⟩
    | succ k ih =>
      intro t a1 a2 o1 o2 c z htk hk ht ht1 hk2 hx
      unfold scnK at hx
      have A := TR_at tr ok (show k + 1 < n by omega) h7
      have B := TR_at tr ok (show t < n by omega) h7
      refine jT_X12_turns_47 ?_
      simp (decide := true) only [jgI_ob, jgf_ob, jgL_ob, jpI_ob, jpL_ob, jpR_ob, jpN_ob, jrc_ob, obj_sV, obj_wF, obj_wG, obj_wR, arr_sV, arr_wF, arr_wG, arr_wR, arL_sV, arL_wF, arL_wG, arL_wR, arR_sV, arR_wF, arR_wG, arR_wR, fI_sV (c := 0), fI_sV (c := 1), fI_sV (c := 2), fI_sV (c := 4), fI_sV (c := 5), fI_sV (c := 7), fI_sV (c := 8), fI_sV (c := 9), fI_sV (c := 10), fI_sV (c := 11), fI_sV (c := 12), fI_sV (c := 6), fL_sV (c := 9), fL_sV (c := 12), fI_sV_k, fL_sV_k, fV_sV_k, fI_wF, fI_wG, fI_wR, fL_wF, fL_wG, fL_wR, fV_wF, fV_wG, fV_wR, aF_sV, aG_sV, aR_sV, aF_wG, aF_wR, aG_wF, aG_wR, aR_wF, aR_wG, kC, kM, gM g, gN g, ti_clamp, ht1, hk2, Int.toNat_natCast, ti_lt, A.2.1, B.2.1]
      refine ⟨by rw [vp_inI]; omega, by rw [vp_inI]; omega, fun q2 => ?_, fun q2 => ?_⟩
      · have ne : t ≠ k + 1 := fun e => by subst e; omega
        rw [if_pos ⟨by omega, by omega⟩] at hx
        exact ih t _ _ _ _ _ _ (by omega) (by omega) ht ht1 (by simp only [Int32.toInt_add, Int32.toInt_sub, Int32.toInt_mul, Int32.toInt_neg, Int.bmod_def, tl]; omega) hx
      · rw [if_neg (fun w => q2 (by have := w.2; omega))] at hx
        have := SW t (k + 1) a1 a2 (some (.int a1)) (some (.int a2)) c z ht1 hk2 ht hk hx
        simp (decide := true) only [jgI_ob, jgf_ob, jgL_ob, jpI_ob, jpL_ob, jpR_ob, jpN_ob, jrc_ob, obj_sV, obj_wF, obj_wG, obj_wR, arr_sV, arr_wF, arr_wG, arr_wR, arL_sV, arL_wF, arL_wG, arL_wR, arR_sV, arR_wF, arR_wG, arR_wR, fI_sV (c := 0), fI_sV (c := 1), fI_sV (c := 2), fI_sV (c := 4), fI_sV (c := 5), fI_sV (c := 7), fI_sV (c := 8), fI_sV (c := 9), fI_sV (c := 10), fI_sV (c := 11), fI_sV (c := 12), fI_sV (c := 6), fL_sV (c := 9), fL_sV (c := 12), fI_sV_k, fL_sV_k, fV_sV_k, fI_wF, fI_wG, fI_wR, fL_wF, fL_wG, fL_wR, fV_wF, fV_wG, fV_wR, aF_sV, aG_sV, aR_sV, aF_wG, aF_wR, aG_wF, aG_wR, aR_wF, aR_wG, gM g] at this
        exact this
  have L7 : ∀ (m : Nat) (a1 : Int32) (o2 o3 o4 : Option Value) (c z : Nat), m ≤ n - 1 → a1.toInt = (m : Int) - 1 → scnI L (n - 1) = scnI L m → jB_X12_turns_7 X (d + 1) Q 81 a1 o2 o3 o4 h c z := by
    intro m
    induction m with
    | zero =>
      intro a1 o2 o3 o4 c z hm ha hs
      refine jT_X12_turns_7 (jif_t (by rw [ti_lt, ha]; decide) (jif_t (by rw [ti_lt, ha]; decide) ⟨by decide, H0 ?_⟩))
      unfold nx
      rw [ok.1, hs]
      rfl
    | succ m ih =>
      intro a1 o2 o3 o4 c z hm ha hs
      have ha' : a1.toInt = m := by omega
      have A := TR_at tr ok (show m < n by omega) h7
      have B := TR_at tr ok (show m + 1 < n by omega) h7
      have m1 : (a1 + 1).toInt = ((m + 1 : Nat) : Int) := (by simp only [Int32.toInt_add, Int32.toInt_sub, Int32.toInt_mul, Int32.toInt_neg, Int.bmod_def, tl]; omega)
      rw [scnI_s] at hs
      refine jT_X12_turns_7 (jif_n (by rw [ti_lt, tl.1]; omega) ?_)
      simp (decide := true) only [jgI_ob, jgf_ob, jgL_ob, jpI_ob, jpL_ob, jpR_ob, jpN_ob, jrc_ob, obj_sV, obj_wF, obj_wG, obj_wR, arr_sV, arr_wF, arr_wG, arr_wR, arL_sV, arL_wF, arL_wG, arL_wR, arR_sV, arR_wF, arR_wG, arR_wR, fI_sV (c := 0), fI_sV (c := 1), fI_sV (c := 2), fI_sV (c := 4), fI_sV (c := 5), fI_sV (c := 7), fI_sV (c := 8), fI_sV (c := 9), fI_sV (c := 10), fI_sV (c := 11), fI_sV (c := 12), fI_sV (c := 6), fL_sV (c := 9), fL_sV (c := 12), fI_sV_k, fL_sV_k, fV_sV_k, fI_wF, fI_wG, fI_wR, fL_wF, fL_wG, fL_wR, fV_wF, fV_wG, fV_wR, aF_sV, aG_sV, aR_sV, aF_wG, aF_wR, aG_wF, aG_wR, aR_wF, aR_wG, kC, kM, gM g, gN g, ti_clamp, ha', m1, Int.toNat_natCast, ti_lt, tl, A.2.1, B.2.1]
      refine ⟨by rw [vp_inI]; omega, by rw [vp_inI]; omega, fun q => ?_, fun q => jif_n (by omega) ?_⟩
      · rw [if_pos (by omega)] at hs
        exact ih _ _ _ _ _ _ (by omega) (by simp only [Int32.toInt_add, Int32.toInt_sub, Int32.toInt_mul, Int32.toInt_neg, Int.bmod_def, tl]; omega) hs
      · rw [if_neg (by omega)] at hs
        refine L47 (n - 1) m a1 _ _ _ _ _ (by omega) (by omega) (by omega) ha' e1 ?_
        unfold nx
        rw [ok.1, hs]
  rw [jE_X12_turns]
  refine jT_X12_turns_0 ?_
  simp (decide := true) only [jgI_ob, jgf_ob, jgL_ob, jpI_ob, jpL_ob, jpR_ob, jpN_ob, jrc_ob, obj_sV, obj_wF, obj_wG, obj_wR, arr_sV, arr_wF, arr_wG, arr_wR, arL_sV, arL_wF, arL_wG, arL_wR, arR_sV, arR_wF, arR_wG, arR_wR, fI_sV (c := 0), fI_sV (c := 1), fI_sV (c := 2), fI_sV (c := 4), fI_sV (c := 5), fI_sV (c := 7), fI_sV (c := 8), fI_sV (c := 9), fI_sV (c := 10), fI_sV (c := 11), fI_sV (c := 12), fI_sV (c := 6), fL_sV (c := 9), fL_sV (c := 12), fI_sV_k, fL_sV_k, fV_sV_k, fI_wF, fI_wG, fI_wR, fL_wF, fL_wG, fL_wR, fV_wF, fV_wG, fV_wR, aF_sV, aG_sV, aR_sV, aF_wG, aF_wR, aG_wF, aG_wR, aR_wF, aR_wG, gM g]
  exact L7 (n - 1) _ _ _ _ _ _ (Nat.le_refl _) e2 rfl
end NXT
