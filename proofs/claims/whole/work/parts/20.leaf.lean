/-! LEAVES -/
theorem c_isNumber {X : JX} {d : Nat} {Q : JQ} {h : JH} {m e : Int32} (H : Q (some (.int (bi (decide (100 ≤ m.toInt ∧ m.toInt ≤ 999 ∧ -99 ≤ e.toInt ∧ e.toInt ≤ 99))))) h) : jex X (d + 1) 140 [.int m, .int e] h Q := by
  rw [jE_X11_isNumber]
  refine jT_X11_isNumber_0 ?_
  by_cases hd : 100 ≤ m.toInt ∧ m.toInt ≤ 999 ∧ -99 ≤ e.toInt ∧ e.toInt ≤ 99
  · rw [decide_eq_true hd] at H
    refine jif_n (by rw [ti_lt]; simp; omega) (jif_n (by rw [ti_lt]; simp; omega) (jif_n (by rw [ti_lt]; simp; omega) (jif_n (by rw [ti_lt]; simp; omega) ⟨by decide, H⟩)))
  · rw [decide_eq_false hd] at H
    refine ⟨fun _ => ⟨by decide, H⟩, fun h1 => ⟨fun _ => ⟨by decide, H⟩, fun h2 => ⟨fun _ => ⟨by decide, H⟩, fun h3 => ⟨fun _ => ⟨by decide, H⟩, fun h4 => absurd ?_ hd⟩⟩⟩⟩
    rw [ti_lt] at h1 h2 h3 h4
    simp at h1 h2 h3 h4
    omega
theorem c_putHair {X : JX} {d : Nat} {Q : JQ} {h : JH} {p : Nat} {a b : Int32} (ho : obj h p 2) (H0 : a.toInt < 0 ∨ 4096 < a.toInt → Q (some (.int 0)) h) (H1 : 0 ≤ a.toInt → a.toInt ≤ 4096 → Q (some (.int 1)) (sV (sV (sV h p 5 (.int a)) p 7 (.int (fI h p 0 + b))) p 9 (.int (fI h p 9 + 1)))) : jex X (d + 1) 144 [.ref p, .int a, .int b] h Q := by
  rw [jE_X2_putHair]
  refine jT_X2_putHair_0 ?_
  simp (decide := true) only [jgI_ob, jgf_ob, jgL_ob, jpI_ob, jpL_ob, jpR_ob, jpN_ob, jrc_ob, obj_sV, obj_wF, obj_wG, obj_wR, arr_sV, arr_wF, arr_wG, arr_wR, arL_sV, arL_wF, arL_wG, arL_wR, arR_sV, arR_wF, arR_wG, arR_wR, fI_sV, fL_sV, fI_sV_k, fL_sV_k, fV_sV_k, fI_wF, fI_wG, fI_wR, fL_wF, fL_wG, fL_wR, fV_wF, fV_wG, fV_wR, aF_sV, aG_sV, aR_sV, aF_wG, aF_wR, aG_wF, aG_wR, aR_wF, aR_wG, ho, ti_lt]
  refine ⟨fun h1 => ⟨by decide, H0 ?_⟩, fun h1 => ⟨fun h2 => ⟨by decide, H0 ?_⟩, fun h2 => ⟨by decide, H1 ?_ ?_⟩⟩⟩
  all_goals (simp at *; omega)
theorem c_setAll {X : JX} {d : Nat} {Q : JQ} {h : JH} {p : Nat} {a b c e : Int32} (ho : obj h p 2) (H : Q none (sV (sV (sV (sV h p 4 (.int a)) p 5 (.int b)) p 6 (.int c)) p 7 (.int e))) : jex X (d + 1) 136 [.ref p, .int a, .int b, .int c, .int e] h Q := by
  rw [jE_X2_setAll]
  refine jT_X2_setAll_0 ?_
  simp (decide := true) only [jgI_ob, jgf_ob, jgL_ob, jpI_ob, jpL_ob, jpR_ob, jpN_ob, jrc_ob, obj_sV, obj_wF, obj_wG, obj_wR, arr_sV, arr_wF, arr_wG, arr_wR, arL_sV, arL_wF, arL_wG, arL_wR, arR_sV, arR_wF, arR_wG, arR_wR, fI_sV, fL_sV, fI_sV_k, fL_sV_k, fV_sV_k, fI_wF, fI_wG, fI_wR, fL_wF, fL_wG, fL_wR, fV_wF, fV_wG, fV_wR, aF_sV, aG_sV, aR_sV, aF_wG, aF_wR, aG_wF, aG_wR, aR_wF, aR_wG, ho]
  exact H
