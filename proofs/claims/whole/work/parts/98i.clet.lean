/-! A RUN: the class begins a let -/
def blF : List (Nat × Nat) := [(24, 12), (24, 14), (24, 15), (24, 16)]
section CBL
variable {X : JX} {d : Nat} {Q : JQ} {h : JH} {k s : Nat}
theorem c_beginLet (g : G h) (ea : fI h 24 15 = nI k) (es : fI h 24 14 = nI s) (s2 : s ≤ 200) (H1 : s ≠ 200 → ∀ h1, fr [] blF h h1 → fI h1 24 14 = nI (s + 1) → fI h1 24 15 = nI (k + 3) → fI h1 24 16 = nI k → fI h1 24 12 = 0 → Q (some (.int 0)) h1) (H0 : s = 200 → ∀ h1, fr [] blF h h1 → fI h1 24 16 = nI k → Q (some (.int 1)) h1) : jex X (d + 2) 165 [.ref 24] h Q := by
  have ob : obj h 24 7 := by simp only [gO g]
  have i3 : nI k + 3 = nI (k + 3) := nI_add k 3
  rw [jE_X7_beginLet]
  refine jT_X7_beginLet_0 ?_
  simp (decide := true) only [jgI_ob (c := 7), jpI_ob (c := 7), jrc_ob (c := 7), obj_sV, ob, fI_sV_k, ea, i3, true_and]
  refine (fun S : (∀ hh, hh = sV (sV (sV h 24 16 (.int (nI k))) 24 12 (.int 0)) 24 15 (.int (nI (k + 3))) → jex X (d + 1) 166 [.ref 24] hh (fun r7 h6 => jrI r7 fun x8 => jifp (x8 = 0) (Q (some (.int 1)) h6) (Q (some (.int 0)) h6))) => S _ rfl) (fun hh ee => ?_)
  have k1 : fr [] blF h hh := by rw [ee]; exact fr_sV (by decide) (fr_sV (by decide) (fr_sV (by decide) fr_rfl))
  have e14 : fI hh 24 14 = nI s := by rw [ee]; simp (decide := true) only [fI_sV_k, es]
  have e15 : fI hh 24 15 = nI (k + 3) := by rw [ee]; simp (decide := true) only [jgI_ob, jgf_ob, jgL_ob, jpI_ob, jpL_ob, jpR_ob, jpN_ob, jrc_ob, obj_sV, obj_wF, obj_wG, obj_wR, arr_sV, arr_wF, arr_wG, arr_wR, arL_sV, arL_wF, arL_wG, arL_wR, arR_sV, arR_wF, arR_wG, arR_wR, fI_sV (c := 0), fI_sV (c := 1), fI_sV (c := 2), fI_sV (c := 4), fI_sV (c := 5), fI_sV (c := 7), fI_sV (c := 8), fI_sV (c := 9), fI_sV (c := 10), fI_sV (c := 11), fI_sV (c := 12), fI_sV (c := 6), fL_sV (c := 9), fL_sV (c := 12), fI_sV_k, fL_sV_k, fV_sV_k, fI_wF, fI_wG, fI_wR, fL_wF, fL_wG, fL_wR, fV_wF, fV_wG, fV_wR, aF_sV, aG_sV, aR_sV, aF_wG, aF_wR, aG_wF, aG_wR, aR_wF, aR_wG, ob]
  have e16 : fI hh 24 16 = nI k := by rw [ee]; simp (decide := true) only [jgI_ob, jgf_ob, jgL_ob, jpI_ob, jpL_ob, jpR_ob, jpN_ob, jrc_ob, obj_sV, obj_wF, obj_wG, obj_wR, arr_sV, arr_wF, arr_wG, arr_wR, arL_sV, arL_wF, arL_wG, arL_wR, arR_sV, arR_wF, arR_wG, arR_wR, fI_sV (c := 0), fI_sV (c := 1), fI_sV (c := 2), fI_sV (c := 4), fI_sV (c := 5), fI_sV (c := 7), fI_sV (c := 8), fI_sV (c := 9), fI_sV (c := 10), fI_sV (c := 11), fI_sV (c := 12), fI_sV (c := 6), fL_sV (c := 9), fL_sV (c := 12), fI_sV_k, fL_sV_k, fV_sV_k, fI_wF, fI_wG, fI_wR, fL_wF, fL_wG, fL_wR, fV_wF, fV_wG, fV_wR, aF_sV, aG_sV, aR_sV, aF_wG, aF_wR, aG_wF, aG_wR, aR_wF, aR_wG, ob]
  have e12 : fI hh 24 12 = 0 := by rw [ee]; simp (decide := true) only [jgI_ob, jgf_ob, jgL_ob, jpI_ob, jpL_ob, jpR_ob, jpN_ob, jrc_ob, obj_sV, obj_wF, obj_wG, obj_wR, arr_sV, arr_wF, arr_wG, arr_wR, arL_sV, arL_wF, arL_wG, arL_wR, arR_sV, arR_wF, arR_wG, arR_wR, fI_sV (c := 0), fI_sV (c := 1), fI_sV (c := 2), fI_sV (c := 4), fI_sV (c := 5), fI_sV (c := 7), fI_sV (c := 8), fI_sV (c := 9), fI_sV (c := 10), fI_sV (c := 11), fI_sV (c := 12), fI_sV (c := 6), fL_sV (c := 9), fL_sV (c := 12), fI_sV_k, fL_sV_k, fV_sV_k, fI_wF, fI_wG, fI_wR, fL_wF, fL_wG, fL_wR, fV_wF, fV_wG, fV_wR, aF_sV, aG_sV, aR_sV, aF_wG, aF_wR, aG_wF, aG_wR, aR_wF, aR_wG, ob]
  clear ee
  have g1 := G_fr g rfl k1
  refine c_countStep g1 e14 s2 (fun ns => ?_) (fun e => ?_)
  · try dsimp only [jrI, jrN, jrA, jisr, jnul, jcat1]
    refine jif_n (by decide) (H1 ns _ (fr_sV (by decide) k1) ?_ ?_ ?_ ?_)
    · exact fI_sV (c := 7) (by simp only [gO g1]) rfl
    · rw [fI_sV_k (by decide)]; exact e15
    · rw [fI_sV_k (by decide)]; exact e16
    · rw [fI_sV_k (by decide)]; exact e12
  · try dsimp only [jrI, jrN, jrA, jisr, jnul, jcat1]
    refine jif_t rfl (H0 e _ (fr_sV (by decide) k1) ?_)
    rw [fI_sV_k (by decide)]; exact e16
end CBL
