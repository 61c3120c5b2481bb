/-! A RUN: the model's, whole -/
/-- the hand as a run finds it -/
def x0s (h : JH) : S7 := s7 (fI h 81 14).toInt (fI h 81 15).toInt (fI h 81 16).toInt (fI h 81 17).toInt 0 0 (fI h 81 57).toInt
def mA1 : List Nat := gA ++ [107, 108]
def mF1 : List (Nat × Nat) := (81, 51) :: gFa
def mF0 : List (Nat × Nat) := (81, 54) :: (81, 55) :: gFa
section MRU
variable {X : JX} {d : Nat} {Q : JQ} {h : JH} {n : Nat} {m ρ τ f : Nat → Nat} {b t : Nat → Bool} {fl : Nat → Nat → Int} {r : Nat} {hs ey B : Int} {u : Nat → Int} {N K nn : Nat} {R : Int × Nat × S7 × (Nat → Bool) × (Nat → V6)}
theorem c_mrun (e : MEs h n m ρ τ b f t fl r hs ey u N K) (pz : PZs hs ey u N K B) (n4 : n ≤ 4) (bx : BXs B 0 (x0s h)) (hn : 401 * 200 + K < nn) (eR : R = gof hs ey (slf r (m r) b f t fl) u N K nn 0 0 (x0s h) (fun _ => false) (fun _ _ => 0) (fun _ => 0)) (M1 : R.1 = 0 → ∀ h2 s', fr mA1 mF1 h h2 → MX h2 R.2.2.1 → BXs B s' R.2.2.1 → (∀ j, j < 12 → aF h2 107 j = bi (R.2.2.2.1 j)) → (∀ j, j < 12 → R.2.2.2.1 j = true → ∀ w, w < 6 → (aF h2 108 (6 * j + w)).toInt = R.2.2.2.2 j w) → fI h2 81 51 = fI h2 81 50 → Q (some (.int (fI h2 81 49))) h2) (M0 : R.1 ≠ 0 → ∀ h2, fr gA mF0 h h2 → (fI h2 81 14 = fI h 81 14 ∧ fI h2 81 15 = fI h 81 15 ∧ fI h2 81 16 = fI h 81 16 ∧ fI h2 81 17 = fI h 81 17) → (fI h2 81 54).toInt = R.1 → fI h2 81 55 = nI (tS u N R.2.1) → Q (some (.int (-2))) h2) : jex X (d + 9) 196 [.ref 81] h Q := by
  have e' := e
  obtain ⟨g, rb, hr, e13, e10, e11, pm⟩ := e
  rw [jE_X12_run]
  refine jT_X12_run_0 ?_
  rw [jgI_ob (c := 12) (by simp only [gM g]) rfl, e13]
  refine jif_n (nI_pos (by omega)) ?_
  simp (decide := true) only [jgI_ob (c := 12), jpI_ob (c := 12), obj_sV, gM g]
  refine (fun S : (∀ hh, hh = sV (sV (sV h 81 48 (.int 0)) 81 49 (.int 0)) 81 50 (.int 0) → jB_X12_run_48 X (d + 8) Q 81 (fI h 81 14) (fI h 81 15) (fI h 81 16) (fI h 81 17) 0 hh 0 0) => S _ rfl) (fun hh ee => ?_)
  have k1 : fr [] [(81, 48), (81, 49), (81, 50)] h hh := by rw [ee]; exact fr_sV (by decide) (fr_sV (by decide) (fr_sV (by decide) fr_rfl))
  have f48 : fI hh 81 48 = 0 := by rw [ee]; simp (decide := true) only [jgI_ob, jgf_ob, jgL_ob, jpI_ob, jpL_ob, jpR_ob, jpN_ob, jrc_ob, obj_sV, obj_wF, obj_wG, obj_wR, arr_sV, arr_wF, arr_wG, arr_wR, arL_sV, arL_wF, arL_wG, arL_wR, arR_sV, arR_wF, arR_wG, arR_wR, fI_sV (c := 0), fI_sV (c := 1), fI_sV (c := 2), fI_sV (c := 4), fI_sV (c := 5), fI_sV (c := 7), fI_sV (c := 8), fI_sV (c := 9), fI_sV (c := 10), fI_sV (c := 11), fI_sV (c := 12), fI_sV (c := 6), fL_sV (c := 9), fL_sV (c := 12), fI_sV_k, fL_sV_k, fV_sV_k, fI_wF, fI_wG, fI_wR, fL_wF, fL_wG, fL_wR, fV_wF, fV_wG, fV_wR, aF_sV, aG_sV, aR_sV, aF_wG, aF_wR, aG_wF, aG_wR, aR_wF, aR_wG, gM g]
  have f49 : fI hh 81 49 = 0 := by rw [ee]; simp (decide := true) only [jgI_ob, jgf_ob, jgL_ob, jpI_ob, jpL_ob, jpR_ob, jpN_ob, jrc_ob, obj_sV, obj_wF, obj_wG, obj_wR, arr_sV, arr_wF, arr_wG, arr_wR, arL_sV, arL_wF, arL_wG, arL_wR, arR_sV, arR_wF, arR_wG, arR_wR, fI_sV (c := 0), fI_sV (c := 1), fI_sV (c := 2), fI_sV (c := 4), fI_sV (c := 5), fI_sV (c := 7), fI_sV (c := 8), fI_sV (c := 9), fI_sV (c := 10), fI_sV (c := 11), fI_sV (c := 12), fI_sV (c := 6), fL_sV (c := 9), fL_sV (c := 12), fI_sV_k, fL_sV_k, fV_sV_k, fI_wF, fI_wG, fI_wR, fL_wF, fL_wG, fL_wR, fV_wF, fV_wG, fV_wR, aF_sV, aG_sV, aR_sV, aF_wG, aF_wR, aG_wF, aG_wR, aR_wF, aR_wG, gM g]
  have f50 : fI hh 81 50 = 0 := by rw [ee]; simp (decide := true) only [jgI_ob, jgf_ob, jgL_ob, jpI_ob, jpL_ob, jpR_ob, jpN_ob, jrc_ob, obj_sV, obj_wF, obj_wG, obj_wR, arr_sV, arr_wF, arr_wG, arr_wR, arL_sV, arL_wF, arL_wG, arL_wR, arR_sV, arR_wF, arR_wG, arR_wR, fI_sV (c := 0), fI_sV (c := 1), fI_sV (c := 2), fI_sV (c := 4), fI_sV (c := 5), fI_sV (c := 7), fI_sV (c := 8), fI_sV (c := 9), fI_sV (c := 10), fI_sV (c := 11), fI_sV (c := 12), fI_sV (c := 6), fL_sV (c := 9), fL_sV (c := 12), fI_sV_k, fL_sV_k, fV_sV_k, fI_wF, fI_wG, fI_wR, fL_wF, fL_wG, fL_wR, fV_wF, fV_wG, fV_wR, aF_sV, aG_sV, aR_sV, aF_wG, aF_wR, aG_wF, aG_wR, aR_wF, aR_wG, gM g]
  clear ee
  have g1 := G_fr g rfl k1
  refine l_run48 g1 (fun h4 k4 z109 => ?_)
  have k14 : fr gA gFa h h4 := fr_trans (fr_mono (by decide) (by decide) k1) (fr_mono (by decide) (by decide) k4)
  have e4 := ME_fr e' pz.1 k14 (fun _ w => w) (fun _ w => w)
  have I : ∀ k, k ≠ 48 → k ≠ 49 → k ≠ 50 → fI h4 81 k = fI h 81 k := fun k q1 q2 q3 => by
    rw [frI k4 List.not_mem_nil (by omega)]
    refine frI k1 (fun w => ?_) (by omega)
    simp only [List.mem_cons, Prod.mk.injEq, List.not_mem_nil, or_false, true_and] at w
    omega
  have mx : MX h4 (x0s h) := by
    unfold MX
    rw [I 14 (by decide) (by decide) (by decide), I 15 (by decide) (by decide) (by decide), I 16 (by decide) (by decide) (by decide), I 17 (by decide) (by decide) (by decide), I 57 (by decide) (by decide) (by decide), frI k4 (p := 81) (k := 49) List.not_mem_nil (by decide), frI k4 (p := 81) (k := 50) List.not_mem_nil (by decide), f49, f50]
    exact ⟨rfl, rfl, rfl, rfl, rfl, rfl, rfl⟩
  have e48 : fI h4 81 48 = nI 0 := by rw [frI k4 List.not_mem_nil (by decide), f48]; rfl
  have mv : MVs h4 (fun _ => false) (fun _ _ => 0) := fun c hc => ⟨z109 c hc, fun w => absurd (show false = true from w) (by decide)⟩
  rw [jE_X12_goes]
  refine jT_X12_goes_0 ?_
  change jB_X12_goes_2 X (d + 7) _ 81 (nI (ns u N 0)) none h4 0 0
  refine l_goes (hb := h4) (R := R) e4 pz (fun q0 h5 s' k5 mx5 bx5 s2 mv5 => ?_) (fun q0 h5 k5 e52 e53 => ?_) nn 0 0 (x0s h) (fun _ => false) (fun _ _ => 0) (fun _ => 0) h4 none (by omega) eR ⟨Nat.zero_le _, rfl, by decide, fr_rfl, mx, bx, e48, mv, fun bb hb => absurd hb List.not_mem_nil⟩
  · have g5 := G_fr e4.1 rfl k5
    try dsimp only [jrI, jrN, jrA, jisr, jnul, jcat1]
    refine jif_n (by decide) ?_
    refine l_run119 g5 (fun j hj => ?_) (fun h6 k6 p107 p108 e51 => ?_)
    · rw [(mv5 j hj).1]
      cases R.2.2.2.1 j
      · exact Or.inl rfl
      · exact Or.inr rfl
    · have e49 : fI h5 81 49 = fI h6 81 49 := (frI k6 (by decide) (by decide)).symm
      have e50 : fI h6 81 50 = fI h5 81 50 := frI k6 (by decide) (by decide)
      rw [e49]
      refine M1 q0 h6 s' (fr_trans (fr_mono (by decide) (by decide) k14) (fr_trans (fr_mono (by decide) (by decide) k5) (fr_mono (by decide) (by decide) k6))) (MX_fr mx5 k6 (by decide) (by decide) (by decide) (by decide) (by decide) (by decide) (by decide)) bx5 (fun j hj => ?_) (fun j hj tj w hw => ?_) (by rw [e51, e50])
      · rw [p107 j hj]; exact (mv5 j hj).1
      · rw [p108 _ (by omega)]; exact ((mv5 j hj).2 tj).2 w hw
  · have g5 := G_fr e4.1 rfl k5
    try dsimp only [jrI, jrN, jrA, jisr, jnul, jcat1]
    refine jif_t rfl ?_
    simp (decide := true) only [jgI_ob (c := 12), jpI_ob (c := 12), obj_sV, gM g5, fI_sV_k]
    refine (fun S : (∀ hh, hh = sV (sV (sV (sV (sV (sV h5 81 14 (.int (fI h 81 14))) 81 15 (.int (fI h 81 15))) 81 16 (.int (fI h 81 16))) 81 17 (.int (fI h 81 17))) 81 54 (.int (fI h5 81 52))) 81 55 (.int (fI h5 81 53)) → Q (some (.int (-2))) hh) => S _ rfl) (fun h6 ee => ?_)
    have k6 : fr gA mF0 h5 h6 := by rw [ee]; exact fr_sV (by decide) (fr_sV (by decide) (fr_sV (by decide) (fr_sV (by decide) (fr_sV (by decide) (fr_sV (by decide) fr_rfl)))))
    refine M0 q0 h6 (fr_trans (fr_mono (by decide) (by decide) k14) (fr_trans (fr_mono (by decide) (by decide) k5) k6)) ?_ ?_ ?_
    · rw [ee]; simp (decide := true) only [jgI_ob, jgf_ob, jgL_ob, jpI_ob, jpL_ob, jpR_ob, jpN_ob, jrc_ob, obj_sV, obj_wF, obj_wG, obj_wR, arr_sV, arr_wF, arr_wG, arr_wR, arL_sV, arL_wF, arL_wG, arL_wR, arR_sV, arR_wF, arR_wG, arR_wR, fI_sV (c := 0), fI_sV (c := 1), fI_sV (c := 2), fI_sV (c := 4), fI_sV (c := 5), fI_sV (c := 7), fI_sV (c := 8), fI_sV (c := 9), fI_sV (c := 10), fI_sV (c := 11), fI_sV (c := 12), fI_sV (c := 6), fL_sV (c := 9), fL_sV (c := 12), fI_sV_k, fL_sV_k, fV_sV_k, fI_wF, fI_wG, fI_wR, fL_wF, fL_wG, fL_wR, fV_wF, fV_wG, fV_wR, aF_sV, aG_sV, aR_sV, aF_wG, aF_wR, aG_wF, aG_wR, aR_wF, aR_wG, gM g5, and_self]
    · rw [ee]; simp (decide := true) only [jgI_ob, jgf_ob, jgL_ob, jpI_ob, jpL_ob, jpR_ob, jpN_ob, jrc_ob, obj_sV, obj_wF, obj_wG, obj_wR, arr_sV, arr_wF, arr_wG, arr_wR, arL_sV, arL_wF, arL_wG, arL_wR, arR_sV, arR_wF, arR_wG, arR_wR, fI_sV (c := 0), fI_sV (c := 1), fI_sV (c := 2), fI_sV (c := 4), fI_sV (c := 5), fI_sV (c := 7), fI_sV (c := 8), fI_sV (c := 9), fI_sV (c := 10), fI_sV (c := 11), fI_sV (c := 12), fI_sV (c := 6), fL_sV (c := 9), fL_sV (c := 12), fI_sV_k, fL_sV_k, fV_sV_k, fI_wF, fI_wG, fI_wR, fL_wF, fL_wG, fL_wR, fV_wF, fV_wG, fV_wR, aF_sV, aG_sV, aR_sV, aF_wG, aF_wR, aG_wF, aG_wR, aR_wF, aR_wG, gM g5, e52]
    · rw [ee]; simp (decide := true) only [jgI_ob, jgf_ob, jgL_ob, jpI_ob, jpL_ob, jpR_ob, jpN_ob, jrc_ob, obj_sV, obj_wF, obj_wG, obj_wR, arr_sV, arr_wF, arr_wG, arr_wR, arL_sV, arL_wF, arL_wG, arL_wR, arR_sV, arR_wF, arR_wG, arR_wR, fI_sV (c := 0), fI_sV (c := 1), fI_sV (c := 2), fI_sV (c := 4), fI_sV (c := 5), fI_sV (c := 7), fI_sV (c := 8), fI_sV (c := 9), fI_sV (c := 10), fI_sV (c := 11), fI_sV (c := 12), fI_sV (c := 6), fL_sV (c := 9), fL_sV (c := 12), fI_sV_k, fL_sV_k, fV_sV_k, fI_wF, fI_wG, fI_wR, fL_wF, fL_wG, fL_wR, fV_wF, fV_wG, fV_wR, aF_sV, aG_sV, aR_sV, aF_wG, aF_wR, aG_wF, aG_wR, aR_wF, aR_wG, gM g5, e53]
end MRU
