/-! A RUN: the model goes, step by step -/
def gFs : List (Nat × Nat) := [(81, 53), (81, 48), (81, 52)]
section MGO
variable {X : JX} {d : Nat} {Q : JQ} {h : JH} {a M s : Nat} {c z : Nat} {o2 : Option Value}
theorem l_gFin (g : G h) (e90 : aF h 90 0 = nI M) (ha : M ≤ a) (hM : M ≤ 410) (h820 : a < 820) (H : Q (some (.int 1)) h) : jB_X12_goes_2 X d Q 81 (nI a) o2 h c z := by
  have iz : vp_in (0 : Int32) 2 := by rw [vp_inI]; decide
  have izc : (0 : Int32).toNatClampNeg = 0 := rfl
  refine jT_X12_goes_2 ?_
  rw [jgf_ob (c := 12) (by simp only [gM g]) rfl, show fV h 81 25 = .ref 90 by simp only [gN g], jaI_ar (n := 2) (by simp only [gM g]), izc, e90]
  exact ⟨iz, jif_n (nI_nlt (by omega) (by omega)) ⟨by decide, H⟩⟩
theorem l_gEls (g : G h) (e90 : aF h 90 0 = nI M) (ha : a < M) (hM : M ≤ 410) (k0 : ¬ aF h 91 a = 0) (k1 : ¬ aF h 91 a = 1) (k10 : ¬ aF h 91 a = 10) (k2 : ¬ aF h 91 a = 2) (H : ∀ o2, jB_X12_goes_2 X d Q 81 (aF h 95 a) o2 (sV h 81 53 (.int (aF h 92 a))) c z) : jB_X12_goes_2 X d Q 81 (nI a) o2 h c z := by
  have iz : vp_in (0 : Int32) 2 := by rw [vp_inI]; decide
  have izc : (0 : Int32).toNatClampNeg = 0 := rfl
  have iva : vp_in (nI a) 820 := by rw [vp_inI, nI_toInt (by omega)]; omega
  have ica : (nI a).toNatClampNeg = a := nI_clamp (by omega)
  refine jT_X12_goes_2 ?_
  simp (decide := true) only [jgf_ob (c := 12), jgI_ob (c := 12), jpI_ob (c := 12), jrc_ob (c := 12), obj_sV, arr_sV, gM g, gN g, fV_sV_k, aF_sV, jaI_ar (p := 90) (n := 2), jaI_ar (p := 91) (n := 820), jaI_ar (p := 92) (n := 820), jaI_ar (p := 93) (n := 820), jaI_ar (p := 94) (n := 820), jaI_ar (p := 95) (n := 820), iz, izc, iva, ica, e90, true_and]
  refine jif_t (nI_lt (by omega) (by omega)) (jif_n k0 (jif_n k1 (jif_n k10 (jif_n k2 ?_))))
  exact H _
theorem l_gLet (g : G h) (e90 : aF h 90 0 = nI M) (ha : a < M) (hM : M ≤ 410) (k0 : aF h 91 a = 0) (es : fI h 81 48 = nI s) (s2 : s ≤ 200) (H0 : s = 200 → ∀ h1, fr [] gFs h h1 → (fI h1 81 52).toInt = 1 → fI h1 81 53 = aF h 92 a → Q (some (.int 0)) h1) (H1 : s ≠ 200 → ∀ h1, fr [] gFs h h1 → fI h1 81 48 = nI (s + 1) → fI h1 81 53 = aF h 92 a → jex X (d + 2) 200 [.ref 81, .int (nI a)] h1 (fun r67 h66 => jrI r67 fun x68 => jifp (x68 = 0) (Q (some (.int 0)) h66) (jB_X12_goes_2 X (d + 2) Q 81 (nI a + 1) (some (.int (nI a + 1))) h66 c z))) : jB_X12_goes_2 X (d + 2) Q 81 (nI a) o2 h c z := by
  have iz : vp_in (0 : Int32) 2 := by rw [vp_inI]; decide
  have izc : (0 : Int32).toNatClampNeg = 0 := rfl
  have iva : vp_in (nI a) 820 := by rw [vp_inI, nI_toInt (by omega)]; omega
  have ica : (nI a).toNatClampNeg = a := nI_clamp (by omega)
  refine jT_X12_goes_2 ?_
  simp (decide := true) only [jgf_ob (c := 12), jgI_ob (c := 12), jpI_ob (c := 12), jrc_ob (c := 12), obj_sV, arr_sV, gM g, gN g, fV_sV_k, aF_sV, jaI_ar (p := 90) (n := 2), jaI_ar (p := 91) (n := 820), jaI_ar (p := 92) (n := 820), jaI_ar (p := 93) (n := 820), jaI_ar (p := 94) (n := 820), jaI_ar (p := 95) (n := 820), iz, izc, iva, ica, e90, true_and]
  refine jif_t (nI_lt (by omega) (by omega)) (jif_t k0 ?_)
  have k2 : fr [] gFs h (sV h 81 53 (.int (aF h 92 a))) := fr_sV (by decide) fr_rfl
  have e53 : fI (sV h 81 53 (.int (aF h 92 a))) 81 53 = aF h 92 a := by simp (decide := true) only [jgI_ob, jgf_ob, jgL_ob, jpI_ob, jpL_ob, jpR_ob, jpN_ob, jrc_ob, obj_sV, obj_wF, obj_wG, obj_wR, arr_sV, arr_wF, arr_wG, arr_wR, arL_sV, arL_wF, arL_wG, arL_wR, arR_sV, arR_wF, arR_wG, arR_wR, fI_sV (c := 0), fI_sV (c := 1), fI_sV (c := 2), fI_sV (c := 4), fI_sV (c := 5), fI_sV (c := 7), fI_sV (c := 8), fI_sV (c := 9), fI_sV (c := 10), fI_sV (c := 11), fI_sV (c := 12), fI_sV (c := 6), fL_sV (c := 9), fL_sV (c := 12), fI_sV_k, fL_sV_k, fV_sV_k, fI_wF, fI_wG, fI_wR, fL_wF, fL_wG, fL_wR, fV_wF, fV_wG, fV_wR, aF_sV, aG_sV, aR_sV, aF_wG, aF_wR, aG_wF, aG_wR, aR_wF, aR_wG, gM g]
  have f48 : fI (sV h 81 53 (.int (aF h 92 a))) 81 48 = nI s := by rw [fI_sV_k (by decide)]; exact es
  generalize sV h 81 53 (.int (aF h 92 a)) = h2 at *
  have g2 := G_fr g rfl k2
  refine c_counts g2 f48 s2 (fun ns => ?_) (fun e200 => ?_)
  · try dsimp only [jrI, jrN, jrA, jisr, jnul, jcat1]
    refine jif_n (by decide) ?_
    rw [jrc_ob (by simp (decide := true) only [jgI_ob, jgf_ob, jgL_ob, jpI_ob, jpL_ob, jpR_ob, jpN_ob, jrc_ob, obj_sV, obj_wF, obj_wG, obj_wR, arr_sV, arr_wF, arr_wG, arr_wR, arL_sV, arL_wF, arL_wG, arL_wR, arR_sV, arR_wF, arR_wG, arR_wR, fI_sV (c := 0), fI_sV (c := 1), fI_sV (c := 2), fI_sV (c := 4), fI_sV (c := 5), fI_sV (c := 7), fI_sV (c := 8), fI_sV (c := 9), fI_sV (c := 10), fI_sV (c := 11), fI_sV (c := 12), fI_sV (c := 6), fL_sV (c := 9), fL_sV (c := 12), fI_sV_k, fL_sV_k, fV_sV_k, fI_wF, fI_wG, fI_wR, fL_wF, fL_wG, fL_wR, fV_wF, fV_wG, fV_wR, aF_sV, aG_sV, aR_sV, aF_wG, aF_wR, aG_wF, aG_wR, aR_wF, aR_wG, gM g2])]
    refine H1 ns _ (fr_sV (by decide) k2) ?_ ?_
    · simp (decide := true) only [jgI_ob, jgf_ob, jgL_ob, jpI_ob, jpL_ob, jpR_ob, jpN_ob, jrc_ob, obj_sV, obj_wF, obj_wG, obj_wR, arr_sV, arr_wF, arr_wG, arr_wR, arL_sV, arL_wF, arL_wG, arL_wR, arR_sV, arR_wF, arR_wG, arR_wR, fI_sV (c := 0), fI_sV (c := 1), fI_sV (c := 2), fI_sV (c := 4), fI_sV (c := 5), fI_sV (c := 7), fI_sV (c := 8), fI_sV (c := 9), fI_sV (c := 10), fI_sV (c := 11), fI_sV (c := 12), fI_sV (c := 6), fL_sV (c := 9), fL_sV (c := 12), fI_sV_k, fL_sV_k, fV_sV_k, fI_wF, fI_wG, fI_wR, fL_wF, fL_wG, fL_wR, fV_wF, fV_wG, fV_wR, aF_sV, aG_sV, aR_sV, aF_wG, aF_wR, aG_wF, aG_wR, aR_wF, aR_wG, gM g2]
    · rw [fI_sV_k (by decide)]; exact e53
  · try dsimp only [jrI, jrN, jrA, jisr, jnul, jcat1]
    refine jif_t rfl (H0 e200 _ (fr_sV (by decide) k2) ?_ ?_)
    · simp (decide := true) only [jgI_ob, jgf_ob, jgL_ob, jpI_ob, jpL_ob, jpR_ob, jpN_ob, jrc_ob, obj_sV, obj_wF, obj_wG, obj_wR, arr_sV, arr_wF, arr_wG, arr_wR, arL_sV, arL_wF, arL_wG, arL_wR, arR_sV, arR_wF, arR_wG, arR_wR, fI_sV (c := 0), fI_sV (c := 1), fI_sV (c := 2), fI_sV (c := 4), fI_sV (c := 5), fI_sV (c := 7), fI_sV (c := 8), fI_sV (c := 9), fI_sV (c := 10), fI_sV (c := 11), fI_sV (c := 12), fI_sV (c := 6), fL_sV (c := 9), fL_sV (c := 12), fI_sV_k, fL_sV_k, fV_sV_k, fI_wF, fI_wG, fI_wR, fL_wF, fL_wG, fL_wR, fV_wF, fV_wG, fV_wR, aF_sV, aG_sV, aR_sV, aF_wG, aF_wR, aG_wF, aG_wR, aR_wF, aR_wG, gM g2]
    · rw [fI_sV_k (by decide)]; exact e53
/-- a repeat begins: T turns, its place p among the times -/
theorem l_gRep (g : G h) (e90 : aF h 90 0 = nI M) (ha : a < M) (hM : M ≤ 410) (k1 : aF h 91 a = 1) (es : fI h 81 48 = nI s) (s2 : s ≤ 200) {p T : Nat} (hp : p < 6) (e94 : aF h 94 a = nI p) (hT : T ≤ 99) (e93 : aF h 93 a = nI T) (H0 : s = 200 → ∀ h1, fr [] gFs h h1 → (fI h1 81 52).toInt = 1 → fI h1 81 53 = aF h 92 a → Q (some (.int 0)) h1) (H1 : s ≠ 200 → ∀ h1, fr [112] gFs h h1 → fI h1 81 48 = nI (s + 1) → aF h1 112 = upd (aF h 112) p (nI T - 1) → ∀ o2, jB_X12_goes_2 X (d + 2) Q 81 (if T = 0 then aF h 95 a else nI (a + 1)) o2 h1 c z) : jB_X12_goes_2 X (d + 2) Q 81 (nI a) o2 h c z := by
  have iz : vp_in (0 : Int32) 2 := by rw [vp_inI]; decide
  have izc : (0 : Int32).toNatClampNeg = 0 := rfl
  have iva : vp_in (nI a) 820 := by rw [vp_inI, nI_toInt (by omega)]; omega
  have ica : (nI a).toNatClampNeg = a := nI_clamp (by omega)
  have ivp : vp_in (nI p) 6 := by rw [vp_inI, nI_toInt (by omega)]; omega
  have icp : (nI p).toNatClampNeg = p := nI_clamp (by omega)
  refine jT_X12_goes_2 ?_
  simp (decide := true) only [jgf_ob (c := 12), jgI_ob (c := 12), jpI_ob (c := 12), jrc_ob (c := 12), obj_sV, arr_sV, gM g, gN g, fV_sV_k, aF_sV, jaI_ar (p := 90) (n := 2), jaI_ar (p := 91) (n := 820), jaI_ar (p := 92) (n := 820), jaI_ar (p := 93) (n := 820), jaI_ar (p := 94) (n := 820), jaI_ar (p := 95) (n := 820), iz, izc, iva, ica, e90, true_and]
  refine jif_t (nI_lt (by omega) (by omega)) (jif_n (by rw [k1]; decide) (jif_t k1 ?_))
  have k2 : fr [] gFs h (sV h 81 53 (.int (aF h 92 a))) := fr_sV (by decide) fr_rfl
  have e53 : fI (sV h 81 53 (.int (aF h 92 a))) 81 53 = aF h 92 a := by simp (decide := true) only [jgI_ob, jgf_ob, jgL_ob, jpI_ob, jpL_ob, jpR_ob, jpN_ob, jrc_ob, obj_sV, obj_wF, obj_wG, obj_wR, arr_sV, arr_wF, arr_wG, arr_wR, arL_sV, arL_wF, arL_wG, arL_wR, arR_sV, arR_wF, arR_wG, arR_wR, fI_sV (c := 0), fI_sV (c := 1), fI_sV (c := 2), fI_sV (c := 4), fI_sV (c := 5), fI_sV (c := 7), fI_sV (c := 8), fI_sV (c := 9), fI_sV (c := 10), fI_sV (c := 11), fI_sV (c := 12), fI_sV (c := 6), fL_sV (c := 9), fL_sV (c := 12), fI_sV_k, fL_sV_k, fV_sV_k, fI_wF, fI_wG, fI_wR, fL_wF, fL_wG, fL_wR, fV_wF, fV_wG, fV_wR, aF_sV, aG_sV, aR_sV, aF_wG, aF_wR, aG_wF, aG_wR, aR_wF, aR_wG, gM g]
  have f48 : fI (sV h 81 53 (.int (aF h 92 a))) 81 48 = nI s := by rw [fI_sV_k (by decide)]; exact es
  generalize sV h 81 53 (.int (aF h 92 a)) = h2 at *
  have g2 := G_fr g rfl k2
  refine c_counts g2 f48 s2 (fun ns => ?_) (fun e200 => ?_)
  · try dsimp only [jrI, jrN, jrA, jisr, jnul, jcat1]
    refine jif_n (by decide) ?_
    have k3 : fr [] gFs h (sV h2 81 48 (.int (nI (s + 1)))) := fr_sV (by decide) k2
    have e48 : fI (sV h2 81 48 (.int (nI (s + 1)))) 81 48 = nI (s + 1) := by simp (decide := true) only [jgI_ob, jgf_ob, jgL_ob, jpI_ob, jpL_ob, jpR_ob, jpN_ob, jrc_ob, obj_sV, obj_wF, obj_wG, obj_wR, arr_sV, arr_wF, arr_wG, arr_wR, arL_sV, arL_wF, arL_wG, arL_wR, arR_sV, arR_wF, arR_wG, arR_wR, fI_sV (c := 0), fI_sV (c := 1), fI_sV (c := 2), fI_sV (c := 4), fI_sV (c := 5), fI_sV (c := 7), fI_sV (c := 8), fI_sV (c := 9), fI_sV (c := 10), fI_sV (c := 11), fI_sV (c := 12), fI_sV (c := 6), fL_sV (c := 9), fL_sV (c := 12), fI_sV_k, fL_sV_k, fV_sV_k, fI_wF, fI_wG, fI_wR, fL_wF, fL_wG, fL_wR, fV_wF, fV_wG, fV_wR, aF_sV, aG_sV, aR_sV, aF_wG, aF_wR, aG_wF, aG_wR, aR_wF, aR_wG, gM g2]
    generalize sV h2 81 48 (.int (nI (s + 1))) = h3 at *
    have g3 := G_fr g rfl k3
    have q93 : aF h3 93 a = nI T := by rw [frF k3 (by decide)]; exact e93
    have q94 : aF h3 94 a = nI p := by rw [frF k3 (by decide)]; exact e94
    have q95 : aF h3 95 = aF h 95 := frF k3 (by decide)
    have q112 : aF h3 112 = aF h 112 := frF k3 (by decide)
    have k4 : fr [112] gFs h (wF h3 112 (upd (aF h3 112) p (nI T - 1))) := fr_wF (by decide) (fr_mono (by decide) (fun _ w => w) k3)
    have w112 : aF (wF h3 112 (upd (aF h3 112) p (nI T - 1))) 112 = upd (aF h3 112) p (nI T - 1) := aF_wF (t := .int) (n := 6) (by simp only [gM g3])
    have w48 : fI (wF h3 112 (upd (aF h3 112) p (nI T - 1))) 81 48 = nI (s + 1) := by rw [fI_wF]; exact e48
    have w93 : aF (wF h3 112 (upd (aF h3 112) p (nI T - 1))) 93 = aF h3 93 := aF_wF_ne (by decide)
    have w95 : aF (wF h3 112 (upd (aF h3 112) p (nI T - 1))) 95 = aF h3 95 := aF_wF_ne (by decide)
    simp (decide := true) only [jgf_ob (c := 12), gM g3, gN g3, jaI_ar (p := 93) (n := 820), jaI_ar (p := 94) (n := 820), jwI_ar (p := 112) (n := 6), iva, ica, ivp, icp, q93, q94, true_and]
    generalize wF h3 112 (upd (aF h3 112) p (nI T - 1)) = h4 at *
    have g4 := G_fr g rfl k4
    have v93 : aF h4 93 a = nI T := by rw [w93]; exact q93
    simp (decide := true) only [jgf_ob (c := 12), gM g4, gN g4, jaI_ar (p := 93) (n := 820), jaI_ar (p := 95) (n := 820), iva, ica, v93, true_and]
    have N := H1 ns h4 k4 w48 (by rw [w112, q112])
    refine ⟨fun e => ?_, fun e => ?_⟩
    · have e := (nI_eq (b := 0) (by omega) (by omega)).1 e
      rw [if_pos e] at N
      rw [w95, q95]
      exact N _
    · have e : ¬ T = 0 := fun w => e (by rw [w]; rfl)
      rw [if_neg e] at N
      rw [nI_1]
      exact N _
  · try dsimp only [jrI, jrN, jrA, jisr, jnul, jcat1]
    refine jif_t rfl (H0 e200 _ (fr_sV (by decide) k2) ?_ ?_)
    · simp (decide := true) only [jgI_ob, jgf_ob, jgL_ob, jpI_ob, jpL_ob, jpR_ob, jpN_ob, jrc_ob, obj_sV, obj_wF, obj_wG, obj_wR, arr_sV, arr_wF, arr_wG, arr_wR, arL_sV, arL_wF, arL_wG, arL_wR, arR_sV, arR_wF, arR_wG, arR_wR, fI_sV (c := 0), fI_sV (c := 1), fI_sV (c := 2), fI_sV (c := 4), fI_sV (c := 5), fI_sV (c := 7), fI_sV (c := 8), fI_sV (c := 9), fI_sV (c := 10), fI_sV (c := 11), fI_sV (c := 12), fI_sV (c := 6), fL_sV (c := 9), fL_sV (c := 12), fI_sV_k, fL_sV_k, fV_sV_k, fI_wF, fI_wG, fI_wR, fL_wF, fL_wG, fL_wR, fV_wF, fV_wG, fV_wR, aF_sV, aG_sV, aR_sV, aF_wG, aF_wR, aG_wF, aG_wR, aR_wF, aR_wG, gM g2]
    · rw [fI_sV_k (by decide)]; exact e53
end MGO
