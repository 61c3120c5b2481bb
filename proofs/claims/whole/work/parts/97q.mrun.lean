/-! A RUN: the model's run, its loops -/
section MRL
variable {X : JX} {d : Nat} {Q : JQ} {h : JH} {c s : Nat} {o1 o2 o3 o4 : Option Value} {a1 a2 a3 a4 : Int32}
theorem l_run149 (g : G h) (H : ∀ h1, fr [108] [(81, 51)] h h1 → (∀ j, j < 72 → aF h1 108 j = aF h 110 j) → fI h1 81 51 = fI h 81 50 → Q (some (.int (fI h 81 49))) h1) : jB_X12_run_149 X d Q 81 o1 o2 o3 o4 0 h c s := by
  have L : ∀ (rr w : Nat) (h3 : JH) (c s : Nat), w + rr = 72 → fr [108] [] h h3 → (∀ j, j < w → aF h3 108 j = aF h 110 j) → jB_X12_run_149 X d Q 81 o1 o2 o3 o4 (nI w) h3 c s := by
    intro rr
    induction rr with
    | zero =>
      intro w h3 c s hw k3 pj
      have g3 := G_fr g rfl k3
      refine jT_X12_run_149 (jif_n (nI_nlt (a := w) (b := 72) (by omega) (by omega)) ?_)
      simp (decide := true) only [jgI_ob (c := 12), jpI_ob (c := 12), gM g3, obj_sV, fI_sV_k, true_and]
      have e49 : fI h3 81 49 = fI h 81 49 := frI k3 (by decide) (by decide)
      rw [e49]
      refine H _ (fr_sV (by decide) (fr_mono (fun _ w => w) (by decide) k3)) (fun j hj => ?_) ?_
      · rw [aF_sV]; exact pj j (by omega)
      · rw [fI_sV (c := 12) (by simp only [gM g3]) rfl]
        exact frI k3 (by decide) (by decide)
    | succ rr ih =>
      intro w h3 c s hw k3 pj
      have g3 := G_fr g rfl k3
      have ivw : vp_in (nI w) 72 := by rw [vp_inI, nI_toInt (by omega)]; omega
      have icw : (nI w).toNatClampNeg = w := nI_clamp (by omega)
      have e110 : aF h3 110 = aF h 110 := frF k3 (by decide)
      refine jT_X12_run_149 (jif_t (nI_lt (b := 72) (by omega) (by omega)) ?_)
      simp (decide := true) only [jgf_ob (c := 12), gM g3, gN g3, jaI_ar (p := 110) (n := 72), jwI_ar (p := 108) (n := 72), ivw, icw, true_and, e110]
      have q : aF (wF h3 108 (upd (aF h3 108) w (aF h 110 w))) 108 = upd (aF h3 108) w (aF h 110 w) := aF_wF (t := .int) (n := 72) (by simp only [gM g3])
      rw [nI_1]
      refine ih (w + 1) _ _ _ (by omega) (fr_wF (by decide) k3) (fun j hj => ?_)
      rw [q]
      by_cases z : j = w
      · rw [z, upd_s]
      · rw [upd_n (by omega)]; exact pj j (by omega)
  exact L 72 0 h _ _ (by omega) fr_rfl (fun j hj => absurd hj (Nat.not_lt_zero _))
theorem l_run119 (g : G h) (hv : ∀ j, j < 12 → aF h 109 j = 0 ∨ aF h 109 j = 1) (H : ∀ h1, fr [107, 108] [(81, 51)] h h1 → (∀ j, j < 12 → aF h1 107 j = aF h 109 j) → (∀ j, j < 72 → aF h1 108 j = aF h 110 j) → fI h1 81 51 = fI h 81 50 → Q (some (.int (fI h 81 49))) h1) : jB_X12_run_119 X d Q 81 o1 o2 o3 o4 0 h c s := by
  have L : ∀ (rr w : Nat) (h3 : JH) (c s : Nat), w + rr = 12 → fr [107] [] h h3 → (∀ j, j < w → aF h3 107 j = aF h 109 j) → jB_X12_run_119 X d Q 81 o1 o2 o3 o4 (nI w) h3 c s := by
    intro rr
    induction rr with
    | zero =>
      intro w h3 c s hw k3 pj
      have g3 := G_fr g rfl k3
      refine jT_X12_run_119 (jif_n (nI_nlt (a := w) (b := 12) (by omega) (by omega)) ?_)
      refine l_run149 g3 (fun h4 k4 p4 e51 => ?_)
      have e49 : fI h3 81 49 = fI h 81 49 := frI k3 (by decide) (by decide)
      rw [e49]
      refine H h4 (fr_trans (fr_mono (by decide) (by decide) k3) (fr_mono (by decide) (by decide) k4)) (fun j hj => ?_) (fun j hj => ?_) ?_
      · rw [frF k4 (by decide)]; exact pj j (by omega)
      · rw [p4 j hj, frF k3 (by decide)]
      · rw [e51, frI k3 (by decide) (by decide)]
    | succ rr ih =>
      intro w h3 c s hw k3 pj
      have g3 := G_fr g rfl k3
      have ivw : vp_in (nI w) 12 := by rw [vp_inI, nI_toInt (by omega)]; omega
      have icw : (nI w).toNatClampNeg = w := nI_clamp (by omega)
      have e109 : aF h3 109 = aF h 109 := frF k3 (by decide)
      have nr : vp_nar .boolean (aF h 109 w) = aF h 109 w := by
        rcases hv w (by omega) with e | e <;> rw [e] <;> decide
      refine jT_X12_run_119 (jif_t (nI_lt (b := 12) (by omega) (by omega)) ?_)
      simp (decide := true) only [jgf_ob (c := 12), gM g3, gN g3, jaZ_ar (p := 109) (n := 12), jwZ_ar (p := 107) (n := 12), ivw, icw, true_and, e109, nr]
      have q : aF (wF h3 107 (upd (aF h3 107) w (aF h 109 w))) 107 = upd (aF h3 107) w (aF h 109 w) := aF_wF (t := .boolean) (n := 12) (by simp only [gM g3])
      rw [nI_1]
      refine ih (w + 1) _ _ _ (by omega) (fr_wF (by decide) k3) (fun j hj => ?_)
      rw [q]
      by_cases z : j = w
      · rw [z, upd_s]
      · rw [upd_n (by omega)]; exact pj j (by omega)
  exact L 12 0 h _ _ (by omega) fr_rfl (fun j hj => absurd hj (Nat.not_lt_zero _))
/-- the model's run: names untold, then it goes -/
theorem l_run48 (g : G h) (H : ∀ h1, fr [109] [] h h1 → (∀ j, j < 12 → aF h1 109 j = 0) → jex X d 197 [.ref 81] h1 (fun r2 h1 => (jrI r2 fun x3 => (jifp (x3 = 0) (jpf h1 (.ref 81) 12 14 (.int a1) fun h4 => (jpf h4 (.ref 81) 12 15 (.int a2) fun h5 => (jpf h5 (.ref 81) 12 16 (.int a3) fun h6 => (jpf h6 (.ref 81) 12 17 (.int a4) fun h7 => (jgI h7 (.ref 81) 12 52 fun x8 => (jpf h7 (.ref 81) 12 54 (.int x8) fun h9 => (jgI h9 (.ref 81) 12 53 fun x10 => (jpf h9 (.ref 81) 12 55 (.int x10) fun h11 => (Q (some (.int (-2))) h11))))))))) (jB_X12_run_119 X d Q 81 (some (.int a1)) (some (.int a2)) (some (.int a3)) (some (.int a4)) 0 h1 c s))))) : jB_X12_run_48 X d Q 81 a1 a2 a3 a4 0 h c s := by
  have L : ∀ (rr w : Nat) (h3 : JH), w + rr = 12 → fr [109] [] h h3 → (∀ j, j < w → aF h3 109 j = 0) → jB_X12_run_48 X d Q 81 a1 a2 a3 a4 (nI w) h3 c s := by
    intro rr
    induction rr with
    | zero =>
      intro w h3 hw k3 pj
      have g3 := G_fr g rfl k3
      refine jT_X12_run_48 (jif_n (nI_nlt (a := w) (b := 12) (by omega) (by omega)) ?_)
      rw [jrc_ob (by simp only [gM g3])]
      exact H h3 k3 (fun j hj => pj j (by omega))
    | succ rr ih =>
      intro w h3 hw k3 pj
      have g3 := G_fr g rfl k3
      have ivw : vp_in (nI w) 12 := by rw [vp_inI, nI_toInt (by omega)]; omega
      have icw : (nI w).toNatClampNeg = w := nI_clamp (by omega)
      refine jT_X12_run_48 (jif_t (nI_lt (b := 12) (by omega) (by omega)) ?_)
      simp (decide := true) only [jgf_ob (c := 12), gM g3, gN g3, jwZ_ar (p := 109) (n := 12), ivw, icw, true_and, show vp_nar .boolean 0 = 0 from by decide]
      have q : aF (wF h3 109 (upd (aF h3 109) w 0)) 109 = upd (aF h3 109) w 0 := aF_wF (t := .boolean) (n := 12) (by simp only [gM g3])
      rw [nI_1]
      refine ih (w + 1) _ (by omega) (fr_wF (by decide) k3) (fun j hj => ?_)
      rw [q]
      by_cases z : j = w
      · rw [z, upd_s]
      · rw [upd_n (by omega)]; exact pj j (by omega)
  exact L 12 0 h (by omega) fr_rfl (fun j hj => absurd hj (Nat.not_lt_zero _))
end MRL
