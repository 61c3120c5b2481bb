/-! A RUN: the model goes, a repeat's end and an if -/
/-- an if: why it breaks, or whether it holds -/
def ifR (s : Nat) (o1 o2 : Option V6) (cd : Nat) : Int × Bool := if s = 200 then (1, false) else match o1 with
  | none => (6, false)
  | some v => match o2 with
    | none => (6, false)
    | some u => (0, hdV cd v u)
section MGP
variable {X : JX} {d : Nat} {Q : JQ} {h : JH} {a M s : Nat} {c z : Nat} {o2 : Option Value}
theorem l_gEnd (g : G h) (e90 : aF h 90 0 = nI M) (ha : a < M) (hM : M ≤ 410) (k10 : aF h 91 a = 10) (es : fI h 81 48 = nI s) (s2 : s ≤ 200) {p : Nat} (hp : p < 6) (e94 : aF h 94 a = nI p) {y : Int32} (ey : aF h 112 p = y) (H0 : 0 < y → s = 200 → ∀ h1, fr [] gFs h h1 → (fI h1 81 52).toInt = 1 → fI h1 81 53 = aF h 92 a → Q (some (.int 0)) h1) (H1 : 0 < y → s ≠ 200 → ∀ h1, fr [112] gFs h h1 → fI h1 81 48 = nI (s + 1) → aF h1 112 = upd (aF h 112) p (y - 1) → ∀ o2, jB_X12_goes_2 X (d + 2) Q 81 (aF h 95 a) o2 h1 c z) (H2 : ¬ 0 < y → ∀ h1, fr [] gFs h h1 → fI h1 81 48 = nI s → ∀ o2, jB_X12_goes_2 X (d + 2) Q 81 (nI (a + 1)) o2 h1 c z) : jB_X12_goes_2 X (d + 2) Q 81 (nI a) o2 h c z := by
  have iz : vp_in (0 : Int32) 2 := by rw [vp_inI]; decide
  have izc : (0 : Int32).toNatClampNeg = 0 := rfl
  have iva : vp_in (nI a) 820 := by rw [vp_inI, nI_toInt (by omega)]; omega
  have ica : (nI a).toNatClampNeg = a := nI_clamp (by omega)
  have ivp : vp_in (nI p) 6 := by rw [vp_inI, nI_toInt (by omega)]; omega
  have icp : (nI p).toNatClampNeg = p := nI_clamp (by omega)
  refine jT_X12_goes_2 ?_
  simp (decide := true) only [jgf_ob (c := 12), jgI_ob (c := 12), jpI_ob (c := 12), jrc_ob (c := 12), obj_sV, arr_sV, gM g, gN g, fV_sV_k, aF_sV, jaI_ar (p := 90) (n := 2), jaI_ar (p := 91) (n := 820), jaI_ar (p := 92) (n := 820), jaI_ar (p := 93) (n := 820), jaI_ar (p := 94) (n := 820), jaI_ar (p := 95) (n := 820), jaI_ar (p := 112) (n := 6), iz, izc, iva, ica, e90, true_and, e94, ivp, icp, ey]
  refine jif_t (nI_lt (by omega) (by omega)) (jif_n (by rw [k10]; decide) (jif_n (by rw [k10]; decide) (jif_t k10 ?_)))
  have k2 : fr [] gFs h (sV h 81 53 (.int (aF h 92 a))) := fr_sV (by decide) fr_rfl
  have e53 : fI (sV h 81 53 (.int (aF h 92 a))) 81 53 = aF h 92 a := by simp (decide := true) only [jgI_ob, jgf_ob, jgL_ob, jpI_ob, jpL_ob, jpR_ob, jpN_ob, jrc_ob, obj_sV, obj_wF, obj_wG, obj_wR, arr_sV, arr_wF, arr_wG, arr_wR, arL_sV, arL_wF, arL_wG, arL_wR, arR_sV, arR_wF, arR_wG, arR_wR, fI_sV (c := 0), fI_sV (c := 1), fI_sV (c := 2), fI_sV (c := 4), fI_sV (c := 5), fI_sV (c := 7), fI_sV (c := 8), fI_sV (c := 9), fI_sV (c := 10), fI_sV (c := 11), fI_sV (c := 12), fI_sV (c := 6), fL_sV (c := 9), fL_sV (c := 12), fI_sV_k, fL_sV_k, fV_sV_k, fI_wF, fI_wG, fI_wR, fL_wF, fL_wG, fL_wR, fV_wF, fV_wG, fV_wR, aF_sV, aG_sV, aR_sV, aF_wG, aF_wR, aG_wF, aG_wR, aR_wF, aR_wG, gM g]
  have f48 : fI (sV h 81 53 (.int (aF h 92 a))) 81 48 = nI s := by rw [fI_sV_k (by decide)]; exact es
  generalize sV h 81 53 (.int (aF h 92 a)) = h2 at *
  have g2 := G_fr g rfl k2
  refine ⟨fun pos => ?_, fun npos => ?_⟩
  · refine c_counts g2 f48 s2 (fun ns => ?_) (fun e200 => ?_)
    · try dsimp only [jrI, jrN, jrA, jisr, jnul, jcat1]
      refine jif_n (by decide) ?_
      have k3 : fr [] gFs h (sV h2 81 48 (.int (nI (s + 1)))) := fr_sV (by decide) k2
      have e48 : fI (sV h2 81 48 (.int (nI (s + 1)))) 81 48 = nI (s + 1) := by simp (decide := true) only [jgI_ob, jgf_ob, jgL_ob, jpI_ob, jpL_ob, jpR_ob, jpN_ob, jrc_ob, obj_sV, obj_wF, obj_wG, obj_wR, arr_sV, arr_wF, arr_wG, arr_wR, arL_sV, arL_wF, arL_wG, arL_wR, arR_sV, arR_wF, arR_wG, arR_wR, fI_sV (c := 0), fI_sV (c := 1), fI_sV (c := 2), fI_sV (c := 4), fI_sV (c := 5), fI_sV (c := 7), fI_sV (c := 8), fI_sV (c := 9), fI_sV (c := 10), fI_sV (c := 11), fI_sV (c := 12), fI_sV (c := 6), fL_sV (c := 9), fL_sV (c := 12), fI_sV_k, fL_sV_k, fV_sV_k, fI_wF, fI_wG, fI_wR, fL_wF, fL_wG, fL_wR, fV_wF, fV_wG, fV_wR, aF_sV, aG_sV, aR_sV, aF_wG, aF_wR, aG_wF, aG_wR, aR_wF, aR_wG, gM g2]
      generalize sV h2 81 48 (.int (nI (s + 1))) = h3 at *
      have g3 := G_fr g rfl k3
      have q94 : aF h3 94 a = nI p := by rw [frF k3 (by decide)]; exact e94
      have q95 : aF h3 95 = aF h 95 := frF k3 (by decide)
      have q112 : aF h3 112 = aF h 112 := frF k3 (by decide)
      have q112' : aF h3 112 p = y := by rw [q112]; exact ey
      have k4 : fr [112] gFs h (wF h3 112 (upd (aF h3 112) p (y - 1))) := fr_wF (by decide) (fr_mono (by decide) (fun _ w => w) k3)
      have w112 : aF (wF h3 112 (upd (aF h3 112) p (y - 1))) 112 = upd (aF h3 112) p (y - 1) := aF_wF (t := .int) (n := 6) (by simp only [gM g3])
      have w48 : fI (wF h3 112 (upd (aF h3 112) p (y - 1))) 81 48 = nI (s + 1) := by rw [fI_wF]; exact e48
      have w95 : aF (wF h3 112 (upd (aF h3 112) p (y - 1))) 95 = aF h3 95 := aF_wF_ne (by decide)
      simp (decide := true) only [jgf_ob (c := 12), gM g3, gN g3, jaI_ar (p := 94) (n := 820), iva, ica, q94, true_and]
      try dsimp only [jrI, jrN, jrA, jisr, jnul, jcat1]
      simp (decide := true) only [jaI_ar (p := 112) (n := 6), jwI_ar (p := 112) (n := 6), gM g3, ivp, icp, q112', true_and]
      generalize wF h3 112 (upd (aF h3 112) p (y - 1)) = h4 at *
      have g4 := G_fr g rfl k4
      simp (decide := true) only [jgf_ob (c := 12), gM g4, gN g4, jaI_ar (p := 95) (n := 820), iva, ica, true_and]
      rw [w95, q95]
      exact H1 pos ns h4 k4 w48 (by rw [w112, q112]) _
    · try dsimp only [jrI, jrN, jrA, jisr, jnul, jcat1]
      refine jif_t rfl (H0 pos e200 _ (fr_sV (by decide) k2) ?_ ?_)
      · simp (decide := true) only [jgI_ob, jgf_ob, jgL_ob, jpI_ob, jpL_ob, jpR_ob, jpN_ob, jrc_ob, obj_sV, obj_wF, obj_wG, obj_wR, arr_sV, arr_wF, arr_wG, arr_wR, arL_sV, arL_wF, arL_wG, arL_wR, arR_sV, arR_wF, arR_wG, arR_wR, fI_sV (c := 0), fI_sV (c := 1), fI_sV (c := 2), fI_sV (c := 4), fI_sV (c := 5), fI_sV (c := 7), fI_sV (c := 8), fI_sV (c := 9), fI_sV (c := 10), fI_sV (c := 11), fI_sV (c := 12), fI_sV (c := 6), fL_sV (c := 9), fL_sV (c := 12), fI_sV_k, fL_sV_k, fV_sV_k, fI_wF, fI_wG, fI_wR, fL_wF, fL_wG, fL_wR, fV_wF, fV_wG, fV_wR, aF_sV, aG_sV, aR_sV, aF_wG, aF_wR, aG_wF, aG_wR, aR_wF, aR_wG, gM g2]
      · rw [fI_sV_k (by decide)]; exact e53
  · rw [nI_1]
    exact H2 npos h2 k2 f48 _
theorem l_gIf (g : G h) (e90 : aF h 90 0 = nI M) (ha : a < M) (hM : M ≤ 410) (k2' : aF h 91 a = 2) (es : fI h 81 48 = nI s) (s2 : s ≤ 200) {i cd : Nat} (hi : i + 1 < 210) (e94 : aF h 94 a = nI i) (hc : cd < 4) (e93 : aF h 93 a = nI cd) {v1 v2 : Option V6} (av1 : AV h i v1) (av2 : AV h (i + 1) v2) {q : Int × Bool} (eq : q = ifR s v1 v2 cd) (H0 : q.1 ≠ 0 → ∀ h1, fr lF gFs h h1 → (fI h1 81 52).toInt = q.1 → fI h1 81 53 = aF h 92 a → Q (some (.int 0)) h1) (H1 : q.1 = 0 → ∀ h1, fr [111] gFs h h1 → fI h1 81 48 = nI (s + 1) → ∀ o2, jB_X12_goes_2 X (d + 2) Q 81 (if q.2 = true then nI (a + 1) else aF h 95 a) o2 h1 c z) : jB_X12_goes_2 X (d + 2) Q 81 (nI a) o2 h c z := by
  have iz : vp_in (0 : Int32) 2 := by rw [vp_inI]; decide
  have izc : (0 : Int32).toNatClampNeg = 0 := rfl
  have iva : vp_in (nI a) 820 := by rw [vp_inI, nI_toInt (by omega)]; omega
  have ica : (nI a).toNatClampNeg = a := nI_clamp (by omega)
  refine jT_X12_goes_2 ?_
  simp (decide := true) only [jgf_ob (c := 12), jgI_ob (c := 12), jpI_ob (c := 12), jrc_ob (c := 12), obj_sV, arr_sV, gM g, gN g, fV_sV_k, aF_sV, jaI_ar (p := 90) (n := 2), jaI_ar (p := 91) (n := 820), jaI_ar (p := 92) (n := 820), jaI_ar (p := 93) (n := 820), jaI_ar (p := 94) (n := 820), jaI_ar (p := 95) (n := 820), jaI_ar (p := 112) (n := 6), iz, izc, iva, ica, e90, true_and]
  refine jif_t (nI_lt (by omega) (by omega)) (jif_n (by rw [k2']; decide) (jif_n (by rw [k2']; decide) (jif_n (by rw [k2']; decide) (jif_t k2' ?_))))
  have k2 : fr [] gFs h (sV h 81 53 (.int (aF h 92 a))) := fr_sV (by decide) fr_rfl
  have e53 : fI (sV h 81 53 (.int (aF h 92 a))) 81 53 = aF h 92 a := by simp (decide := true) only [jgI_ob, jgf_ob, jgL_ob, jpI_ob, jpL_ob, jpR_ob, jpN_ob, jrc_ob, obj_sV, obj_wF, obj_wG, obj_wR, arr_sV, arr_wF, arr_wG, arr_wR, arL_sV, arL_wF, arL_wG, arL_wR, arR_sV, arR_wF, arR_wG, arR_wR, fI_sV (c := 0), fI_sV (c := 1), fI_sV (c := 2), fI_sV (c := 4), fI_sV (c := 5), fI_sV (c := 7), fI_sV (c := 8), fI_sV (c := 9), fI_sV (c := 10), fI_sV (c := 11), fI_sV (c := 12), fI_sV (c := 6), fL_sV (c := 9), fL_sV (c := 12), fI_sV_k, fL_sV_k, fV_sV_k, fI_wF, fI_wG, fI_wR, fL_wF, fL_wG, fL_wR, fV_wF, fV_wG, fV_wR, aF_sV, aG_sV, aR_sV, aF_wG, aF_wR, aG_wF, aG_wR, aR_wF, aR_wG, gM g]
  have f48 : fI (sV h 81 53 (.int (aF h 92 a))) 81 48 = nI s := by rw [fI_sV_k (by decide)]; exact es
  generalize sV h 81 53 (.int (aF h 92 a)) = h2 at *
  have g2 := G_fr g rfl k2
  unfold ifR at eq
  refine c_counts g2 f48 s2 (fun ns => ?_) (fun e200 => ?_)
  · rw [if_neg ns] at eq
    try dsimp only [jrI, jrN, jrA, jisr, jnul, jcat1]
    refine jif_n (by decide) ?_
    have k3 : fr [] gFs h (sV h2 81 48 (.int (nI (s + 1)))) := fr_sV (by decide) k2
    have e48 : fI (sV h2 81 48 (.int (nI (s + 1)))) 81 48 = nI (s + 1) := by simp (decide := true) only [jgI_ob, jgf_ob, jgL_ob, jpI_ob, jpL_ob, jpR_ob, jpN_ob, jrc_ob, obj_sV, obj_wF, obj_wG, obj_wR, arr_sV, arr_wF, arr_wG, arr_wR, arL_sV, arL_wF, arL_wG, arL_wR, arR_sV, arR_wF, arR_wG, arR_wR, fI_sV (c := 0), fI_sV (c := 1), fI_sV (c := 2), fI_sV (c := 4), fI_sV (c := 5), fI_sV (c := 7), fI_sV (c := 8), fI_sV (c := 9), fI_sV (c := 10), fI_sV (c := 11), fI_sV (c := 12), fI_sV (c := 6), fL_sV (c := 9), fL_sV (c := 12), fI_sV_k, fL_sV_k, fV_sV_k, fI_wF, fI_wG, fI_wR, fL_wF, fL_wG, fL_wR, fV_wF, fV_wG, fV_wR, aF_sV, aG_sV, aR_sV, aF_wG, aF_wR, aG_wF, aG_wR, aR_wF, aR_wG, gM g2]
    have q53 : fI (sV h2 81 48 (.int (nI (s + 1)))) 81 53 = aF h 92 a := by rw [fI_sV_k (by decide)]; exact e53
    generalize sV h2 81 48 (.int (nI (s + 1))) = h3 at *
    have g3 := G_fr g rfl k3
    have q94 : aF h3 94 a = nI i := by rw [frF k3 (by decide)]; exact e94
    have avv := AV_eq av1 (frF k3 (by decide)) (frF k3 (by decide)) (frF k3 (by decide)) (frF k3 (by decide)) (frF k3 (by decide))
    simp (decide := true) only [jgf_ob (c := 12), jrc_ob (c := 12), gM g3, gN g3, jaI_ar (p := 94) (n := 820), iva, ica, q94, true_and]
    change jex X (d + 2) 202 [.ref 81, .int (nI i), .int (nI 0)] _ _
    refine c_asked g3 (by omega) (by decide) avv (fun v ev h4 k4 pw4 oj4 => ?_) (fun ev h4 k4 e52 => ?_)
    · rw [ev] at eq
      have kk4 : fr [111] gFs h h4 := fr_trans (fr_mono (by decide) (fun _ w => w) k3) (fr_mono (by decide) (by decide) k4)
      have g4 := G_fr g rfl kk4
      have p94 : aF h4 94 a = nI i := by rw [frF kk4 (by decide)]; exact e94
      have avw := AV_eq av2 (frF kk4 (by decide)) (frF kk4 (by decide)) (frF kk4 (by decide)) (frF kk4 (by decide)) (frF kk4 (by decide))
      try dsimp only [jrI, jrN, jrA, jisr, jnul, jcat1]
      refine jif_n (by decide) ?_
      simp (decide := true) only [jgf_ob (c := 12), jrc_ob (c := 12), gM g4, gN g4, jaI_ar (p := 94) (n := 820), iva, ica, p94, nI_1, true_and]
      change jex X (d + 2) 202 [.ref 81, .int (nI (i + 1)), .int (nI 1)] _ _
      refine c_asked g4 (by omega) (by decide) avw (fun u eu h5 k5 pw5 oj5 => ?_) (fun eu h5 k5 e52 => ?_)
      · rw [eu] at eq
        have eq : q = (0, hdV cd v u) := eq
        rw [eq] at H1
        have kk5 : fr [111] gFs h h5 := fr_trans kk4 (fr_mono (by decide) (by decide) k5)
        have g5 := G_fr g rfl kk5
        have p93 : aF h5 93 a = nI cd := by rw [frF kk5 (by decide)]; exact e93
        have p95 : aF h5 95 = aF h 95 := frF kk5 (by decide)
        have pv : PW h5 0 v := fun w hw => by rw [oj5 (6 * 0 + w) (by omega)]; exact pw4 w hw
        have e48' : fI h5 81 48 = nI (s + 1) := by rw [frI k5 (by decide) (by decide), frI k4 (by decide) (by decide)]; exact e48
        try dsimp only [jrI, jrN, jrA, jisr, jnul, jcat1]
        refine jif_n (by decide) ?_
        simp (decide := true) only [jgf_ob (c := 12), jrc_ob (c := 12), gM g5, gN g5, jaI_ar (p := 93) (n := 820), iva, ica, p93, true_and]
        refine c_holds g5 pv pw5 hc ?_
        have N := H1 rfl h5 kk5 e48'
        try dsimp only [jrI, jrN, jrA, jisr, jnul, jcat1]
        have N : ∀ o2, jB_X12_goes_2 X (d + 2) Q 81 (if hdV cd v u = true then nI (a + 1) else aF h 95 a) o2 h5 c z := N
        cases eh : hdV cd v u with
        | false =>
          rw [eh, if_neg (by decide)] at N
          refine jif_t rfl ?_
          simp (decide := true) only [jgf_ob (c := 12), gM g5, gN g5, jaI_ar (p := 95) (n := 820), iva, ica, true_and, p95]
          exact N _
        | true =>
          rw [eh, if_pos rfl] at N
          refine jif_n (by decide) ?_
          exact N _
      · rw [eu] at eq
        have eq : q = (6, false) := eq
        rw [eq] at H0
        have kk5 : fr lF gFs h h5 := fr_trans (fr_mono (by decide) (fun _ w => w) kk4) (fr_mono (by decide) (by decide) k5)
        try dsimp only [jrI, jrN, jrA, jisr, jnul, jcat1]
        refine jif_t rfl (H0 (show ¬ (6 : Int) = 0 by decide) h5 kk5 e52 ?_)
        rw [frI k5 (by decide) (by decide), frI k4 (by decide) (by decide), q53]
    · rw [ev] at eq
      have eq : q = (6, false) := eq
      rw [eq] at H0
      try dsimp only [jrI, jrN, jrA, jisr, jnul, jcat1]
      refine jif_t rfl (H0 (show ¬ (6 : Int) = 0 by decide) h4 (fr_trans (fr_mono (by decide) (fun _ w => w) k3) (fr_mono (by decide) (by decide) k4)) e52 ?_)
      rw [frI k4 (by decide) (by decide), q53]
  · rw [if_pos e200] at eq
    rw [eq] at H0
    try dsimp only [jrI, jrN, jrA, jisr, jnul, jcat1]
    refine jif_t rfl (H0 (show ¬ (1 : Int) = 0 by decide) _ (fr_sV (by decide) (fr_mono (by decide) (fun _ w => w) k2)) ?_ ?_)
    · simp (decide := true) only [jgI_ob, jgf_ob, jgL_ob, jpI_ob, jpL_ob, jpR_ob, jpN_ob, jrc_ob, obj_sV, obj_wF, obj_wG, obj_wR, arr_sV, arr_wF, arr_wG, arr_wR, arL_sV, arL_wF, arL_wG, arL_wR, arR_sV, arR_wF, arR_wG, arR_wR, fI_sV (c := 0), fI_sV (c := 1), fI_sV (c := 2), fI_sV (c := 4), fI_sV (c := 5), fI_sV (c := 7), fI_sV (c := 8), fI_sV (c := 9), fI_sV (c := 10), fI_sV (c := 11), fI_sV (c := 12), fI_sV (c := 6), fL_sV (c := 9), fL_sV (c := 12), fI_sV_k, fL_sV_k, fV_sV_k, fI_wF, fI_wG, fI_wR, fL_wF, fL_wG, fL_wR, fV_wF, fV_wG, fV_wR, aF_sV, aG_sV, aR_sV, aF_wG, aF_wR, aG_wF, aG_wR, aR_wF, aR_wG, gM g2]
    · rw [fI_sV_k (by decide)]; exact e53
end MGP
