/-! CALLS OF GUESSES -/
section GCL
variable {X : JX} {h : JH} {n : Nat} {m ρ τ f : Nat → Nat} {b t : Nat → Bool} {fl : Nat → Nat → Int} {r N : Nat}
theorem WK_of (x : RB h n m ρ τ b f t fl) (fa : FA h n m f t) (hr : r < n) (hN : (N : Int) ≤ (fI h 71 5).toInt) : WK (knS (tI (aF h 72)) (tI (aF h 76)) r N N) N (16 * m r) (aF h 73) (aF h 74) (aF h 75) := by
  obtain ⟨-, -, c80, fa1⟩ := fa
  intro k hk
  have kr := knS_N hk
  rcases fa1 k (by omega) with ⟨u1, -⟩ | ⟨r', o, e, xx, yy, x', y', q1, q2, q3, q4, q5, q6, q7, q8, q9, q10, q11, q12, q13, q14, q15, q16, q17, q18, q19, q20, q21⟩
  · unfold tI at kr; omega
  · have er : r' = r := by unfold tI at kr; omega
    subst er
    have sc1 := (x.2.2.2.2.1 r' o hr q2).2.2.1
    have sc2 := (x.2.2.2.2.1 r' e hr q3).2.2.1
    have t1 := tp_rg (t := t (8 * r' + o)) sc1.2.1 (show 900 * xx + yy - 100 ≤ 900 * f (8 * r' + o) by omega)
    have t2 := tp_rg (t := t (8 * r' + e)) sc2.2.1 (show 900 * x' + y' - 100 ≤ 900 * f (8 * r' + e) by omega)
    refine ⟨kr.1, by omega, by omega, by omega, by omega, by omega, by omega, by omega⟩
theorem GM_of (g : G h) (x : RB h n m ρ τ b f t fl) (fa : FA h n m f t) (st : ST h) (hr : r < n) (hN : (N : Int) ≤ (fI h 71 5).toInt) {h3 : JH} (k : fr [77, 78, 79, 80, 125] [(71, 9), (81, 83), (81, 84)] h h3) (hk : ∀ k, k < N → aF h3 125 k = bi (knS (tI (aF h 72)) (tI (aF h 76)) r N N k)) : GM h3 n m ρ τ b f t fl (aF h 72) (aF h 73) (aF h 74) (aF h 75) (aF h 76) r N (fI h 6 0 + fI h 6 1).toInt := by
  have e10 : fI h3 81 10 = fI h 6 0 := (frI k (by decide) (by decide)).trans st.1
  have e11 : fI h3 81 11 = fI h 6 1 := (frI k (by decide) (by decide)).trans st.2.1
  exact ⟨G_fr g rfl k, RB_fr x k rfl, FA_fw fa (fw_fr k) rfl rfl, hr, by rw [frI k (by decide) (by decide)]; exact hN, by rw [e10, e11], ⟨frF k (by decide), frF k (by decide), frF k (by decide), frF k (by decide), frF k (by decide)⟩, hk⟩
theorem c_weighed {Q : JQ} {d : Nat} (g : G h) (x : RB h n m ρ τ b f t fl) (fa : FA h n m f t) {a1 a2 : Int32} (H0 : (¬ ∃ r N : Nat, r < n ∧ a1.toInt = r ∧ a2.toInt = N ∧ (N : Int) ≤ (fI h 71 5).toInt) → Q (some (.int 0)) h) (H1 : ∀ (r N : Nat) (h' : JH), r < n → a1.toInt = r → a2.toInt = N → (N : Int) ≤ (fI h 71 5).toInt → fr [77, 78, 79] [(71, 9)] h h' → (fI h' 71 9).toInt = ((1 + 640 * m r : Nat) : Int) → (∀ k, k < 80 → aF h' 77 k = bi (knS (tI (aF h 72)) (tI (aF h 76)) r N N k)) → (∀ v, v < 1 + 640 * m r → (aF h' 78 v).toInt = (cnt (PV (tI (aF h 73)) (tI (aF h 74)) (tI (aF h 75)) (knS (tI (aF h 72)) (tI (aF h 76)) r N N) (fI h 6 0 + fI h 6 1).toInt v) 80 : Nat) ∧ (aF h' 79 v).toInt = (smm (PV (tI (aF h 73)) (tI (aF h 74)) (tI (aF h 75)) (knS (tI (aF h 72)) (tI (aF h 76)) r N N) (fI h 6 0 + fI h 6 1).toInt v) 80 : Nat)) → Q (some (.int 1)) h') : jex X (d + 4) 280 [.ref 0, .int a1, .int a2] h Q := by
  obtain ⟨ec, c0, c80, -⟩ := id fa
  rw [jE_X11_weighed]
  refine jT_X11_weighed_0 ?_
  simp (decide := true) only [jgI_ob, jgf_ob, jgL_ob, jpI_ob, jpL_ob, jpR_ob, jpN_ob, jrc_ob, obj_sV, obj_wF, obj_wG, obj_wR, arr_sV, arr_wF, arr_wG, arr_wR, arL_sV, arL_wF, arL_wG, arL_wR, arR_sV, arR_wF, arR_wG, arR_wR, fI_sV (c := 0), fI_sV (c := 1), fI_sV (c := 2), fI_sV (c := 4), fI_sV (c := 5), fI_sV (c := 7), fI_sV (c := 8), fI_sV (c := 9), fI_sV (c := 10), fI_sV (c := 11), fI_sV (c := 12), fI_sV (c := 6), fL_sV (c := 9), fL_sV (c := 12), fI_sV_k, fL_sV_k, fV_sV_k, fI_wF, fI_wG, fI_wR, fL_wF, fL_wG, fL_wR, fV_wF, fV_wG, fV_wR, aF_sV, aG_sV, aR_sV, aF_wG, aF_wR, aG_wF, aG_wR, aR_wF, aR_wG, gO g, gF g, ti_lt, tl, true_and]
  refine c_ruleAt g x (fun c => ?_) (fun r hr er => ?_)
  · exact H0 (fun ⟨r, N, q1, q2, q3, q4⟩ => c (by omega))
  · try dsimp only [jrI, jrN, jrA, jisr, jnul, jcat1]
    obtain ⟨mm, -, -, y4, -, -, y7, -⟩ := x.2.2.2.1 r hr
    simp (decide := true) only [jgI_ob, jgf_ob, jgL_ob, jpI_ob, jpL_ob, jpR_ob, jpN_ob, jrc_ob, obj_sV, obj_wF, obj_wG, obj_wR, arr_sV, arr_wF, arr_wG, arr_wR, arL_sV, arL_wF, arL_wG, arL_wR, arR_sV, arR_wF, arR_wG, arR_wR, fI_sV (c := 0), fI_sV (c := 1), fI_sV (c := 2), fI_sV (c := 4), fI_sV (c := 5), fI_sV (c := 7), fI_sV (c := 8), fI_sV (c := 9), fI_sV (c := 10), fI_sV (c := 11), fI_sV (c := 12), fI_sV (c := 6), fL_sV (c := 9), fL_sV (c := 12), fI_sV_k, fL_sV_k, fV_sV_k, fI_wF, fI_wG, fI_wR, fL_wF, fL_wG, fL_wR, fV_wF, fV_wG, fV_wR, aF_sV, aG_sV, aR_sV, aF_wG, aF_wR, aG_wF, aG_wR, aR_wF, aR_wG, gO g, gF g, y4, ti_lt, tl, true_and]
    refine ⟨fun c => H0 (fun ⟨r, N, q1, q2, q3, q4⟩ => by omega), fun c1 => ⟨fun c => H0 (fun ⟨r, N, q1, q2, q3, q4⟩ => by omega), fun c2 => ?_⟩⟩
    have eN : a2.toInt = (a2.toInt.toNat : Nat) := by omega
    have hN : ((a2.toInt.toNat : Nat) : Int) ≤ (fI h 71 5).toInt := by omega
    generalize a2.toInt.toNat = N at eN hN
    have wk := WK_of x fa hr hN
    rw [← er] at wk
    refine c_weigh g rfl eN (by omega) y7 mm wk (fun h' k eg ek ev => ?_)
    rw [er] at ek ev
    exact H1 r N h' hr er eN hN k eg ek ev
theorem c_isKnown {Q : JQ} {d : Nat} (g : G h) (fa : FA h n m f t) {a : Int32} (H0 : ¬ (0 ≤ a.toInt ∧ a.toInt ≤ (fI h 71 5).toInt) → Q (some (.int 0)) h) (H1 : 0 ≤ a.toInt → a.toInt ≤ (fI h 71 5).toInt → Q (some (.int 1)) h) : jex X (d + 1) 287 [.ref 81, .int a] h Q := by
  rw [jE_X12_isKnown]
  refine jT_X12_isKnown_0 ?_
  simp (decide := true) only [jgI_ob, jgf_ob, jgL_ob, jpI_ob, jpL_ob, jpR_ob, jpN_ob, jrc_ob, obj_sV, obj_wF, obj_wG, obj_wR, arr_sV, arr_wF, arr_wG, arr_wR, arL_sV, arL_wF, arL_wG, arL_wR, arR_sV, arR_wF, arR_wG, arR_wR, fI_sV (c := 0), fI_sV (c := 1), fI_sV (c := 2), fI_sV (c := 4), fI_sV (c := 5), fI_sV (c := 7), fI_sV (c := 8), fI_sV (c := 9), fI_sV (c := 10), fI_sV (c := 11), fI_sV (c := 12), fI_sV (c := 6), fL_sV (c := 9), fL_sV (c := 12), fI_sV_k, fL_sV_k, fV_sV_k, fI_wF, fI_wG, fI_wR, fL_wF, fL_wG, fL_wR, fV_wF, fV_wG, fV_wR, aF_sV, aG_sV, aR_sV, aF_wG, aF_wR, aG_wF, aG_wR, aR_wF, aR_wG, gM g, ti_lt, tl, true_and, fa.1]
  exact ⟨fun c => H0 (by omega), fun c => ⟨fun c2 => H0 (by omega), fun c2 => H1 (by omega) (by omega)⟩⟩
/-- the model's way to its facts: what is not asked rightly, and else the facts kept -/
theorem m_known {Q : JQ} {d e : Nat} (g : G h) (x : RB h n m ρ τ b f t fl) (fa : FA h n m f t) {a1 a2 : Int32} (er : a1.toInt = r) (hr : r < n) (eN : a2.toInt = N) (hN : (N : Int) ≤ (fI h 71 5).toInt) (H : ∀ h', fr [125] [] h h' → (∀ k, k < N → aF h' 125 k = bi (knS (tI (aF h 72)) (tI (aF h 76)) r N N k)) → Q none h') : jex X (d + 1) 288 [.ref 81, .int a1, .int a2] h Q := c_keep g fa er eN hN H
theorem FT_78 {kn : Nat → Bool} {ap s1 s2 : Nat → Int} {M : Int} {V : Nat} {h1 : JH} (hk : ∀ k, kn k = true → k < N) (hN : N ≤ 80) (ev : ∀ v, v < V → (aF h1 78 v).toInt = (cnt (PV ap s1 s2 kn M v) 80 : Nat)) : ∀ v, v < V → ((aF h1 78 v).toInt = 0 ↔ FT ap s1 s2 kn M N (-1) v = true) := fun v hv => by
  rw [ev v hv, FT_cnt hk hN]
  omega
theorem a_guesses (g : G h) (x : RB h n m ρ τ b f t fl) (fa : FA h n m f t) (st : ST h) {a1 a2 : Int32} : AGR X 279 286 [.int a1, .int a2] h (fun h2 => fr [77, 78, 79, 80, 125] [(71, 9), (81, 83), (81, 84)] h h2) := by
  obtain ⟨ec, c0, c80, -⟩ := id fa
  intro Q K
  rw [jE_X11_guesses]
  refine jT_X11_guesses_0 ?_
  simp (decide := true) only [jgI_ob, jgf_ob, jgL_ob, jpI_ob, jpL_ob, jpR_ob, jpN_ob, jrc_ob, obj_sV, obj_wF, obj_wG, obj_wR, arr_sV, arr_wF, arr_wG, arr_wR, arL_sV, arL_wF, arL_wG, arL_wR, arR_sV, arR_wF, arR_wG, arR_wR, fI_sV (c := 0), fI_sV (c := 1), fI_sV (c := 2), fI_sV (c := 4), fI_sV (c := 5), fI_sV (c := 7), fI_sV (c := 8), fI_sV (c := 9), fI_sV (c := 10), fI_sV (c := 11), fI_sV (c := 12), fI_sV (c := 6), fL_sV (c := 9), fL_sV (c := 12), fI_sV_k, fL_sV_k, fV_sV_k, fI_wF, fI_wG, fI_wR, fL_wF, fL_wG, fL_wR, fV_wF, fV_wG, fV_wR, aF_sV, aG_sV, aR_sV, aF_wG, aF_wR, aG_wF, aG_wR, aR_wF, aR_wG, gO g, gF g, ti_lt, tl, true_and]
  refine c_weighed g x fa (fun c => ?_) (fun r N h1 hr er eN hN k1 eg ek ev => ?_)
  · refine jif_t rfl (K _ _ (fun Q2 H => ?_))
    have HH := H _ fr_rfl
    rw [jE_X12_guesses]
    refine jT_X12_guesses_0 ?_
    simp (decide := true) only [jgI_ob, jgf_ob, jgL_ob, jpI_ob, jpL_ob, jpR_ob, jpN_ob, jrc_ob, obj_sV, obj_wF, obj_wG, obj_wR, arr_sV, arr_wF, arr_wG, arr_wR, arL_sV, arL_wF, arL_wG, arL_wR, arR_sV, arR_wF, arR_wG, arR_wR, fI_sV (c := 0), fI_sV (c := 1), fI_sV (c := 2), fI_sV (c := 4), fI_sV (c := 5), fI_sV (c := 7), fI_sV (c := 8), fI_sV (c := 9), fI_sV (c := 10), fI_sV (c := 11), fI_sV (c := 12), fI_sV (c := 6), fL_sV (c := 9), fL_sV (c := 12), fI_sV_k, fL_sV_k, fV_sV_k, fI_wF, fI_wG, fI_wR, fL_wF, fL_wG, fL_wR, fV_wF, fV_wG, fV_wR, aF_sV, aG_sV, aR_sV, aF_wG, aF_wR, aG_wF, aG_wR, aR_wF, aR_wG, gM g, gN g, ti_lt, tl, true_and]
    refine c_isRule g x (fun _ => jif_t rfl HH) (fun r hr er => jif_n (by decide) ?_)
    simp (decide := true) only [jgI_ob, jgf_ob, jgL_ob, jpI_ob, jpL_ob, jpR_ob, jpN_ob, jrc_ob, obj_sV, obj_wF, obj_wG, obj_wR, arr_sV, arr_wF, arr_wG, arr_wR, arL_sV, arL_wF, arL_wG, arL_wR, arR_sV, arR_wF, arR_wG, arR_wR, fI_sV (c := 0), fI_sV (c := 1), fI_sV (c := 2), fI_sV (c := 4), fI_sV (c := 5), fI_sV (c := 7), fI_sV (c := 8), fI_sV (c := 9), fI_sV (c := 10), fI_sV (c := 11), fI_sV (c := 12), fI_sV (c := 6), fL_sV (c := 9), fL_sV (c := 12), fI_sV_k, fL_sV_k, fV_sV_k, fI_wF, fI_wG, fI_wR, fL_wF, fL_wG, fL_wR, fV_wF, fV_wG, fV_wR, aF_sV, aG_sV, aR_sV, aF_wG, aF_wR, aG_wF, aG_wR, aR_wF, aR_wG, gM g, gN g, ti_lt, tl, true_and]
    refine c_isKnown g fa (fun _ => jif_t rfl HH) (fun q1 q2 => absurd ⟨r, a2.toInt.toNat, hr, er, by omega, by omega⟩ c)
  · have g1 := G_fr g rfl k1
    have mm := (x.2.2.2.1 r hr).1
    try dsimp only [jrI, jrN, jrA, jisr, jnul, jcat1]
    refine jif_n (by decide) ?_
    simp (decide := true) only [jgI_ob, jgf_ob, jgL_ob, jpI_ob, jpL_ob, jpR_ob, jpN_ob, jrc_ob, obj_sV, obj_wF, obj_wG, obj_wR, arr_sV, arr_wF, arr_wG, arr_wR, arL_sV, arL_wF, arL_wG, arL_wR, arR_sV, arR_wF, arR_wG, arR_wR, fI_sV (c := 0), fI_sV (c := 1), fI_sV (c := 2), fI_sV (c := 4), fI_sV (c := 5), fI_sV (c := 7), fI_sV (c := 8), fI_sV (c := 9), fI_sV (c := 10), fI_sV (c := 11), fI_sV (c := 12), fI_sV (c := 6), fL_sV (c := 9), fL_sV (c := 12), fI_sV_k, fL_sV_k, fV_sV_k, fI_wF, fI_wG, fI_wR, fL_wF, fL_wG, fL_wR, fV_wF, fV_wG, fV_wR, aF_sV, aG_sV, aR_sV, aF_wG, aF_wR, aG_wF, aG_wR, aR_wF, aR_wG, gO g1, gF g1]
    refine c_fitting g1 eg (by omega) (FT_78 (fun k hk => (knS_N hk).1) (by omega) (fun v hv => (ev v hv).1)) (fun y hy => ?_)
    try dsimp only [jrI, jrN, jrA, jisr, jnul, jcat1]
    refine K _ _ (fun Q2 H => ?_)
    have x1 := RB_fr x k1 rfl
    have fa1 := FA_fw fa (fw_fr k1) rfl rfl
    have e5 : fI h1 71 5 = fI h 71 5 := frI k1 (by decide) (by decide)
    rw [jE_X12_guesses]
    refine jT_X12_guesses_0 ?_
    simp (decide := true) only [jgI_ob, jgf_ob, jgL_ob, jpI_ob, jpL_ob, jpR_ob, jpN_ob, jrc_ob, obj_sV, obj_wF, obj_wG, obj_wR, arr_sV, arr_wF, arr_wG, arr_wR, arL_sV, arL_wF, arL_wG, arL_wR, arR_sV, arR_wF, arR_wG, arR_wR, fI_sV (c := 0), fI_sV (c := 1), fI_sV (c := 2), fI_sV (c := 4), fI_sV (c := 5), fI_sV (c := 7), fI_sV (c := 8), fI_sV (c := 9), fI_sV (c := 10), fI_sV (c := 11), fI_sV (c := 12), fI_sV (c := 6), fL_sV (c := 9), fL_sV (c := 12), fI_sV_k, fL_sV_k, fV_sV_k, fI_wF, fI_wG, fI_wR, fL_wF, fL_wG, fL_wR, fV_wF, fV_wG, fV_wR, aF_sV, aG_sV, aR_sV, aF_wG, aF_wR, aG_wF, aG_wR, aR_wF, aR_wG, gM g1, gN g1, ti_lt, tl, true_and]
    refine c_isRule g1 x1 (fun c => absurd ⟨by omega, by omega⟩ c) (fun _ _ _ => jif_n (by decide) ?_)
    simp (decide := true) only [jgI_ob, jgf_ob, jgL_ob, jpI_ob, jpL_ob, jpR_ob, jpN_ob, jrc_ob, obj_sV, obj_wF, obj_wG, obj_wR, arr_sV, arr_wF, arr_wG, arr_wR, arL_sV, arL_wF, arL_wG, arL_wR, arR_sV, arR_wF, arR_wG, arR_wR, fI_sV (c := 0), fI_sV (c := 1), fI_sV (c := 2), fI_sV (c := 4), fI_sV (c := 5), fI_sV (c := 7), fI_sV (c := 8), fI_sV (c := 9), fI_sV (c := 10), fI_sV (c := 11), fI_sV (c := 12), fI_sV (c := 6), fL_sV (c := 9), fL_sV (c := 12), fI_sV_k, fL_sV_k, fV_sV_k, fI_wF, fI_wG, fI_wR, fL_wF, fL_wG, fL_wR, fV_wF, fV_wG, fV_wR, aF_sV, aG_sV, aR_sV, aF_wG, aF_wR, aG_wF, aG_wR, aR_wF, aR_wG, gM g1, gN g1, ti_lt, tl, true_and]
    refine c_isKnown g1 fa1 (fun c => absurd ⟨by omega, by rw [e5]; omega⟩ c) (fun _ _ => jif_n (by decide) ?_)
    simp (decide := true) only [jgI_ob, jgf_ob, jgL_ob, jpI_ob, jpL_ob, jpR_ob, jpN_ob, jrc_ob, obj_sV, obj_wF, obj_wG, obj_wR, arr_sV, arr_wF, arr_wG, arr_wR, arL_sV, arL_wF, arL_wG, arL_wR, arR_sV, arR_wF, arR_wG, arR_wR, fI_sV (c := 0), fI_sV (c := 1), fI_sV (c := 2), fI_sV (c := 4), fI_sV (c := 5), fI_sV (c := 7), fI_sV (c := 8), fI_sV (c := 9), fI_sV (c := 10), fI_sV (c := 11), fI_sV (c := 12), fI_sV (c := 6), fL_sV (c := 9), fL_sV (c := 12), fI_sV_k, fL_sV_k, fV_sV_k, fI_wF, fI_wG, fI_wR, fL_wF, fL_wG, fL_wR, fV_wF, fV_wG, fV_wR, aF_sV, aG_sV, aR_sV, aF_wG, aF_wR, aG_wF, aG_wR, aR_wF, aR_wG, gM g1, gN g1, ti_lt, tl, true_and]
    refine c_keep g1 fa1 er eN (by rw [e5]; exact hN) (fun h3 k3 hk3 => ?_)
    try dsimp only [jrI, jrN, jrA, jisr, jnul, jcat1]
    have f72 : aF h1 72 = aF h 72 := frF k1 (by decide)
    have f76 : aF h1 76 = aF h 76 := frF k1 (by decide)
    rw [f72, f76] at hk3
    have kk : fr [77, 78, 79, 80, 125] [(71, 9), (81, 83), (81, 84)] h h3 := fr_trans (fr_mono (by decide) (by decide) k1) (fr_mono (by decide) (by decide) k3)
    have w := GM_of g x fa st hr hN kk hk3
    have g3 := w.1
    simp (decide := true) only [jgI_ob, jgf_ob, jgL_ob, jpI_ob, jpL_ob, jpR_ob, jpN_ob, jrc_ob, obj_sV, obj_wF, obj_wG, obj_wR, arr_sV, arr_wF, arr_wG, arr_wR, arL_sV, arL_wF, arL_wG, arL_wR, arR_sV, arR_wF, arR_wG, arR_wR, fI_sV (c := 0), fI_sV (c := 1), fI_sV (c := 2), fI_sV (c := 4), fI_sV (c := 5), fI_sV (c := 7), fI_sV (c := 8), fI_sV (c := 9), fI_sV (c := 10), fI_sV (c := 11), fI_sV (c := 12), fI_sV (c := 6), fL_sV (c := 9), fL_sV (c := 12), fI_sV_k, fL_sV_k, fV_sV_k, fI_wF, fI_wG, fI_wR, fL_wF, fL_wG, fL_wR, fV_wF, fV_wG, fV_wR, aF_sV, aG_sV, aR_sV, aF_wG, aF_wR, aG_wF, aG_wR, aR_wF, aR_wG, gM g3, gN g3, ti_lt, tl, true_and]
    refine c_mfit w er eN rfl rfl (fun h4 y' k4 hy' _ => ?_)
    try dsimp only [jrI, jrN, jrA, jisr, jnul, jcat1]
    rw [show y' = y by rw [ti_eq, hy, hy']; rfl]
    exact H _ (fr_trans kk (fr_mono (by decide) (by decide) k4))
theorem a_guess (g : G h) (x : RB h n m ρ τ b f t fl) (fa : FA h n m f t) (st : ST h) {a1 a2 a3 a4 : Int32} : AGR X 292 295 [.int a1, .int a2, .int a3, .int a4] h (fun h2 => fr [77, 78, 79, 80, 125] [(71, 9), (81, 83), (81, 84)] h h2) := by
  obtain ⟨ec, c0, c80, -⟩ := id fa
  intro Q K
  rw [jE_X11_guess]
  refine jT_X11_guess_0 ?_
  have bad : ¬ ((∃ r N : Nat, r < n ∧ a1.toInt = r ∧ a2.toInt = N ∧ (N : Int) ≤ (fI h 71 5).toInt) ∧ 0 ≤ a3.toInt ∧ 0 ≤ a4.toInt ∧ a4.toInt ≤ 2) → Q (some (.int (-1000))) h := by
    intro c
    refine K _ _ (fun Q2 H => ?_)
    have HH := H _ fr_rfl
    rw [jE_X12_guess]
    refine jT_X12_guess_0 ?_
    simp (decide := true) only [jgI_ob, jgf_ob, jgL_ob, jpI_ob, jpL_ob, jpR_ob, jpN_ob, jrc_ob, obj_sV, obj_wF, obj_wG, obj_wR, arr_sV, arr_wF, arr_wG, arr_wR, arL_sV, arL_wF, arL_wG, arL_wR, arR_sV, arR_wF, arR_wG, arR_wR, fI_sV (c := 0), fI_sV (c := 1), fI_sV (c := 2), fI_sV (c := 4), fI_sV (c := 5), fI_sV (c := 7), fI_sV (c := 8), fI_sV (c := 9), fI_sV (c := 10), fI_sV (c := 11), fI_sV (c := 12), fI_sV (c := 6), fL_sV (c := 9), fL_sV (c := 12), fI_sV_k, fL_sV_k, fV_sV_k, fI_wF, fI_wG, fI_wR, fL_wF, fL_wG, fL_wR, fV_wF, fV_wG, fV_wR, aF_sV, aG_sV, aR_sV, aF_wG, aF_wR, aG_wF, aG_wR, aR_wF, aR_wG, gM g, gN g, ti_lt, tl, true_and]
    refine c_isRule g x (fun _ => jif_t rfl HH) (fun r hr er => jif_n (by decide) ?_)
    simp (decide := true) only [jgI_ob, jgf_ob, jgL_ob, jpI_ob, jpL_ob, jpR_ob, jpN_ob, jrc_ob, obj_sV, obj_wF, obj_wG, obj_wR, arr_sV, arr_wF, arr_wG, arr_wR, arL_sV, arL_wF, arL_wG, arL_wR, arR_sV, arR_wF, arR_wG, arR_wR, fI_sV (c := 0), fI_sV (c := 1), fI_sV (c := 2), fI_sV (c := 4), fI_sV (c := 5), fI_sV (c := 7), fI_sV (c := 8), fI_sV (c := 9), fI_sV (c := 10), fI_sV (c := 11), fI_sV (c := 12), fI_sV (c := 6), fL_sV (c := 9), fL_sV (c := 12), fI_sV_k, fL_sV_k, fV_sV_k, fI_wF, fI_wG, fI_wR, fL_wF, fL_wG, fL_wR, fV_wF, fV_wG, fV_wR, aF_sV, aG_sV, aR_sV, aF_wG, aF_wR, aG_wF, aG_wR, aR_wF, aR_wG, gM g, gN g, ti_lt, tl, true_and]
    refine c_isKnown g fa (fun _ => jif_t rfl HH) (fun q1 q2 => jif_n (by decide) ?_)
    exact ⟨fun _ => HH, fun q3 => ⟨fun _ => HH, fun q4 => ⟨fun _ => HH, fun q5 => absurd ⟨⟨r, a2.toInt.toNat, hr, er, by omega, by omega⟩, by omega, by omega, by omega⟩ c⟩⟩⟩
  simp (decide := true) only [jgI_ob, jgf_ob, jgL_ob, jpI_ob, jpL_ob, jpR_ob, jpN_ob, jrc_ob, obj_sV, obj_wF, obj_wG, obj_wR, arr_sV, arr_wF, arr_wG, arr_wR, arL_sV, arL_wF, arL_wG, arL_wR, arR_sV, arR_wF, arR_wG, arR_wR, fI_sV (c := 0), fI_sV (c := 1), fI_sV (c := 2), fI_sV (c := 4), fI_sV (c := 5), fI_sV (c := 7), fI_sV (c := 8), fI_sV (c := 9), fI_sV (c := 10), fI_sV (c := 11), fI_sV (c := 12), fI_sV (c := 6), fL_sV (c := 9), fL_sV (c := 12), fI_sV_k, fL_sV_k, fV_sV_k, fI_wF, fI_wG, fI_wR, fL_wF, fL_wG, fL_wR, fV_wF, fV_wG, fV_wR, aF_sV, aG_sV, aR_sV, aF_wG, aF_wR, aG_wF, aG_wR, aR_wF, aR_wG, gO g, gF g, ti_lt, tl, true_and]
  refine ⟨fun c => bad (fun q => by omega), fun c1 => ⟨fun c => bad (fun q => by omega), fun c2 => ⟨fun c => bad (fun q => by omega), fun c3 => ?_⟩⟩⟩
  refine c_weighed g x fa (fun c => ?_) (fun r N h1 hr er eN hN k1 eg ek ev => ?_)
  · exact jif_t rfl (bad (fun q => c q.1))
  · have g1 := G_fr g rfl k1
    have mm := (x.2.2.2.1 r hr).1
    try dsimp only [jrI, jrN, jrA, jisr, jnul, jcat1]
    refine jif_n (by decide) ?_
    simp (decide := true) only [jgI_ob, jgf_ob, jgL_ob, jpI_ob, jpL_ob, jpR_ob, jpN_ob, jrc_ob, obj_sV, obj_wF, obj_wG, obj_wR, arr_sV, arr_wF, arr_wG, arr_wR, arL_sV, arL_wF, arL_wG, arL_wR, arR_sV, arR_wF, arR_wG, arR_wR, fI_sV (c := 0), fI_sV (c := 1), fI_sV (c := 2), fI_sV (c := 4), fI_sV (c := 5), fI_sV (c := 7), fI_sV (c := 8), fI_sV (c := 9), fI_sV (c := 10), fI_sV (c := 11), fI_sV (c := 12), fI_sV (c := 6), fL_sV (c := 9), fL_sV (c := 12), fI_sV_k, fL_sV_k, fV_sV_k, fI_wF, fI_wG, fI_wR, fL_wF, fL_wG, fL_wR, fV_wF, fV_wG, fV_wR, aF_sV, aG_sV, aR_sV, aF_wG, aF_wR, aG_wF, aG_wR, aR_wF, aR_wG, gO g1, gF g1]
    have e3 : a3.toInt = (a3.toInt.toNat : Nat) := by omega
    have x1 := RB_fr x k1 rfl
    have fa1 := FA_fw fa (fw_fr k1) rfl rfl
    have e5 : fI h1 71 5 = fI h 71 5 := frI k1 (by decide) (by decide)
    generalize hp : FT (tI (aF h 73)) (tI (aF h 74)) (tI (aF h 75)) (knS (tI (aF h 72)) (tI (aF h 76)) r N N) (fI h 6 0 + fI h 6 1).toInt N (-1) = p
    have hfit : ∀ v, v < 1 + 640 * m r → ((aF h1 78 v).toInt = 0 ↔ p v = true) := by
      rw [← hp]
      exact FT_78 (fun k hk => (knS_N hk).1) (by omega) (fun v hv => (ev v hv).1)
    -- the model's side
    have MS : ∀ (Q2 : JQ), (∀ (h4 : JH) (y : Int32), G h4 → fr [77, 78, 79, 80, 125] [(71, 9), (81, 83), (81, 84)] h h4 → y.toInt = cnt p (1 + 640 * m r) → FND p h4 a3.toInt (1 + 640 * m r) → (jifp (a3.toInt < y.toInt) (jgI h4 (.ref 81) 12 83 fun x12 => (jifp (x12 < 0) (jifp (a4 = 0) (Q2 (some (.int (-2))) h4) (Q2 (some (.int 0)) h4)) (jifp (a4 = 0) (jgI h4 (.ref 81) 12 83 fun x15 => (¬ (16 : Int32) = 0 ∧ (Q2 (some (.int (x15 / 16))) h4))) (jifp (a4 = 1) (jgI h4 (.ref 81) 12 83 fun x14 => (¬ (16 : Int32) = 0 ∧ (Q2 (some (.int (x14 - x14 / 16 * 16))) h4))) (jgI h4 (.ref 81) 12 84 fun x13 => (Q2 (some (.int x13)) h4)))))) (Q2 (some (.int (-1000))) h4))) → jex X 10 295 [.ref 81, .int a1, .int a2, .int a3, .int a4] h1 Q2 := by
      intro Q2 R
      rw [jE_X12_guess]
      refine jT_X12_guess_0 ?_
      simp (decide := true) only [jgI_ob, jgf_ob, jgL_ob, jpI_ob, jpL_ob, jpR_ob, jpN_ob, jrc_ob, obj_sV, obj_wF, obj_wG, obj_wR, arr_sV, arr_wF, arr_wG, arr_wR, arL_sV, arL_wF, arL_wG, arL_wR, arR_sV, arR_wF, arR_wG, arR_wR, fI_sV (c := 0), fI_sV (c := 1), fI_sV (c := 2), fI_sV (c := 4), fI_sV (c := 5), fI_sV (c := 7), fI_sV (c := 8), fI_sV (c := 9), fI_sV (c := 10), fI_sV (c := 11), fI_sV (c := 12), fI_sV (c := 6), fL_sV (c := 9), fL_sV (c := 12), fI_sV_k, fL_sV_k, fV_sV_k, fI_wF, fI_wG, fI_wR, fL_wF, fL_wG, fL_wR, fV_wF, fV_wG, fV_wR, aF_sV, aG_sV, aR_sV, aF_wG, aF_wR, aG_wF, aG_wR, aR_wF, aR_wG, gM g1, gN g1, ti_lt, tl, true_and]
      refine c_isRule g1 x1 (fun c => absurd ⟨by omega, by omega⟩ c) (fun _ _ _ => jif_n (by decide) ?_)
      simp (decide := true) only [jgI_ob, jgf_ob, jgL_ob, jpI_ob, jpL_ob, jpR_ob, jpN_ob, jrc_ob, obj_sV, obj_wF, obj_wG, obj_wR, arr_sV, arr_wF, arr_wG, arr_wR, arL_sV, arL_wF, arL_wG, arL_wR, arR_sV, arR_wF, arR_wG, arR_wR, fI_sV (c := 0), fI_sV (c := 1), fI_sV (c := 2), fI_sV (c := 4), fI_sV (c := 5), fI_sV (c := 7), fI_sV (c := 8), fI_sV (c := 9), fI_sV (c := 10), fI_sV (c := 11), fI_sV (c := 12), fI_sV (c := 6), fL_sV (c := 9), fL_sV (c := 12), fI_sV_k, fL_sV_k, fV_sV_k, fI_wF, fI_wG, fI_wR, fL_wF, fL_wG, fL_wR, fV_wF, fV_wG, fV_wR, aF_sV, aG_sV, aR_sV, aF_wG, aF_wR, aG_wF, aG_wR, aR_wF, aR_wG, gM g1, gN g1, ti_lt, tl, true_and]
      refine c_isKnown g1 fa1 (fun c => absurd ⟨by omega, by rw [e5]; omega⟩ c) (fun _ _ => jif_n (by decide) ?_)
      simp (decide := true) only [jgI_ob, jgf_ob, jgL_ob, jpI_ob, jpL_ob, jpR_ob, jpN_ob, jrc_ob, obj_sV, obj_wF, obj_wG, obj_wR, arr_sV, arr_wF, arr_wG, arr_wR, arL_sV, arL_wF, arL_wG, arL_wR, arR_sV, arR_wF, arR_wG, arR_wR, fI_sV (c := 0), fI_sV (c := 1), fI_sV (c := 2), fI_sV (c := 4), fI_sV (c := 5), fI_sV (c := 7), fI_sV (c := 8), fI_sV (c := 9), fI_sV (c := 10), fI_sV (c := 11), fI_sV (c := 12), fI_sV (c := 6), fL_sV (c := 9), fL_sV (c := 12), fI_sV_k, fL_sV_k, fV_sV_k, fI_wF, fI_wG, fI_wR, fL_wF, fL_wG, fL_wR, fV_wF, fV_wG, fV_wR, aF_sV, aG_sV, aR_sV, aF_wG, aF_wR, aG_wF, aG_wR, aR_wF, aR_wG, gM g1, gN g1, ti_lt, tl, true_and]
      refine jif_n (by omega) (jif_n (by omega) (jif_n (by omega) ?_))
      refine c_keep g1 fa1 er eN (by rw [e5]; exact hN) (fun h3 k3 hk3 => ?_)
      try dsimp only [jrI, jrN, jrA, jisr, jnul, jcat1]
      have f72 : aF h1 72 = aF h 72 := frF k1 (by decide)
      have f76 : aF h1 76 = aF h 76 := frF k1 (by decide)
      rw [f72, f76] at hk3
      have kk : fr [77, 78, 79, 80, 125] [(71, 9), (81, 83), (81, 84)] h h3 := fr_trans (fr_mono (by decide) (by decide) k1) (fr_mono (by decide) (by decide) k3)
      have w := GM_of g x fa st hr hN kk hk3
      have g3 := w.1
      simp (decide := true) only [jgI_ob, jgf_ob, jgL_ob, jpI_ob, jpL_ob, jpR_ob, jpN_ob, jrc_ob, obj_sV, obj_wF, obj_wG, obj_wR, arr_sV, arr_wF, arr_wG, arr_wR, arL_sV, arL_wF, arL_wG, arL_wR, arR_sV, arR_wF, arR_wG, arR_wR, fI_sV (c := 0), fI_sV (c := 1), fI_sV (c := 2), fI_sV (c := 4), fI_sV (c := 5), fI_sV (c := 7), fI_sV (c := 8), fI_sV (c := 9), fI_sV (c := 10), fI_sV (c := 11), fI_sV (c := 12), fI_sV (c := 6), fL_sV (c := 9), fL_sV (c := 12), fI_sV_k, fL_sV_k, fV_sV_k, fI_wF, fI_wG, fI_wR, fL_wF, fL_wG, fL_wR, fV_wF, fV_wG, fV_wR, aF_sV, aG_sV, aR_sV, aF_wG, aF_wR, aG_wF, aG_wR, aR_wF, aR_wG, gM g3, gN g3, ti_lt, tl, true_and]
      refine c_mfit w er eN rfl rfl (fun h4 y' k4 hy' hF => ?_)
      try dsimp only [jrI, jrN, jrA, jisr, jnul, jcat1]
      rw [show (-1 : Int32).toInt = -1 from rfl, hp] at hy' hF
      have k44 := fr_trans kk (fr_mono (by decide) (by decide) k4)
      have R2 := R h4 y' (G_fr g rfl k44) k44 hy' hF
      simp (decide := true) only [ti_lt, tl, true_and] at R2 ⊢
      exact R2
    refine c_fittingAt (p := p) g1 eg (by omega) hfit e3 (fun hc => ?_) (fun z v hv hpv hcv hz => ?_)
    · try dsimp only [jrI, jrN, jrA, jisr, jnul, jcat1]
      simp (decide := true) only [jgI_ob, jgf_ob, jgL_ob, jpI_ob, jpL_ob, jpR_ob, jpN_ob, jrc_ob, obj_sV, obj_wF, obj_wG, obj_wR, arr_sV, arr_wF, arr_wG, arr_wR, arL_sV, arL_wF, arL_wG, arL_wR, arR_sV, arR_wF, arR_wG, arR_wR, fI_sV (c := 0), fI_sV (c := 1), fI_sV (c := 2), fI_sV (c := 4), fI_sV (c := 5), fI_sV (c := 7), fI_sV (c := 8), fI_sV (c := 9), fI_sV (c := 10), fI_sV (c := 11), fI_sV (c := 12), fI_sV (c := 6), fL_sV (c := 9), fL_sV (c := 12), fI_sV_k, fL_sV_k, fV_sV_k, fI_wF, fI_wG, fI_wR, fL_wF, fL_wG, fL_wR, fV_wF, fV_wG, fV_wR, aF_sV, aG_sV, aR_sV, aF_wG, aF_wR, aG_wF, aG_wR, aR_wF, aR_wG, gO g1, gF g1]
      rw [jE_X0_guessPart]
      refine jT_X0_guessPart_0 (jif_t rfl ?_)
      try dsimp only [jrI, jrN, jrA, jisr, jnul, jcat1]
      refine K _ _ (fun Q2 H => MS Q2 (fun h4 y g4 k4 hy hF => jif_n (by omega) (H _ k4)))
    · try dsimp only [jrI, jrN, jrA, jisr, jnul, jcat1]
      simp (decide := true) only [jgI_ob, jgf_ob, jgL_ob, jpI_ob, jpL_ob, jpR_ob, jpN_ob, jrc_ob, obj_sV, obj_wF, obj_wG, obj_wR, arr_sV, arr_wF, arr_wG, arr_wR, arL_sV, arL_wF, arL_wG, arL_wR, arR_sV, arR_wF, arR_wG, arR_wR, fI_sV (c := 0), fI_sV (c := 1), fI_sV (c := 2), fI_sV (c := 4), fI_sV (c := 5), fI_sV (c := 7), fI_sV (c := 8), fI_sV (c := 9), fI_sV (c := 10), fI_sV (c := 11), fI_sV (c := 12), fI_sV (c := 6), fL_sV (c := 9), fL_sV (c := 12), fI_sV_k, fL_sV_k, fV_sV_k, fI_wF, fI_wG, fI_wR, fL_wF, fL_wG, fL_wR, fV_wF, fV_wG, fV_wR, aF_sV, aG_sV, aR_sV, aF_wG, aF_wR, aG_wF, aG_wR, aR_wF, aR_wG, gO g1, gF g1]
      refine c_guessPart (v := v) (by omega) hz (by omega) (by omega) (fun w r0 r1 => ?_)
      try dsimp only [jrI, jrN, jrA, jisr, jnul, jcat1]
      refine K _ _ (fun Q2 H => MS Q2 (fun h4 y g4 k4 hy hF => ?_))
      have hlt := cnt_lt hv hpv
      obtain ⟨f1, f2⟩ := hF v hv hpv (by omega)
      have HH := H h4 k4
      refine jif_t (by omega) ?_
      simp (decide := true) only [jgI_ob, jgf_ob, jgL_ob, jpI_ob, jpL_ob, jpR_ob, jpN_ob, jrc_ob, obj_sV, obj_wF, obj_wG, obj_wR, arr_sV, arr_wF, arr_wG, arr_wR, arL_sV, arL_wF, arL_wG, arL_wR, arR_sV, arR_wF, arR_wG, arR_wR, fI_sV (c := 0), fI_sV (c := 1), fI_sV (c := 2), fI_sV (c := 4), fI_sV (c := 5), fI_sV (c := 7), fI_sV (c := 8), fI_sV (c := 9), fI_sV (c := 10), fI_sV (c := 11), fI_sV (c := 12), fI_sV (c := 6), fL_sV (c := 9), fL_sV (c := 12), fI_sV_k, fL_sV_k, fV_sV_k, fI_wF, fI_wG, fI_wR, fL_wF, fL_wG, fL_wR, fV_wF, fV_wG, fV_wR, aF_sV, aG_sV, aR_sV, aF_wG, aF_wR, aG_wF, aG_wR, aR_wF, aR_wG, gM g4, ti_eq, ti_lt, tl, true_and]
      by_cases c0 : v = 0
      · subst c0
        have r2 := r0 rfl
        have f1' : (fI h4 81 83).toInt = -1 := f1
        refine jif_t (by omega) ⟨fun q => ?_, fun q => ?_⟩
        · rw [if_pos q] at r2
          rw [show (-2 : Int32) = w by rw [ti_eq, r2]; rfl]; exact HH
        · rw [if_neg q] at r2
          rw [show (0 : Int32) = w by rw [ti_eq, r2]; rfl]; exact HH
      · have r2 := r1 c0
        have eg0 : gs v = (((v - 1) / 40 : Nat) : Int) := by unfold gs; rw [if_neg c0]
        refine jif_n (by omega) ⟨fun q => ?_, fun q => ⟨fun q2 => ?_, fun q2 => ?_⟩⟩
        · rw [if_pos q] at r2
          rw [show fI h4 81 83 / 16 = w by rw [ti_eq, r2, ti_divp (by omega) (by decide), f1]; rfl]; exact HH
        · rw [if_neg q, if_pos q2] at r2
          rw [show fI h4 81 83 - fI h4 81 83 / 16 * 16 = w by rw [ti_eq, r2, ti_remp (by omega) (by decide), f1]; rfl]; exact HH
        · rw [if_neg q, if_neg q2] at r2
          rw [show fI h4 81 84 = w by rw [ti_eq, r2, f2]]; exact HH
end GCL
