/-! CALLS OF PLACES -/
section GCA
variable {X : JX} {h : JH} {n : Nat} {m ρ τ f : Nat → Nat} {b t : Nat → Bool} {fl : Nat → Nat → Int} {B : Int}
theorem ix8 {a e : Int32} {r s : Nat} (hr : r < 4) (hs : s < 8) (er : a.toInt = r) (es : e.toInt = s) : (8 * a + e).toInt = ((8 * r + s : Nat) : Int) := by
  have : (8 * a + e).toInt = 8 * a.toInt + e.toInt := (by simp only [Int32.toInt_add, Int32.toInt_sub, Int32.toInt_mul, Int32.toInt_neg, Int.bmod_def, tl]; omega)
  omega
theorem a_cut (g : G h) (x : RB h n m ρ τ b f t fl) {a1 a2 a3 a4 : Int32} : AGR X 114 118 [.int a1, .int a2, .int a3, .int a4] h (fun h2 => fr [] [] h h2) := by
  intro Q K
  rw [jE_X11_cut]
  refine jT_X11_cut_0 ?_
  simp (decide := true) only [jgI_ob, jgf_ob, jgL_ob, jpI_ob, jpL_ob, jpR_ob, jpN_ob, jrc_ob, obj_sV, obj_wF, obj_wG, obj_wR, arr_sV, arr_wF, arr_wG, arr_wR, arL_sV, arL_wF, arL_wG, arL_wR, arR_sV, arR_wF, arR_wG, arR_wR, fI_sV (c := 0), fI_sV (c := 1), fI_sV (c := 2), fI_sV (c := 4), fI_sV (c := 5), fI_sV (c := 7), fI_sV (c := 8), fI_sV (c := 9), fI_sV (c := 10), fI_sV (c := 11), fI_sV (c := 12), fI_sV (c := 6), fL_sV (c := 9), fL_sV (c := 12), fI_sV_k, fL_sV_k, fV_sV_k, fI_wF, fI_wG, fI_wR, fL_wF, fL_wG, fL_wR, fV_wF, fV_wG, fV_wR, aF_sV, aG_sV, aR_sV, aF_wG, aF_wR, aG_wF, aG_wR, aR_wF, aR_wG, gO g]
  refine c_scaleAt g x (fun c => ?_) (fun r s hr hs er es => ?_)
  · dsimp only [jrA, jisr, jnul]
    refine K _ _ (fun Q2 H => ?_)
    rw [jE_X12_cut]
    refine jT_X12_cut_0 ?_
    simp (decide := true) only [jgI_ob, jgf_ob, jgL_ob, jpI_ob, jpL_ob, jpR_ob, jpN_ob, jrc_ob, obj_sV, obj_wF, obj_wG, obj_wR, arr_sV, arr_wF, arr_wG, arr_wR, arL_sV, arL_wF, arL_wG, arL_wR, arR_sV, arR_wF, arR_wG, arR_wR, fI_sV (c := 0), fI_sV (c := 1), fI_sV (c := 2), fI_sV (c := 4), fI_sV (c := 5), fI_sV (c := 7), fI_sV (c := 8), fI_sV (c := 9), fI_sV (c := 10), fI_sV (c := 11), fI_sV (c := 12), fI_sV (c := 6), fL_sV (c := 9), fL_sV (c := 12), fI_sV_k, fL_sV_k, fV_sV_k, fI_wF, fI_wG, fI_wR, fL_wF, fL_wG, fL_wR, fV_wF, fV_wG, fV_wR, aF_sV, aG_sV, aR_sV, aF_wG, aF_wR, aG_wF, aG_wR, aR_wF, aR_wG, gM g]
    refine c_isScale g x (fun c9 => ?_) (fun r s z1 z2 z3 z4 => absurd ⟨r, s, z1, z2, z3, z4⟩ c)
    dsimp only [jrI]
    exact jif_t rfl (H _ fr_rfl)
  · have y1 := x.1
    obtain ⟨y2, -, -, -, -, -, -, -⟩ := x.2.2.2.1 r hr
    obtain ⟨w1, w2, sc, sm⟩ := x.2.2.2.2.1 r s hr hs
    have e8 := ix8 (by omega) (by omega) er es
    dsimp only [jrA, jisr, jnul]
    simp only [jrc_ob sc.1]
    refine c_hasMark sc (fun c => ?_) (fun j u v e3 e4 v0 v1 hj hJ => ?_)
    · dsimp only [jrI]
      refine jif_t rfl (K _ _ (fun Q2 H => ?_))
      rw [jE_X12_cut]
      refine jT_X12_cut_0 ?_
      simp (decide := true) only [jgI_ob, jgf_ob, jgL_ob, jpI_ob, jpL_ob, jpR_ob, jpN_ob, jrc_ob, obj_sV, obj_wF, obj_wG, obj_wR, arr_sV, arr_wF, arr_wG, arr_wR, arL_sV, arL_wF, arL_wG, arL_wR, arR_sV, arR_wF, arR_wG, arR_wR, fI_sV (c := 0), fI_sV (c := 1), fI_sV (c := 2), fI_sV (c := 4), fI_sV (c := 5), fI_sV (c := 7), fI_sV (c := 8), fI_sV (c := 9), fI_sV (c := 10), fI_sV (c := 11), fI_sV (c := 12), fI_sV (c := 6), fL_sV (c := 9), fL_sV (c := 12), fI_sV_k, fL_sV_k, fV_sV_k, fI_wF, fI_wG, fI_wR, fL_wF, fL_wG, fL_wR, fV_wF, fV_wG, fV_wR, aF_sV, aG_sV, aR_sV, aF_wG, aF_wR, aG_wF, aG_wR, aR_wF, aR_wG, gM g]
      refine c_isScale g x (fun c9 => absurd ⟨r, s, hr, hs, er, es⟩ c9) (fun _ _ _ _ _ _ => ?_)
      dsimp only [jrI]
      refine jif_n (by decide) ?_
      simp (decide := true) only [jgI_ob, jgf_ob, jgL_ob, jpI_ob, jpL_ob, jpR_ob, jpN_ob, jrc_ob, obj_sV, obj_wF, obj_wG, obj_wR, arr_sV, arr_wF, arr_wG, arr_wR, arL_sV, arL_wF, arL_wG, arL_wR, arR_sV, arR_wF, arR_wG, arR_wR, fI_sV (c := 0), fI_sV (c := 1), fI_sV (c := 2), fI_sV (c := 4), fI_sV (c := 5), fI_sV (c := 7), fI_sV (c := 8), fI_sV (c := 9), fI_sV (c := 10), fI_sV (c := 11), fI_sV (c := 12), fI_sV (c := 6), fL_sV (c := 9), fL_sV (c := 12), fI_sV_k, fL_sV_k, fV_sV_k, fI_wF, fI_wG, fI_wR, fL_wF, fL_wG, fL_wR, fV_wF, fV_wG, fV_wR, aF_sV, aG_sV, aR_sV, aF_wG, aF_wR, aG_wF, aG_wR, aR_wF, aR_wG, gM g]
      refine c_isMark g sm e8 (fun _ => ?_) (fun j u v z1 z2 z3 z4 z5 z6 => absurd ⟨j, u, v, z1, z2, z3, z4, z5, z6⟩ c)
      dsimp only [jrI]
      exact jif_t rfl (H _ fr_rfl)
    · dsimp only [jrI]
      refine jif_n (by decide) ?_
      have f3 := sc.2.2.1
      refine c_markFor (by omega) (by omega) (fun mk hmk => ?_)
      dsimp only [jrI]
      rw [jrc_ob sc.1]
      refine c_cutPlace (n := j) (m := mk) g sc (by omega) hJ (fun y hy => ?_)
      dsimp only [jrI]
      refine K _ _ (fun Q2 H => ?_)
      rw [jE_X12_cut]
      refine jT_X12_cut_0 ?_
      simp (decide := true) only [jgI_ob, jgf_ob, jgL_ob, jpI_ob, jpL_ob, jpR_ob, jpN_ob, jrc_ob, obj_sV, obj_wF, obj_wG, obj_wR, arr_sV, arr_wF, arr_wG, arr_wR, arL_sV, arL_wF, arL_wG, arL_wR, arR_sV, arR_wF, arR_wG, arR_wR, fI_sV (c := 0), fI_sV (c := 1), fI_sV (c := 2), fI_sV (c := 4), fI_sV (c := 5), fI_sV (c := 7), fI_sV (c := 8), fI_sV (c := 9), fI_sV (c := 10), fI_sV (c := 11), fI_sV (c := 12), fI_sV (c := 6), fL_sV (c := 9), fL_sV (c := 12), fI_sV_k, fL_sV_k, fV_sV_k, fI_wF, fI_wG, fI_wR, fL_wF, fL_wG, fL_wR, fV_wF, fV_wG, fV_wR, aF_sV, aG_sV, aR_sV, aF_wG, aF_wR, aG_wF, aG_wR, aR_wF, aR_wG, gM g]
      refine c_isScale g x (fun c9 => absurd ⟨r, s, hr, hs, er, es⟩ c9) (fun _ _ _ _ _ _ => ?_)
      dsimp only [jrI]
      refine jif_n (by decide) ?_
      simp (decide := true) only [jgI_ob, jgf_ob, jgL_ob, jpI_ob, jpL_ob, jpR_ob, jpN_ob, jrc_ob, obj_sV, obj_wF, obj_wG, obj_wR, arr_sV, arr_wF, arr_wG, arr_wR, arL_sV, arL_wF, arL_wG, arL_wR, arR_sV, arR_wF, arR_wG, arR_wR, fI_sV (c := 0), fI_sV (c := 1), fI_sV (c := 2), fI_sV (c := 4), fI_sV (c := 5), fI_sV (c := 7), fI_sV (c := 8), fI_sV (c := 9), fI_sV (c := 10), fI_sV (c := 11), fI_sV (c := 12), fI_sV (c := 6), fL_sV (c := 9), fL_sV (c := 12), fI_sV_k, fL_sV_k, fV_sV_k, fI_wF, fI_wG, fI_wR, fL_wF, fL_wG, fL_wR, fV_wF, fV_wG, fV_wR, aF_sV, aG_sV, aR_sV, aF_wG, aF_wR, aG_wF, aG_wR, aR_wF, aR_wG, gM g]
      refine c_isMark g sm e8 (fun c => absurd ⟨j, u, v, e3, e4, v0, v1, hj, hJ⟩ c) (fun _ _ _ _ _ _ _ _ _ => ?_)
      dsimp only [jrI]
      refine jif_n (by decide) ?_
      simp (decide := true) only [jgI_ob, jgf_ob, jgL_ob, jpI_ob, jpL_ob, jpR_ob, jpN_ob, jrc_ob, obj_sV, obj_wF, obj_wG, obj_wR, arr_sV, arr_wF, arr_wG, arr_wR, arL_sV, arL_wF, arL_wG, arL_wR, arR_sV, arR_wF, arR_wG, arR_wR, fI_sV (c := 0), fI_sV (c := 1), fI_sV (c := 2), fI_sV (c := 4), fI_sV (c := 5), fI_sV (c := 7), fI_sV (c := 8), fI_sV (c := 9), fI_sV (c := 10), fI_sV (c := 11), fI_sV (c := 12), fI_sV (c := 6), fL_sV (c := 9), fL_sV (c := 12), fI_sV_k, fL_sV_k, fV_sV_k, fI_wF, fI_wG, fI_wR, fL_wF, fL_wG, fL_wR, fV_wF, fV_wG, fV_wR, aF_sV, aG_sV, aR_sV, aF_wG, aF_wR, aG_wF, aG_wR, aR_wF, aR_wG, gM g]
      refine c_cutOf g sm e8 e3 e4 v0 (by omega) hj hJ (fun y' hy' => ?_)
      dsimp only [jrI]
      rw [show y' = y by rw [ti_eq, hy, hy']]
      exact H _ fr_rfl
theorem a_seen (g : G h) (x : RB h n m ρ τ b f t fl) {a1 a2 a3 a4 a5 : Int32} : AGR X 123 131 [.int a1, .int a2, .int a3, .int a4, .int a5] h (fun h2 => fr [89] [] h h2) := by
  intro Q K
  rw [jE_X11_seen]
  refine jT_X11_seen_0 ?_
  simp (decide := true) only [jgI_ob, jgf_ob, jgL_ob, jpI_ob, jpL_ob, jpR_ob, jpN_ob, jrc_ob, obj_sV, obj_wF, obj_wG, obj_wR, arr_sV, arr_wF, arr_wG, arr_wR, arL_sV, arL_wF, arL_wG, arL_wR, arR_sV, arR_wF, arR_wG, arR_wR, fI_sV (c := 0), fI_sV (c := 1), fI_sV (c := 2), fI_sV (c := 4), fI_sV (c := 5), fI_sV (c := 7), fI_sV (c := 8), fI_sV (c := 9), fI_sV (c := 10), fI_sV (c := 11), fI_sV (c := 12), fI_sV (c := 6), fL_sV (c := 9), fL_sV (c := 12), fI_sV_k, fL_sV_k, fV_sV_k, fI_wF, fI_wG, fI_wR, fL_wF, fL_wG, fL_wR, fV_wF, fV_wG, fV_wR, aF_sV, aG_sV, aR_sV, aF_wG, aF_wR, aG_wF, aG_wR, aR_wF, aR_wG, gO g]
  refine c_scaleAt g x (fun c => ?_) (fun r s hr hs er es => ?_)
  · dsimp only [jrA, jisr, jnul]
    refine K _ _ (fun Q2 H => ?_)
    rw [jE_X12_seen]
    refine jT_X12_seen_0 ?_
    simp (decide := true) only [jgI_ob, jgf_ob, jgL_ob, jpI_ob, jpL_ob, jpR_ob, jpN_ob, jrc_ob, obj_sV, obj_wF, obj_wG, obj_wR, arr_sV, arr_wF, arr_wG, arr_wR, arL_sV, arL_wF, arL_wG, arL_wR, arR_sV, arR_wF, arR_wG, arR_wR, fI_sV (c := 0), fI_sV (c := 1), fI_sV (c := 2), fI_sV (c := 4), fI_sV (c := 5), fI_sV (c := 7), fI_sV (c := 8), fI_sV (c := 9), fI_sV (c := 10), fI_sV (c := 11), fI_sV (c := 12), fI_sV (c := 6), fL_sV (c := 9), fL_sV (c := 12), fI_sV_k, fL_sV_k, fV_sV_k, fI_wF, fI_wG, fI_wR, fL_wF, fL_wG, fL_wR, fV_wF, fV_wG, fV_wR, aF_sV, aG_sV, aR_sV, aF_wG, aF_wR, aG_wF, aG_wR, aR_wF, aR_wG, gM g]
    refine c_isScale g x (fun c9 => ?_) (fun r s z1 z2 z3 z4 => absurd ⟨r, s, z1, z2, z3, z4⟩ c)
    dsimp only [jrI]
    exact jif_t rfl (H _ fr_rfl)
  · have y1 := x.1
    obtain ⟨y2, -, -, -, -, -, -, -⟩ := x.2.2.2.1 r hr
    obtain ⟨w1, w2, sc, sm⟩ := x.2.2.2.2.1 r s hr hs
    have e8 := ix8 (by omega) (by omega) er es
    dsimp only [jrA, jisr, jnul]
    simp only [jrc_ob sc.1, ti_lt, tl]
    refine ⟨fun c => ?_, fun c1 => ⟨fun c => ?_, fun c2 => ⟨fun c => ?_, fun c3 => ⟨fun c => ?_, fun c4 => ⟨fun c => ?_, fun c5 => ⟨fun c => ?_, fun c6 => ?_⟩⟩⟩⟩⟩⟩
    · refine K _ _ (fun Q2 H => ?_)
      rw [jE_X12_seen]
      refine jT_X12_seen_0 ?_
      simp (decide := true) only [jgI_ob, jgf_ob, jgL_ob, jpI_ob, jpL_ob, jpR_ob, jpN_ob, jrc_ob, obj_sV, obj_wF, obj_wG, obj_wR, arr_sV, arr_wF, arr_wG, arr_wR, arL_sV, arL_wF, arL_wG, arL_wR, arR_sV, arR_wF, arR_wG, arR_wR, fI_sV (c := 0), fI_sV (c := 1), fI_sV (c := 2), fI_sV (c := 4), fI_sV (c := 5), fI_sV (c := 7), fI_sV (c := 8), fI_sV (c := 9), fI_sV (c := 10), fI_sV (c := 11), fI_sV (c := 12), fI_sV (c := 6), fL_sV (c := 9), fL_sV (c := 12), fI_sV_k, fL_sV_k, fV_sV_k, fI_wF, fI_wG, fI_wR, fL_wF, fL_wG, fL_wR, fV_wF, fV_wG, fV_wR, aF_sV, aG_sV, aR_sV, aF_wG, aF_wR, aG_wF, aG_wR, aR_wF, aR_wG, gM g, ti_lt, tl]
      refine c_isScale g x (fun c9 => absurd ⟨r, s, hr, hs, er, es⟩ c9) (fun _ _ _ _ _ _ => ?_)
      dsimp only [jrI]
      refine jif_n (by decide) ?_
      repeat (first | refine jif_t (by omega) ?_ | refine jif_n (by omega) ?_ | refine ⟨by omega, ?_⟩)
      exact H _ fr_rfl
    · refine K _ _ (fun Q2 H => ?_)
      rw [jE_X12_seen]
      refine jT_X12_seen_0 ?_
      simp (decide := true) only [jgI_ob, jgf_ob, jgL_ob, jpI_ob, jpL_ob, jpR_ob, jpN_ob, jrc_ob, obj_sV, obj_wF, obj_wG, obj_wR, arr_sV, arr_wF, arr_wG, arr_wR, arL_sV, arL_wF, arL_wG, arL_wR, arR_sV, arR_wF, arR_wG, arR_wR, fI_sV (c := 0), fI_sV (c := 1), fI_sV (c := 2), fI_sV (c := 4), fI_sV (c := 5), fI_sV (c := 7), fI_sV (c := 8), fI_sV (c := 9), fI_sV (c := 10), fI_sV (c := 11), fI_sV (c := 12), fI_sV (c := 6), fL_sV (c := 9), fL_sV (c := 12), fI_sV_k, fL_sV_k, fV_sV_k, fI_wF, fI_wG, fI_wR, fL_wF, fL_wG, fL_wR, fV_wF, fV_wG, fV_wR, aF_sV, aG_sV, aR_sV, aF_wG, aF_wR, aG_wF, aG_wR, aR_wF, aR_wG, gM g, ti_lt, tl]
      refine c_isScale g x (fun c9 => absurd ⟨r, s, hr, hs, er, es⟩ c9) (fun _ _ _ _ _ _ => ?_)
      dsimp only [jrI]
      refine jif_n (by decide) ?_
      repeat (first | refine jif_t (by omega) ?_ | refine jif_n (by omega) ?_ | refine ⟨by omega, ?_⟩)
      exact H _ fr_rfl
    · refine K _ _ (fun Q2 H => ?_)
      rw [jE_X12_seen]
      refine jT_X12_seen_0 ?_
      simp (decide := true) only [jgI_ob, jgf_ob, jgL_ob, jpI_ob, jpL_ob, jpR_ob, jpN_ob, jrc_ob, obj_sV, obj_wF, obj_wG, obj_wR, arr_sV, arr_wF, arr_wG, arr_wR, arL_sV, arL_wF, arL_wG, arL_wR, arR_sV, arR_wF, arR_wG, arR_wR, fI_sV (c := 0), fI_sV (c := 1), fI_sV (c := 2), fI_sV (c := 4), fI_sV (c := 5), fI_sV (c := 7), fI_sV (c := 8), fI_sV (c := 9), fI_sV (c := 10), fI_sV (c := 11), fI_sV (c := 12), fI_sV (c := 6), fL_sV (c := 9), fL_sV (c := 12), fI_sV_k, fL_sV_k, fV_sV_k, fI_wF, fI_wG, fI_wR, fL_wF, fL_wG, fL_wR, fV_wF, fV_wG, fV_wR, aF_sV, aG_sV, aR_sV, aF_wG, aF_wR, aG_wF, aG_wR, aR_wF, aR_wG, gM g, ti_lt, tl]
      refine c_isScale g x (fun c9 => absurd ⟨r, s, hr, hs, er, es⟩ c9) (fun _ _ _ _ _ _ => ?_)
      dsimp only [jrI]
      refine jif_n (by decide) ?_
      repeat (first | refine jif_t (by omega) ?_ | refine jif_n (by omega) ?_ | refine ⟨by omega, ?_⟩)
      exact H _ fr_rfl
    · refine K _ _ (fun Q2 H => ?_)
      rw [jE_X12_seen]
      refine jT_X12_seen_0 ?_
      simp (decide := true) only [jgI_ob, jgf_ob, jgL_ob, jpI_ob, jpL_ob, jpR_ob, jpN_ob, jrc_ob, obj_sV, obj_wF, obj_wG, obj_wR, arr_sV, arr_wF, arr_wG, arr_wR, arL_sV, arL_wF, arL_wG, arL_wR, arR_sV, arR_wF, arR_wG, arR_wR, fI_sV (c := 0), fI_sV (c := 1), fI_sV (c := 2), fI_sV (c := 4), fI_sV (c := 5), fI_sV (c := 7), fI_sV (c := 8), fI_sV (c := 9), fI_sV (c := 10), fI_sV (c := 11), fI_sV (c := 12), fI_sV (c := 6), fL_sV (c := 9), fL_sV (c := 12), fI_sV_k, fL_sV_k, fV_sV_k, fI_wF, fI_wG, fI_wR, fL_wF, fL_wG, fL_wR, fV_wF, fV_wG, fV_wR, aF_sV, aG_sV, aR_sV, aF_wG, aF_wR, aG_wF, aG_wR, aR_wF, aR_wG, gM g, ti_lt, tl]
      refine c_isScale g x (fun c9 => absurd ⟨r, s, hr, hs, er, es⟩ c9) (fun _ _ _ _ _ _ => ?_)
      dsimp only [jrI]
      refine jif_n (by decide) ?_
      repeat (first | refine jif_t (by omega) ?_ | refine jif_n (by omega) ?_ | refine ⟨by omega, ?_⟩)
      exact H _ fr_rfl
    · refine K _ _ (fun Q2 H => ?_)
      rw [jE_X12_seen]
      refine jT_X12_seen_0 ?_
      simp (decide := true) only [jgI_ob, jgf_ob, jgL_ob, jpI_ob, jpL_ob, jpR_ob, jpN_ob, jrc_ob, obj_sV, obj_wF, obj_wG, obj_wR, arr_sV, arr_wF, arr_wG, arr_wR, arL_sV, arL_wF, arL_wG, arL_wR, arR_sV, arR_wF, arR_wG, arR_wR, fI_sV (c := 0), fI_sV (c := 1), fI_sV (c := 2), fI_sV (c := 4), fI_sV (c := 5), fI_sV (c := 7), fI_sV (c := 8), fI_sV (c := 9), fI_sV (c := 10), fI_sV (c := 11), fI_sV (c := 12), fI_sV (c := 6), fL_sV (c := 9), fL_sV (c := 12), fI_sV_k, fL_sV_k, fV_sV_k, fI_wF, fI_wG, fI_wR, fL_wF, fL_wG, fL_wR, fV_wF, fV_wG, fV_wR, aF_sV, aG_sV, aR_sV, aF_wG, aF_wR, aG_wF, aG_wR, aR_wF, aR_wG, gM g, ti_lt, tl]
      refine c_isScale g x (fun c9 => absurd ⟨r, s, hr, hs, er, es⟩ c9) (fun _ _ _ _ _ _ => ?_)
      dsimp only [jrI]
      refine jif_n (by decide) ?_
      repeat (first | refine jif_t (by omega) ?_ | refine jif_n (by omega) ?_ | refine ⟨by omega, ?_⟩)
      exact H _ fr_rfl
    · refine K _ _ (fun Q2 H => ?_)
      rw [jE_X12_seen]
      refine jT_X12_seen_0 ?_
      simp (decide := true) only [jgI_ob, jgf_ob, jgL_ob, jpI_ob, jpL_ob, jpR_ob, jpN_ob, jrc_ob, obj_sV, obj_wF, obj_wG, obj_wR, arr_sV, arr_wF, arr_wG, arr_wR, arL_sV, arL_wF, arL_wG, arL_wR, arR_sV, arR_wF, arR_wG, arR_wR, fI_sV (c := 0), fI_sV (c := 1), fI_sV (c := 2), fI_sV (c := 4), fI_sV (c := 5), fI_sV (c := 7), fI_sV (c := 8), fI_sV (c := 9), fI_sV (c := 10), fI_sV (c := 11), fI_sV (c := 12), fI_sV (c := 6), fL_sV (c := 9), fL_sV (c := 12), fI_sV_k, fL_sV_k, fV_sV_k, fI_wF, fI_wG, fI_wR, fL_wF, fL_wG, fL_wR, fV_wF, fV_wG, fV_wR, aF_sV, aG_sV, aR_sV, aF_wG, aF_wR, aG_wF, aG_wR, aR_wF, aR_wG, gM g, ti_lt, tl]
      refine c_isScale g x (fun c9 => absurd ⟨r, s, hr, hs, er, es⟩ c9) (fun _ _ _ _ _ _ => ?_)
      dsimp only [jrI]
      refine jif_n (by decide) ?_
      repeat (first | refine jif_t (by omega) ?_ | refine jif_n (by omega) ?_ | refine ⟨by omega, ?_⟩)
      exact H _ fr_rfl
    · refine c_lookAt g sc w2 (by omega) (by omega) (by omega) (by omega) (fun h1 a l u k1 hS i5 i6 i7 => ?_)
      dsimp only [jrN]
      have hord := SEEN_ord hS
      have f3 := sc.2.2.1
      rw [jrc_ob (by rw [frO k1]; exact sc.1)]
      refine c_sighted (by rw [frO k1]; exact sc.1) i5 i6 i7 (by omega) (by omega) (by omega) (by omega) (by omega) (fun y j0 j1 j2 => ?_)
      dsimp only [jrI]
      refine K _ _ (fun Q2 H => ?_)
      have g1 := G_fr g rfl k1
      have x1 := RB_fr x k1 rfl
      have sm1 := SM_fr sm rfl k1
      rw [jE_X12_seen]
      refine jT_X12_seen_0 ?_
      simp (decide := true) only [jgI_ob, jgf_ob, jgL_ob, jpI_ob, jpL_ob, jpR_ob, jpN_ob, jrc_ob, obj_sV, obj_wF, obj_wG, obj_wR, arr_sV, arr_wF, arr_wG, arr_wR, arL_sV, arL_wF, arL_wG, arL_wR, arR_sV, arR_wF, arR_wG, arR_wR, fI_sV (c := 0), fI_sV (c := 1), fI_sV (c := 2), fI_sV (c := 4), fI_sV (c := 5), fI_sV (c := 7), fI_sV (c := 8), fI_sV (c := 9), fI_sV (c := 10), fI_sV (c := 11), fI_sV (c := 12), fI_sV (c := 6), fL_sV (c := 9), fL_sV (c := 12), fI_sV_k, fL_sV_k, fV_sV_k, fI_wF, fI_wG, fI_wR, fL_wF, fL_wG, fL_wR, fV_wF, fV_wG, fV_wR, aF_sV, aG_sV, aR_sV, aF_wG, aF_wR, aG_wF, aG_wR, aR_wF, aR_wG, gM g1, ti_lt, tl]
      refine c_isScale g1 x1 (fun c9 => absurd ⟨r, s, hr, hs, er, es⟩ c9) (fun _ _ _ _ _ _ => ?_)
      dsimp only [jrI]
      refine jif_n (by decide) ?_
      repeat (first | refine jif_t (by omega) ?_ | refine jif_n (by omega) ?_ | refine ⟨by omega, ?_⟩)
      simp (decide := true) only [jgI_ob, jgf_ob, jgL_ob, jpI_ob, jpL_ob, jpR_ob, jpN_ob, jrc_ob, obj_sV, obj_wF, obj_wG, obj_wR, arr_sV, arr_wF, arr_wG, arr_wR, arL_sV, arL_wF, arL_wG, arL_wR, arR_sV, arR_wF, arR_wG, arR_wR, fI_sV (c := 0), fI_sV (c := 1), fI_sV (c := 2), fI_sV (c := 4), fI_sV (c := 5), fI_sV (c := 7), fI_sV (c := 8), fI_sV (c := 9), fI_sV (c := 10), fI_sV (c := 11), fI_sV (c := 12), fI_sV (c := 6), fL_sV (c := 9), fL_sV (c := 12), fI_sV_k, fL_sV_k, fV_sV_k, fI_wF, fI_wG, fI_wR, fL_wF, fL_wG, fL_wR, fV_wF, fV_wG, fV_wR, aF_sV, aG_sV, aR_sV, aF_wG, aF_wR, aG_wF, aG_wR, aR_wF, aR_wG, gM g1]
      refine c_see (x := a3) (q := a4) g1 sm1 e8 (by omega) (by omega) (fun h2 a' l' u' k2 hS' s0 s1 s2 => ?_)
      dsimp only [jrN]
      have g2 := G_fr g1 rfl k2
      obtain ⟨q1, q2, q3⟩ := SEEN_un hS hS'
      subst q1 q2 q3
      simp (decide := true) only [jgI_ob, jgf_ob, jgL_ob, jpI_ob, jpL_ob, jpR_ob, jpN_ob, jrc_ob, obj_sV, obj_wF, obj_wG, obj_wR, arr_sV, arr_wF, arr_wG, arr_wR, arL_sV, arL_wF, arL_wG, arL_wR, arR_sV, arR_wF, arR_wG, arR_wR, fI_sV (c := 0), fI_sV (c := 1), fI_sV (c := 2), fI_sV (c := 4), fI_sV (c := 5), fI_sV (c := 7), fI_sV (c := 8), fI_sV (c := 9), fI_sV (c := 10), fI_sV (c := 11), fI_sV (c := 12), fI_sV (c := 6), fL_sV (c := 9), fL_sV (c := 12), fI_sV_k, fL_sV_k, fV_sV_k, fI_wF, fI_wG, fI_wR, fL_wF, fL_wG, fL_wR, fV_wF, fV_wG, fV_wR, aF_sV, aG_sV, aR_sV, aF_wG, aF_wR, aG_wF, aG_wR, aR_wF, aR_wG, kC, kM, gM g2, gN g2, ti_clamp, vp_inI]
      refine ⟨by omega, ?_⟩
      have ey : aF h2 89 a5.toInt.toNat = y := by
        rw [ti_eq]
        rcases (show a5.toInt = 0 ∨ a5.toInt = 1 ∨ a5.toInt = 2 by omega) with c | c | c
        · rw [j0 c, c]; exact s0
        · rw [j1 c, c]; exact s1
        · rw [j2 c, c]; exact s2
      rw [ey]
      exact H _ (fr_trans (fr_mono (by decide) (by decide) k1) k2)
theorem c_scaleInHand {d : Nat} {Q : JQ} (g : G h) (x : RB h n m ρ τ b f t fl) (y : HD B h n ρ) {a : Int32} (H0 : (¬ ∃ r s : Nat, r < n ∧ s < m r ∧ (fI h 6 3).toInt = r ∧ a.toInt = s) → Q (some .null) h) (H1 : ∀ r s : Nat, r < n → s < m r → (fI h 6 3).toInt = r → a.toInt = s → Q (some (.ref (τ (8 * r + s)))) h) : jex X (d + 2) 139 [.ref 6, .int a] h Q := by
  obtain ⟨-, -, -, -, -, -, -, -, -, -, -, -, -, y6⟩ := y
  rw [jE_X2_scaleInHand]
  refine jT_X2_scaleInHand_0 ?_
  simp (decide := true) only [jgI_ob, jgf_ob, jgL_ob, jpI_ob, jpL_ob, jpR_ob, jpN_ob, jrc_ob, obj_sV, obj_wF, obj_wG, obj_wR, arr_sV, arr_wF, arr_wG, arr_wR, arL_sV, arL_wF, arL_wG, arL_wR, arR_sV, arR_wF, arR_wG, arR_wR, fI_sV (c := 0), fI_sV (c := 1), fI_sV (c := 2), fI_sV (c := 4), fI_sV (c := 5), fI_sV (c := 7), fI_sV (c := 8), fI_sV (c := 9), fI_sV (c := 10), fI_sV (c := 11), fI_sV (c := 12), fI_sV (c := 6), fL_sV (c := 9), fL_sV (c := 12), fI_sV_k, fL_sV_k, fV_sV_k, fI_wF, fI_wG, fI_wR, fL_wF, fL_wG, fL_wR, fV_wF, fV_wG, fV_wR, aF_sV, aG_sV, aR_sV, aF_wG, aF_wR, aG_wF, aG_wR, aR_wF, aR_wG, gO g]
  rcases y6 with ⟨z1, z2⟩ | ⟨r, z0, z1, z2⟩
  · rw [z2]
    exact H0 (fun ⟨r, s, q1, q2, q3, q4⟩ => by omega)
  · rw [z2]
    dsimp only [jnul]
    rw [jrc_ob ((x.2.2.2.1 r z0).2.2.2.1)]
    refine c_scaleAt6 x z0 (fun c => ?_) (fun s hs es => ?_)
    · refine H0 (fun ⟨r', s', q1, q2, q3, q4⟩ => c ?_)
      have : r' = r := by omega
      subst this
      omega
    · exact H1 r s z0 hs z1 es
theorem a_index (g : G h) (st : ST h) (y : HD B h n ρ) (hB : B ≤ 1000000) {a : Int32} : AGR X 154 155 [.int a] h (fun h2 => fr [] [(6, 4), (6, 6), (6, 8), (81, 14), (81, 16)] h h2 ∧ HD (B + 20) h2 n ρ) := by
  obtain ⟨y1, y2, y3, y4, y5, s0, s1, h0, h1, u0, u1, v0, v1, y6⟩ := id y
  obtain ⟨t1, t2, t3, t4, t5, t6⟩ := st
  have hmono : HD (B + 20) h n ρ := ⟨y1, y2, y3, y4, y5, s0, s1, h0, h1, u0, by omega, v0, by omega, y6⟩
  intro Q K
  rw [jE_X11_index]
  refine jT_X11_index_0 ?_
  simp (decide := true) only [jgI_ob, jgf_ob, jgL_ob, jpI_ob, jpL_ob, jpR_ob, jpN_ob, jrc_ob, obj_sV, obj_wF, obj_wG, obj_wR, arr_sV, arr_wF, arr_wG, arr_wR, arL_sV, arL_wF, arL_wG, arL_wR, arR_sV, arR_wF, arR_wG, arR_wR, fI_sV (c := 0), fI_sV (c := 1), fI_sV (c := 2), fI_sV (c := 4), fI_sV (c := 5), fI_sV (c := 7), fI_sV (c := 8), fI_sV (c := 9), fI_sV (c := 10), fI_sV (c := 11), fI_sV (c := 12), fI_sV (c := 6), fL_sV (c := 9), fL_sV (c := 12), fI_sV_k, fL_sV_k, fV_sV_k, fI_wF, fI_wG, fI_wR, fL_wF, fL_wG, fL_wR, fV_wF, fV_wG, fV_wR, aF_sV, aG_sV, aR_sV, aF_wG, aF_wR, aG_wF, aG_wR, aR_wF, aR_wG, gO g, gF g]
  rcases id y6 with ⟨z1, z2⟩ | ⟨r, z0, z1, z2⟩
  · rw [z2]
    dsimp only [jnul]
    refine K _ _ (fun Q2 H => ?_)
    rw [jE_X12_index]
    refine jT_X12_index_0 ?_
    simp (decide := true) only [jgI_ob, jgf_ob, jgL_ob, jpI_ob, jpL_ob, jpR_ob, jpN_ob, jrc_ob, obj_sV, obj_wF, obj_wG, obj_wR, arr_sV, arr_wF, arr_wG, arr_wR, arL_sV, arL_wF, arL_wG, arL_wR, arR_sV, arR_wF, arR_wG, arR_wR, fI_sV (c := 0), fI_sV (c := 1), fI_sV (c := 2), fI_sV (c := 4), fI_sV (c := 5), fI_sV (c := 7), fI_sV (c := 8), fI_sV (c := 9), fI_sV (c := 10), fI_sV (c := 11), fI_sV (c := 12), fI_sV (c := 6), fL_sV (c := 9), fL_sV (c := 12), fI_sV_k, fL_sV_k, fV_sV_k, fI_wF, fI_wG, fI_wR, fL_wF, fL_wG, fL_wR, fV_wF, fV_wG, fV_wR, aF_sV, aG_sV, aR_sV, aF_wG, aF_wR, aG_wF, aG_wR, aR_wF, aR_wG, gM g, y1, ti_lt, tl]
    repeat (first | refine jif_t (by omega) ?_ | refine jif_n (by omega) ?_ | refine ⟨by omega, ?_⟩)
    exact H _ ⟨fr_rfl, hmono⟩
  · rw [z2]
    dsimp only [jnul]
    have fin : ∀ w : Int32, (w.toInt = 0 ∨ w.toInt = 4096) → (∀ (Q2 : JQ) (h9 : JH), G h9 → (∀ q, q ∈ [13, 15, 17, 10] → fI h9 81 q = fI h 81 q) → ((fI h 81 15 - w).toInt < -4096 ∨ 4096 < (fI h 81 15 - w).toInt → Q2 (some (.int (-5000))) h9) → (-4096 ≤ (fI h 81 15 - w).toInt → (fI h 81 15 - w).toInt ≤ 4096 → Q2 (some (.int (fI h 81 15 - w))) (sV (sV h9 81 14 (.int (fI h 81 15 - w))) 81 16 (.int (fI h 81 17 + fI h 81 10)))) → jex X 10 155 [.ref 81, .int a] h9 Q2) → jex X 9 150 [.ref 6, .int w, .int 0] h fun r5 h4 => (jrI r5 fun x6 => (jifp (x6 = 0) (Q (some (.int (-5000))) h4) (jgf h4 (.ref 0) 11 3 fun v7 => (jgI h4 v7 2 4 fun x8 => (Q (some (.int x8)) h4))))) := by
      intro w hw M
      refine c_bringSlide (d := 7) (by simp only [gO g]) (fun c => ?_) (fun c1 c2 => ?_)
      · dsimp only [jrI]
        refine jif_t rfl (K _ _ (fun Q2 H => ?_))
        rw [← y3] at c
        refine M Q2 h g (fun _ _ => rfl) (fun _ => H _ ⟨fr_rfl, hmono⟩) (fun d1 d2 => by omega)
      · dsimp only [jrI]
        refine jif_n (by decide) ?_
        have a1 : fr [] [(6, 4), (6, 6), (6, 8), (81, 14), (81, 16)] h (sV (sV (sV h 6 4 (.int (fI h 6 5 - w))) 6 6 (.int (fI h 6 7 + fI h 6 0 + 0))) 6 8 (.int (fI h 6 8 + 1))) := fr_sV (by decide) (fr_sV (by decide) (fr_sV (by decide) fr_rfl))
        have g1 := G_fr g rfl a1
        simp (decide := true) only [jgI_ob, jgf_ob, jgL_ob, jpI_ob, jpL_ob, jpR_ob, jpN_ob, jrc_ob, obj_sV, obj_wF, obj_wG, obj_wR, arr_sV, arr_wF, arr_wG, arr_wR, arL_sV, arL_wF, arL_wG, arL_wR, arR_sV, arR_wF, arR_wG, arR_wR, fI_sV (c := 0), fI_sV (c := 1), fI_sV (c := 2), fI_sV (c := 4), fI_sV (c := 5), fI_sV (c := 7), fI_sV (c := 8), fI_sV (c := 9), fI_sV (c := 10), fI_sV (c := 11), fI_sV (c := 12), fI_sV (c := 6), fL_sV (c := 9), fL_sV (c := 12), fI_sV_k, fL_sV_k, fV_sV_k, fI_wF, fI_wG, fI_wR, fL_wF, fL_wG, fL_wR, fV_wF, fV_wG, fV_wR, aF_sV, aG_sV, aR_sV, aF_wG, aF_wR, aG_wF, aG_wR, aR_wF, aR_wG, gO g, gF g, fV_sV_ne]
        refine K _ _ (fun Q2 H => ?_)
        rw [← y3] at c1 c2
        refine M Q2 _ g1 (fun q hq => frI a1 (by rcases (show q = 13 ∨ q = 15 ∨ q = 17 ∨ q = 10 by simpa using hq) with e | e | e | e <;> subst e <;> decide) (fun c => by omega)) (fun c => by omega) (fun d1 d2 => ?_)
        rw [y3]
        refine H _ ⟨fr_sV (by decide) (fr_sV (by decide) a1), ?_⟩
        have e5 : fI h 6 7 + fI h 6 0 + 0 = fI h 81 17 + fI h 81 10 := by rw [y5, t1, Int32.add_zero]
        rw [e5]
        have eu : (fI h 81 17 + fI h 81 10).toInt = (fI h 6 7).toInt + (fI h 6 0).toInt := by
          rw [y5, t1]; exact (by simp only [Int32.toInt_add, Int32.toInt_sub, Int32.toInt_mul, Int32.toInt_neg, Int.bmod_def, tl]; omega)
        unfold HD
        simp (decide := true) only [jgI_ob, jgf_ob, jgL_ob, jpI_ob, jpL_ob, jpR_ob, jpN_ob, jrc_ob, obj_sV, obj_wF, obj_wG, obj_wR, arr_sV, arr_wF, arr_wG, arr_wR, arL_sV, arL_wF, arL_wG, arL_wR, arR_sV, arR_wF, arR_wG, arR_wR, fI_sV (c := 0), fI_sV (c := 1), fI_sV (c := 2), fI_sV (c := 4), fI_sV (c := 5), fI_sV (c := 7), fI_sV (c := 8), fI_sV (c := 9), fI_sV (c := 10), fI_sV (c := 11), fI_sV (c := 12), fI_sV (c := 6), fL_sV (c := 9), fL_sV (c := 12), fI_sV_k, fL_sV_k, fV_sV_k, fI_wF, fI_wG, fI_wR, fL_wF, fL_wG, fL_wR, fV_wF, fV_wG, fV_wR, aF_sV, aG_sV, aR_sV, aF_wG, aF_wR, aG_wF, aG_wR, aR_wF, aR_wG, gM g, gO g, fI_sV_ne, fV_sV_ne, tl, y1, y3, y5]
        rw [y3] at d1 d2
        rw [y5] at eu
        exact ⟨trivial, trivial, trivial, trivial, trivial, d1, d2, h0, h1, by omega, by omega, v0, by omega, y6⟩
    refine ⟨fun c => fin 0 (Or.inl rfl) ?_, fun c => fin 4096 (Or.inr rfl) ?_⟩
    · intro Q2 h9 g9 e9 H0 H1
      have e13 := e9 13 (by decide)
      have e15 := e9 15 (by decide)
      have e17 := e9 17 (by decide)
      have e10 := e9 10 (by decide)
      rw [jE_X12_index]
      refine jT_X12_index_0 ?_
      simp (decide := true) only [jgI_ob, jgf_ob, jgL_ob, jpI_ob, jpL_ob, jpR_ob, jpN_ob, jrc_ob, obj_sV, obj_wF, obj_wG, obj_wR, arr_sV, arr_wF, arr_wG, arr_wR, arL_sV, arL_wF, arL_wG, arL_wR, arR_sV, arR_wF, arR_wG, arR_wR, fI_sV (c := 0), fI_sV (c := 1), fI_sV (c := 2), fI_sV (c := 4), fI_sV (c := 5), fI_sV (c := 7), fI_sV (c := 8), fI_sV (c := 9), fI_sV (c := 10), fI_sV (c := 11), fI_sV (c := 12), fI_sV (c := 6), fL_sV (c := 9), fL_sV (c := 12), fI_sV_k, fL_sV_k, fV_sV_k, fI_wF, fI_wG, fI_wR, fL_wF, fL_wG, fL_wR, fV_wF, fV_wG, fV_wR, aF_sV, aG_sV, aR_sV, aF_wG, aF_wR, aG_wF, aG_wR, aR_wF, aR_wG, gM g9, e13, e15, e17, e10, ti_lt, tl]
      refine jif_n (by rw [y1]; omega) (jif_t c ?_)
      refine c_slideTo g9 (fun d => ?_) (fun d1 d2 => ?_)
      · exact jif_t rfl (H0 d)
      · dsimp only [jrI]
        refine jif_n (by decide) ?_
        simp (decide := true) only [jgI_ob, jgf_ob, jgL_ob, jpI_ob, jpL_ob, jpR_ob, jpN_ob, jrc_ob, obj_sV, obj_wF, obj_wG, obj_wR, arr_sV, arr_wF, arr_wG, arr_wR, arL_sV, arL_wF, arL_wG, arL_wR, arR_sV, arR_wF, arR_wG, arR_wR, fI_sV (c := 0), fI_sV (c := 1), fI_sV (c := 2), fI_sV (c := 4), fI_sV (c := 5), fI_sV (c := 7), fI_sV (c := 8), fI_sV (c := 9), fI_sV (c := 10), fI_sV (c := 11), fI_sV (c := 12), fI_sV (c := 6), fL_sV (c := 9), fL_sV (c := 12), fI_sV_k, fL_sV_k, fV_sV_k, fI_wF, fI_wG, fI_wR, fL_wF, fL_wG, fL_wR, fV_wF, fV_wG, fV_wR, aF_sV, aG_sV, aR_sV, aF_wG, aF_wR, aG_wF, aG_wR, aR_wF, aR_wG, gM g9]
        exact H1 d1 d2
    · intro Q2 h9 g9 e9 H0 H1
      have e13 := e9 13 (by decide)
      have e15 := e9 15 (by decide)
      have e17 := e9 17 (by decide)
      have e10 := e9 10 (by decide)
      rw [jE_X12_index]
      refine jT_X12_index_0 ?_
      simp (decide := true) only [jgI_ob, jgf_ob, jgL_ob, jpI_ob, jpL_ob, jpR_ob, jpN_ob, jrc_ob, obj_sV, obj_wF, obj_wG, obj_wR, arr_sV, arr_wF, arr_wG, arr_wR, arL_sV, arL_wF, arL_wG, arL_wR, arR_sV, arR_wF, arR_wG, arR_wR, fI_sV (c := 0), fI_sV (c := 1), fI_sV (c := 2), fI_sV (c := 4), fI_sV (c := 5), fI_sV (c := 7), fI_sV (c := 8), fI_sV (c := 9), fI_sV (c := 10), fI_sV (c := 11), fI_sV (c := 12), fI_sV (c := 6), fL_sV (c := 9), fL_sV (c := 12), fI_sV_k, fL_sV_k, fV_sV_k, fI_wF, fI_wG, fI_wR, fL_wF, fL_wG, fL_wR, fV_wF, fV_wG, fV_wR, aF_sV, aG_sV, aR_sV, aF_wG, aF_wR, aG_wF, aG_wR, aR_wF, aR_wG, gM g9, e13, e15, e17, e10, ti_lt, tl]
      refine jif_n (by rw [y1]; omega) (jif_n c ?_)
      refine c_slideTo g9 (fun d => ?_) (fun d1 d2 => ?_)
      · exact jif_t rfl (H0 d)
      · dsimp only [jrI]
        refine jif_n (by decide) ?_
        simp (decide := true) only [jgI_ob, jgf_ob, jgL_ob, jpI_ob, jpL_ob, jpR_ob, jpN_ob, jrc_ob, obj_sV, obj_wF, obj_wG, obj_wR, arr_sV, arr_wF, arr_wG, arr_wR, arL_sV, arL_wF, arL_wG, arL_wR, arR_sV, arR_wF, arR_wG, arR_wR, fI_sV (c := 0), fI_sV (c := 1), fI_sV (c := 2), fI_sV (c := 4), fI_sV (c := 5), fI_sV (c := 7), fI_sV (c := 8), fI_sV (c := 9), fI_sV (c := 10), fI_sV (c := 11), fI_sV (c := 12), fI_sV (c := 6), fL_sV (c := 9), fL_sV (c := 12), fI_sV_k, fL_sV_k, fV_sV_k, fI_wF, fI_wG, fI_wR, fL_wF, fL_wG, fL_wR, fV_wF, fV_wG, fV_wR, aF_sV, aG_sV, aR_sV, aF_wG, aF_wR, aG_wF, aG_wR, aR_wF, aR_wG, gM g9]
        exact H1 d1 d2
end GCA
