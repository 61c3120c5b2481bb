/-! THE EASY CALLS -/
section EASY
variable {X : JX} {h : JH} {n : Nat} {m ρ τ f : Nat → Nat} {b t : Nat → Bool} {fl : Nat → Nat → Int} {B : Int}
theorem a_place (g : G h) (e : fI h 81 3 = fI h 0 7) : AGR X 92 93 [] h (fun h2 => fr [] [] h h2) := by
  intro Q K
  rw [jE_X11_place]
  refine jT_X11_place_0 ?_
  simp (decide := true) only [jgI_ob, jgf_ob, jgL_ob, jpI_ob, jpL_ob, jpR_ob, jpN_ob, jrc_ob, obj_sV, obj_wF, obj_wG, obj_wR, arr_sV, arr_wF, arr_wG, arr_wR, arL_sV, arL_wF, arL_wG, arL_wR, arR_sV, arR_wF, arR_wG, arR_wR, fI_sV (c := 0), fI_sV (c := 1), fI_sV (c := 2), fI_sV (c := 4), fI_sV (c := 5), fI_sV (c := 7), fI_sV (c := 8), fI_sV (c := 9), fI_sV (c := 10), fI_sV (c := 11), fI_sV (c := 12), fI_sV (c := 6), fL_sV (c := 9), fL_sV (c := 12), fI_sV_k, fL_sV_k, fV_sV_k, fI_wF, fI_wG, fI_wR, fL_wF, fL_wG, fL_wR, fV_wF, fV_wG, fV_wR, aF_sV, aG_sV, aR_sV, aF_wG, aF_wR, aG_wF, aG_wR, aR_wF, aR_wG, gO g]
  refine K _ _ (fun Q2 H => ?_)
  rw [jE_X12_place]
  refine jT_X12_place_0 ?_
  simp (decide := true) only [jgI_ob, jgf_ob, jgL_ob, jpI_ob, jpL_ob, jpR_ob, jpN_ob, jrc_ob, obj_sV, obj_wF, obj_wG, obj_wR, arr_sV, arr_wF, arr_wG, arr_wR, arL_sV, arL_wF, arL_wG, arL_wR, arR_sV, arR_wF, arR_wG, arR_wR, fI_sV (c := 0), fI_sV (c := 1), fI_sV (c := 2), fI_sV (c := 4), fI_sV (c := 5), fI_sV (c := 7), fI_sV (c := 8), fI_sV (c := 9), fI_sV (c := 10), fI_sV (c := 11), fI_sV (c := 12), fI_sV (c := 6), fL_sV (c := 9), fL_sV (c := 12), fI_sV_k, fL_sV_k, fV_sV_k, fI_wF, fI_wG, fI_wR, fL_wF, fL_wG, fL_wR, fV_wF, fV_wG, fV_wR, aF_sV, aG_sV, aR_sV, aF_wG, aF_wR, aG_wF, aG_wR, aR_wF, aR_wG, gM g, e]
  exact H _ fr_rfl
theorem a_broke (g : G h) (e : fI h 81 54 = fI h 24 17) : AGR X 217 218 [] h (fun h2 => fr [] [] h h2) := by
  intro Q K
  rw [jE_X11_broke]
  refine jT_X11_broke_0 ?_
  simp (decide := true) only [jgI_ob, jgf_ob, jgL_ob, jpI_ob, jpL_ob, jpR_ob, jpN_ob, jrc_ob, obj_sV, obj_wF, obj_wG, obj_wR, arr_sV, arr_wF, arr_wG, arr_wR, arL_sV, arL_wF, arL_wG, arL_wR, arR_sV, arR_wF, arR_wG, arR_wR, fI_sV (c := 0), fI_sV (c := 1), fI_sV (c := 2), fI_sV (c := 4), fI_sV (c := 5), fI_sV (c := 7), fI_sV (c := 8), fI_sV (c := 9), fI_sV (c := 10), fI_sV (c := 11), fI_sV (c := 12), fI_sV (c := 6), fL_sV (c := 9), fL_sV (c := 12), fI_sV_k, fL_sV_k, fV_sV_k, fI_wF, fI_wG, fI_wR, fL_wF, fL_wG, fL_wR, fV_wF, fV_wG, fV_wR, aF_sV, aG_sV, aR_sV, aF_wG, aF_wR, aG_wF, aG_wR, aR_wF, aR_wG, gO g, gF g]
  refine K _ _ (fun Q2 H => ?_)
  rw [jE_X12_broke]
  refine jT_X12_broke_0 ?_
  simp (decide := true) only [jgI_ob, jgf_ob, jgL_ob, jpI_ob, jpL_ob, jpR_ob, jpN_ob, jrc_ob, obj_sV, obj_wF, obj_wG, obj_wR, arr_sV, arr_wF, arr_wG, arr_wR, arL_sV, arL_wF, arL_wG, arL_wR, arR_sV, arR_wF, arR_wG, arR_wR, fI_sV (c := 0), fI_sV (c := 1), fI_sV (c := 2), fI_sV (c := 4), fI_sV (c := 5), fI_sV (c := 7), fI_sV (c := 8), fI_sV (c := 9), fI_sV (c := 10), fI_sV (c := 11), fI_sV (c := 12), fI_sV (c := 6), fL_sV (c := 9), fL_sV (c := 12), fI_sV_k, fL_sV_k, fV_sV_k, fI_wF, fI_wG, fI_wR, fL_wF, fL_wG, fL_wR, fV_wF, fV_wG, fV_wR, aF_sV, aG_sV, aR_sV, aF_wG, aF_wR, aG_wF, aG_wR, aR_wF, aR_wG, gM g, e]
  exact H _ fr_rfl
theorem a_where (g : G h) (e : fI h 81 55 = fI h 24 18) : AGR X 219 220 [] h (fun h2 => fr [] [] h h2) := by
  intro Q K
  rw [jE_X11_where]
  refine jT_X11_where_0 ?_
  simp (decide := true) only [jgI_ob, jgf_ob, jgL_ob, jpI_ob, jpL_ob, jpR_ob, jpN_ob, jrc_ob, obj_sV, obj_wF, obj_wG, obj_wR, arr_sV, arr_wF, arr_wG, arr_wR, arL_sV, arL_wF, arL_wG, arL_wR, arR_sV, arR_wF, arR_wG, arR_wR, fI_sV (c := 0), fI_sV (c := 1), fI_sV (c := 2), fI_sV (c := 4), fI_sV (c := 5), fI_sV (c := 7), fI_sV (c := 8), fI_sV (c := 9), fI_sV (c := 10), fI_sV (c := 11), fI_sV (c := 12), fI_sV (c := 6), fL_sV (c := 9), fL_sV (c := 12), fI_sV_k, fL_sV_k, fV_sV_k, fI_wF, fI_wG, fI_wR, fL_wF, fL_wG, fL_wR, fV_wF, fV_wG, fV_wR, aF_sV, aG_sV, aR_sV, aF_wG, aF_wR, aG_wF, aG_wR, aR_wF, aR_wG, gO g, gF g]
  refine K _ _ (fun Q2 H => ?_)
  rw [jE_X12_where]
  refine jT_X12_where_0 ?_
  simp (decide := true) only [jgI_ob, jgf_ob, jgL_ob, jpI_ob, jpL_ob, jpR_ob, jpN_ob, jrc_ob, obj_sV, obj_wF, obj_wG, obj_wR, arr_sV, arr_wF, arr_wG, arr_wR, arL_sV, arL_wF, arL_wG, arL_wR, arR_sV, arR_wF, arR_wG, arR_wR, fI_sV (c := 0), fI_sV (c := 1), fI_sV (c := 2), fI_sV (c := 4), fI_sV (c := 5), fI_sV (c := 7), fI_sV (c := 8), fI_sV (c := 9), fI_sV (c := 10), fI_sV (c := 11), fI_sV (c := 12), fI_sV (c := 6), fL_sV (c := 9), fL_sV (c := 12), fI_sV_k, fL_sV_k, fV_sV_k, fI_wF, fI_wG, fI_wR, fL_wF, fL_wG, fL_wR, fV_wF, fV_wG, fV_wR, aF_sV, aG_sV, aR_sV, aF_wG, aF_wR, aG_wF, aG_wR, aR_wF, aR_wG, gM g, e]
  exact H _ fr_rfl
theorem a_moves (g : G h) (e : fI h 81 51 = fI h 24 19) : AGR X 221 222 [] h (fun h2 => fr [] [] h h2) := by
  intro Q K
  rw [jE_X11_moves]
  refine jT_X11_moves_0 ?_
  simp (decide := true) only [jgI_ob, jgf_ob, jgL_ob, jpI_ob, jpL_ob, jpR_ob, jpN_ob, jrc_ob, obj_sV, obj_wF, obj_wG, obj_wR, arr_sV, arr_wF, arr_wG, arr_wR, arL_sV, arL_wF, arL_wG, arL_wR, arR_sV, arR_wF, arR_wG, arR_wR, fI_sV (c := 0), fI_sV (c := 1), fI_sV (c := 2), fI_sV (c := 4), fI_sV (c := 5), fI_sV (c := 7), fI_sV (c := 8), fI_sV (c := 9), fI_sV (c := 10), fI_sV (c := 11), fI_sV (c := 12), fI_sV (c := 6), fL_sV (c := 9), fL_sV (c := 12), fI_sV_k, fL_sV_k, fV_sV_k, fI_wF, fI_wG, fI_wR, fL_wF, fL_wG, fL_wR, fV_wF, fV_wG, fV_wR, aF_sV, aG_sV, aR_sV, aF_wG, aF_wR, aG_wF, aG_wR, aR_wF, aR_wG, gO g, gF g]
  refine K _ _ (fun Q2 H => ?_)
  rw [jE_X12_moves]
  refine jT_X12_moves_0 ?_
  simp (decide := true) only [jgI_ob, jgf_ob, jgL_ob, jpI_ob, jpL_ob, jpR_ob, jpN_ob, jrc_ob, obj_sV, obj_wF, obj_wG, obj_wR, arr_sV, arr_wF, arr_wG, arr_wR, arL_sV, arL_wF, arL_wG, arL_wR, arR_sV, arR_wF, arR_wG, arR_wR, fI_sV (c := 0), fI_sV (c := 1), fI_sV (c := 2), fI_sV (c := 4), fI_sV (c := 5), fI_sV (c := 7), fI_sV (c := 8), fI_sV (c := 9), fI_sV (c := 10), fI_sV (c := 11), fI_sV (c := 12), fI_sV (c := 6), fL_sV (c := 9), fL_sV (c := 12), fI_sV_k, fL_sV_k, fV_sV_k, fI_wF, fI_wG, fI_wR, fL_wF, fL_wG, fL_wR, fV_wF, fV_wG, fV_wR, aF_sV, aG_sV, aR_sV, aF_wG, aF_wR, aG_wF, aG_wR, aR_wF, aR_wG, gM g, e]
  exact H _ fr_rfl
theorem c_unitsOf {d : Nat} {Q : JQ} (g : G h) {a : Int32} (H0 : ¬ (100 ≤ a.toInt ∧ a.toInt ≤ 999) → Q (some (.int (-1))) h) (H1 : ∀ r : Int32, 100 ≤ a.toInt → a.toInt ≤ 999 → r.toInt = lgU (a.toInt - 100).toNat → Q (some (.int r)) h) : jex X (d + 1) 95 [.ref 1, .int a] h Q := by
  have hL := tabF_v (f := 1) (n := (a.toInt - 100).toNat) (by decide)
  have e2 := g.2.2.2.1
  rw [jE_X3_unitsOf]
  refine jT_X3_unitsOf_0 ?_
  simp (decide := true) only [jgI_ob, jgf_ob, jgL_ob, jpI_ob, jpL_ob, jpR_ob, jpN_ob, jrc_ob, obj_sV, obj_wF, obj_wG, obj_wR, arr_sV, arr_wF, arr_wG, arr_wR, arL_sV, arL_wF, arL_wG, arL_wR, arR_sV, arR_wF, arR_wG, arR_wR, fI_sV (c := 0), fI_sV (c := 1), fI_sV (c := 2), fI_sV (c := 4), fI_sV (c := 5), fI_sV (c := 7), fI_sV (c := 8), fI_sV (c := 9), fI_sV (c := 10), fI_sV (c := 11), fI_sV (c := 12), fI_sV (c := 6), fL_sV (c := 9), fL_sV (c := 12), fI_sV_k, fL_sV_k, fV_sV_k, fI_wF, fI_wG, fI_wR, fL_wF, fL_wG, fL_wR, fV_wF, fV_wG, fV_wR, aF_sV, aG_sV, aR_sV, aF_wG, aF_wR, aG_wF, aG_wR, aR_wF, aR_wG, kC, kM, gO g, gF g, ti_lt, ti_clamp, tl, e2]
  refine ⟨fun c => H0 (by omega), fun c => ⟨fun c2 => H0 (by omega), fun c2 => ?_⟩⟩
  have e : (a - 100).toInt = a.toInt - 100 := (by simp only [Int32.toInt_add, Int32.toInt_sub, Int32.toInt_mul, Int32.toInt_neg, Int.bmod_def, tl]; omega)
  rw [vp_inI, e]
  refine ⟨by omega, H1 _ (by omega) (by omega) ?_⟩
  rw [hL (by omega), Nat.div_one]
theorem a_units (g : G h) {a : Int32} : AGR X 94 96 [.int a] h (fun h2 => fr [] [] h h2) := by
  intro Q K
  rw [jE_X11_units]
  refine jT_X11_units_0 ?_
  simp (decide := true) only [jgI_ob, jgf_ob, jgL_ob, jpI_ob, jpL_ob, jpR_ob, jpN_ob, jrc_ob, obj_sV, obj_wF, obj_wG, obj_wR, arr_sV, arr_wF, arr_wG, arr_wR, arL_sV, arL_wF, arL_wG, arL_wR, arR_sV, arR_wF, arR_wG, arR_wR, fI_sV (c := 0), fI_sV (c := 1), fI_sV (c := 2), fI_sV (c := 4), fI_sV (c := 5), fI_sV (c := 7), fI_sV (c := 8), fI_sV (c := 9), fI_sV (c := 10), fI_sV (c := 11), fI_sV (c := 12), fI_sV (c := 6), fL_sV (c := 9), fL_sV (c := 12), fI_sV_k, fL_sV_k, fV_sV_k, fI_wF, fI_wG, fI_wR, fL_wF, fL_wG, fL_wR, fV_wF, fV_wG, fV_wR, aF_sV, aG_sV, aR_sV, aF_wG, aF_wR, aG_wF, aG_wR, aR_wF, aR_wG, gO g, gF g]
  refine c_unitsOf g (fun c => ?_) (fun r c1 c2 hr => ?_)
  · refine K _ _ (fun Q2 H => ?_)
    rw [jE_X12_units]
    refine jT_X12_units_0 (c_isDigits (fun c3 => ?_) (fun c3 c4 => absurd ⟨c3, c4⟩ c))
    exact jif_t rfl (H _ fr_rfl)
  · refine K _ _ (fun Q2 H => ?_)
    rw [jE_X12_units]
    refine jT_X12_units_0 (c_isDigits (fun c3 => absurd ⟨c1, c2⟩ c3) (fun c3 c4 => ?_))
    refine jif_n (by decide) ?_
    have e2 := g.2.2.2.2.2.2.1
    have hm := muF_v (m := a.toInt.toNat) (by omega) (by omega)
    simp (decide := true) only [jgI_ob, jgf_ob, jgL_ob, jpI_ob, jpL_ob, jpR_ob, jpN_ob, jrc_ob, obj_sV, obj_wF, obj_wG, obj_wR, arr_sV, arr_wF, arr_wG, arr_wR, arL_sV, arL_wF, arL_wG, arL_wR, arR_sV, arR_wF, arR_wG, arR_wR, fI_sV (c := 0), fI_sV (c := 1), fI_sV (c := 2), fI_sV (c := 4), fI_sV (c := 5), fI_sV (c := 7), fI_sV (c := 8), fI_sV (c := 9), fI_sV (c := 10), fI_sV (c := 11), fI_sV (c := 12), fI_sV (c := 6), fL_sV (c := 9), fL_sV (c := 12), fI_sV_k, fL_sV_k, fV_sV_k, fI_wF, fI_wG, fI_wR, fL_wF, fL_wG, fL_wR, fV_wF, fV_wG, fV_wR, aF_sV, aG_sV, aR_sV, aF_wG, aF_wR, aG_wF, aG_wR, aR_wF, aR_wG, kC, kM, gM g, gN g, vp_inI, ti_clamp, e2]
    refine ⟨by omega, ?_⟩
    have : muF a.toInt.toNat = r := by
      rw [ti_eq, hm, hr]
      congr 2
      omega
    rw [this]
    exact H _ fr_rfl
theorem a_back (g : G h) (x : TP h) {a : Int32} : AGR X 34 35 [.int a] h (fun h2 => fr [] [(7, 1), (81, 1)] h h2 ∧ TP h2) := by
  obtain ⟨e, x0, x1, x2⟩ := id x
  intro Q K
  rw [jE_X11_back]
  refine jT_X11_back_0 ?_
  simp (decide := true) only [jgI_ob, jgf_ob, jgL_ob, jpI_ob, jpL_ob, jpR_ob, jpN_ob, jrc_ob, obj_sV, obj_wF, obj_wG, obj_wR, arr_sV, arr_wF, arr_wG, arr_wR, arL_sV, arL_wF, arL_wG, arL_wR, arR_sV, arR_wF, arR_wG, arR_wR, fI_sV (c := 0), fI_sV (c := 1), fI_sV (c := 2), fI_sV (c := 4), fI_sV (c := 5), fI_sV (c := 7), fI_sV (c := 8), fI_sV (c := 9), fI_sV (c := 10), fI_sV (c := 11), fI_sV (c := 12), fI_sV (c := 6), fL_sV (c := 9), fL_sV (c := 12), fI_sV_k, fL_sV_k, fV_sV_k, fI_wF, fI_wG, fI_wR, fL_wF, fL_wG, fL_wR, fV_wF, fV_wG, fV_wR, aF_sV, aG_sV, aR_sV, aF_wG, aF_wR, aG_wF, aG_wR, aR_wF, aR_wG, gO g, gF g, ti_lt, tl, jcat1]
  refine ⟨fun c => ?_, fun c => ⟨fun c2 => ?_, fun c2 => ?_⟩⟩
  · refine K _ _ (fun Q2 H => ?_)
    rw [jE_X12_back]
    refine jT_X12_back_0 ?_
    simp (decide := true) only [jgI_ob, jgf_ob, jgL_ob, jpI_ob, jpL_ob, jpR_ob, jpN_ob, jrc_ob, obj_sV, obj_wF, obj_wG, obj_wR, arr_sV, arr_wF, arr_wG, arr_wR, arL_sV, arL_wF, arL_wG, arL_wR, arR_sV, arR_wF, arR_wG, arR_wR, fI_sV (c := 0), fI_sV (c := 1), fI_sV (c := 2), fI_sV (c := 4), fI_sV (c := 5), fI_sV (c := 7), fI_sV (c := 8), fI_sV (c := 9), fI_sV (c := 10), fI_sV (c := 11), fI_sV (c := 12), fI_sV (c := 6), fL_sV (c := 9), fL_sV (c := 12), fI_sV_k, fL_sV_k, fV_sV_k, fI_wF, fI_wG, fI_wR, fL_wF, fL_wG, fL_wR, fV_wF, fV_wG, fV_wR, aF_sV, aG_sV, aR_sV, aF_wG, aF_wR, aG_wF, aG_wR, aR_wF, aR_wG, gM g, ti_lt, tl, e]
    repeat (first | refine jif_t (by omega) ?_ | refine jif_n (by omega) ?_ | refine ⟨by omega, ?_⟩)
    exact H _ ⟨fr_rfl, x⟩
  · refine K _ _ (fun Q2 H => ?_)
    rw [jE_X12_back]
    refine jT_X12_back_0 ?_
    simp (decide := true) only [jgI_ob, jgf_ob, jgL_ob, jpI_ob, jpL_ob, jpR_ob, jpN_ob, jrc_ob, obj_sV, obj_wF, obj_wG, obj_wR, arr_sV, arr_wF, arr_wG, arr_wR, arL_sV, arL_wF, arL_wG, arL_wR, arR_sV, arR_wF, arR_wG, arR_wR, fI_sV (c := 0), fI_sV (c := 1), fI_sV (c := 2), fI_sV (c := 4), fI_sV (c := 5), fI_sV (c := 7), fI_sV (c := 8), fI_sV (c := 9), fI_sV (c := 10), fI_sV (c := 11), fI_sV (c := 12), fI_sV (c := 6), fL_sV (c := 9), fL_sV (c := 12), fI_sV_k, fL_sV_k, fV_sV_k, fI_wF, fI_wG, fI_wR, fL_wF, fL_wG, fL_wR, fV_wF, fV_wG, fV_wR, aF_sV, aG_sV, aR_sV, aF_wG, aF_wR, aG_wF, aG_wR, aR_wF, aR_wG, gM g, ti_lt, tl, e]
    repeat (first | refine jif_t (by omega) ?_ | refine jif_n (by omega) ?_ | refine ⟨by omega, ?_⟩)
    exact H _ ⟨fr_rfl, x⟩
  · refine K _ _ (fun Q2 H => ?_)
    rw [jE_X12_back]
    refine jT_X12_back_0 ?_
    have ew : fI (sV h 7 1 (.int (fI h 7 1 - a))) 81 1 = fI h 7 1 := by rw [fI_sV_ne (by decide)]; exact e
    have ed : (fI h 7 1 - a).toInt = (fI h 7 1).toInt - a.toInt := (by simp only [Int32.toInt_add, Int32.toInt_sub, Int32.toInt_mul, Int32.toInt_neg, Int.bmod_def, tl]; omega)
    simp (decide := true) only [jgI_ob, jgf_ob, jgL_ob, jpI_ob, jpL_ob, jpR_ob, jpN_ob, jrc_ob, obj_sV, obj_wF, obj_wG, obj_wR, arr_sV, arr_wF, arr_wG, arr_wR, arL_sV, arL_wF, arL_wG, arL_wR, arR_sV, arR_wF, arR_wG, arR_wR, fI_sV (c := 0), fI_sV (c := 1), fI_sV (c := 2), fI_sV (c := 4), fI_sV (c := 5), fI_sV (c := 7), fI_sV (c := 8), fI_sV (c := 9), fI_sV (c := 10), fI_sV (c := 11), fI_sV (c := 12), fI_sV (c := 6), fL_sV (c := 9), fL_sV (c := 12), fI_sV_k, fL_sV_k, fV_sV_k, fI_wF, fI_wG, fI_wR, fL_wF, fL_wG, fL_wR, fV_wF, fV_wG, fV_wR, aF_sV, aG_sV, aR_sV, aF_wG, aF_wR, aG_wF, aG_wR, aR_wF, aR_wG, gM g, ti_lt, tl, ew]
    repeat (first | refine jif_t (by omega) ?_ | refine jif_n (by omega) ?_ | refine ⟨by omega, ?_⟩)
    refine H _ ⟨fr_sV (by decide) (fr_sV (by decide) fr_rfl), ?_⟩
    unfold TP
    simp (decide := true) only [jgI_ob, jgf_ob, jgL_ob, jpI_ob, jpL_ob, jpR_ob, jpN_ob, jrc_ob, obj_sV, obj_wF, obj_wG, obj_wR, arr_sV, arr_wF, arr_wG, arr_wR, arL_sV, arL_wF, arL_wG, arL_wR, arR_sV, arR_wF, arR_wG, arR_wR, fI_sV (c := 0), fI_sV (c := 1), fI_sV (c := 2), fI_sV (c := 4), fI_sV (c := 5), fI_sV (c := 7), fI_sV (c := 8), fI_sV (c := 9), fI_sV (c := 10), fI_sV (c := 11), fI_sV (c := 12), fI_sV (c := 6), fL_sV (c := 9), fL_sV (c := 12), fI_sV_k, fL_sV_k, fV_sV_k, fI_wF, fI_wG, fI_wR, fL_wF, fL_wG, fL_wR, fV_wF, fV_wG, fV_wR, aF_sV, aG_sV, aR_sV, aF_wG, aF_wR, aG_wF, aG_wR, aR_wF, aR_wG, gM g, gO g, fI_sV_ne]
    exact ⟨trivial, by omega, by omega, fun i hi => x2 i (by omega)⟩
theorem a_steps (g : G h) (x : ST h) {a e : Int32} : AGR X 112 113 [.int a, .int e] h (fun h2 => fr [] [(6, 0), (6, 1), (81, 10), (81, 11)] h h2 ∧ ST h2) := by
  intro Q K
  rw [jE_X11_steps]
  refine jT_X11_steps_0 ?_
  simp (decide := true) only [jgI_ob, jgf_ob, jgL_ob, jpI_ob, jpL_ob, jpR_ob, jpN_ob, jrc_ob, obj_sV, obj_wF, obj_wG, obj_wR, arr_sV, arr_wF, arr_wG, arr_wR, arL_sV, arL_wF, arL_wG, arL_wR, arR_sV, arR_wF, arR_wG, arR_wR, fI_sV (c := 0), fI_sV (c := 1), fI_sV (c := 2), fI_sV (c := 4), fI_sV (c := 5), fI_sV (c := 7), fI_sV (c := 8), fI_sV (c := 9), fI_sV (c := 10), fI_sV (c := 11), fI_sV (c := 12), fI_sV (c := 6), fL_sV (c := 9), fL_sV (c := 12), fI_sV_k, fL_sV_k, fV_sV_k, fI_wF, fI_wG, fI_wR, fL_wF, fL_wG, fL_wR, fV_wF, fV_wG, fV_wR, aF_sV, aG_sV, aR_sV, aF_wG, aF_wR, aG_wF, aG_wR, aR_wF, aR_wG, gO g, gF g, fV_sV_ne, ti_lt, tl, true_and]
  refine ⟨fun c => ?_, fun c => ⟨fun c2 => ?_, fun c2 => ⟨fun c3 => ?_, fun c3 => ⟨fun c4 => ?_, fun c4 => ?_⟩⟩⟩⟩
  all_goals
    refine K _ _ (fun Q2 H => ?_)
    rw [jE_X12_steps]
    refine jT_X12_steps_0 ?_
    simp (decide := true) only [jgI_ob, jgf_ob, jgL_ob, jpI_ob, jpL_ob, jpR_ob, jpN_ob, jrc_ob, obj_sV, obj_wF, obj_wG, obj_wR, arr_sV, arr_wF, arr_wG, arr_wR, arL_sV, arL_wF, arL_wG, arL_wR, arR_sV, arR_wF, arR_wG, arR_wR, fI_sV (c := 0), fI_sV (c := 1), fI_sV (c := 2), fI_sV (c := 4), fI_sV (c := 5), fI_sV (c := 7), fI_sV (c := 8), fI_sV (c := 9), fI_sV (c := 10), fI_sV (c := 11), fI_sV (c := 12), fI_sV (c := 6), fL_sV (c := 9), fL_sV (c := 12), fI_sV_k, fL_sV_k, fV_sV_k, fI_wF, fI_wG, fI_wR, fL_wF, fL_wG, fL_wR, fV_wF, fV_wG, fV_wR, aF_sV, aG_sV, aR_sV, aF_wG, aF_wR, aG_wF, aG_wR, aR_wF, aR_wG, gM g, ti_lt, tl, true_and]
    repeat (first | refine jif_t (by omega) ?_ | refine jif_n (by omega) ?_ | refine ⟨by omega, ?_⟩)
  · exact H _ ⟨fr_rfl, x⟩
  · exact H _ ⟨fr_rfl, x⟩
  · exact H _ ⟨fr_rfl, x⟩
  · exact H _ ⟨fr_rfl, x⟩
  · refine H _ ⟨fr_sV (by decide) (fr_sV (by decide) (fr_sV (by decide) (fr_sV (by decide) fr_rfl))), ?_⟩
    unfold ST
    simp (decide := true) only [jgI_ob, jgf_ob, jgL_ob, jpI_ob, jpL_ob, jpR_ob, jpN_ob, jrc_ob, obj_sV, obj_wF, obj_wG, obj_wR, arr_sV, arr_wF, arr_wG, arr_wR, arL_sV, arL_wF, arL_wG, arL_wR, arR_sV, arR_wF, arR_wG, arR_wR, fI_sV (c := 0), fI_sV (c := 1), fI_sV (c := 2), fI_sV (c := 4), fI_sV (c := 5), fI_sV (c := 7), fI_sV (c := 8), fI_sV (c := 9), fI_sV (c := 10), fI_sV (c := 11), fI_sV (c := 12), fI_sV (c := 6), fL_sV (c := 9), fL_sV (c := 12), fI_sV_k, fL_sV_k, fV_sV_k, fI_wF, fI_wG, fI_wR, fL_wF, fL_wG, fL_wR, fV_wF, fV_wG, fV_wR, aF_sV, aG_sV, aR_sV, aF_wG, aF_wR, aG_wF, aG_wR, aR_wF, aR_wG, gM g, gO g, fI_sV_ne]
    exact ⟨trivial, trivial, by omega, by omega, by omega, by omega⟩
theorem a_take (g : G h) (x : RB h n m ρ τ b f t fl) (y : HD B h n ρ) (hB : 0 ≤ B) {a : Int32} : AGR X 134 137 [.int a] h (fun h2 => fr [] [(6, 2), (6, 3), (6, 4), (6, 5), (6, 6), (6, 7), (81, 13), (81, 14), (81, 15), (81, 16), (81, 17)] h h2 ∧ HD B h2 n ρ) := by
  intro Q K
  rw [jE_X11_take]
  refine jT_X11_take_0 ?_
  simp (decide := true) only [jgI_ob, jgf_ob, jgL_ob, jpI_ob, jpL_ob, jpR_ob, jpN_ob, jrc_ob, obj_sV, obj_wF, obj_wG, obj_wR, arr_sV, arr_wF, arr_wG, arr_wR, arL_sV, arL_wF, arL_wG, arL_wR, arR_sV, arR_wF, arR_wG, arR_wR, fI_sV (c := 0), fI_sV (c := 1), fI_sV (c := 2), fI_sV (c := 4), fI_sV (c := 5), fI_sV (c := 7), fI_sV (c := 8), fI_sV (c := 9), fI_sV (c := 10), fI_sV (c := 11), fI_sV (c := 12), fI_sV (c := 6), fL_sV (c := 9), fL_sV (c := 12), fI_sV_k, fL_sV_k, fV_sV_k, fI_wF, fI_wG, fI_wR, fL_wF, fL_wG, fL_wR, fV_wF, fV_wG, fV_wR, aF_sV, aG_sV, aR_sV, aF_wG, aF_wR, aG_wF, aG_wR, aR_wF, aR_wG, gO g, gF g]
  refine c_ruleAt g x (fun c => ?_) (fun r hr er => ?_)
  · dsimp only [jrA, jisr, jnul]
    refine ⟨by decide, ?_⟩
    refine K _ _ (fun Q2 H => ?_)
    rw [jE_X12_take]
    refine jT_X12_take_0 ?_
    simp (decide := true) only [jgI_ob, jgf_ob, jgL_ob, jpI_ob, jpL_ob, jpR_ob, jpN_ob, jrc_ob, obj_sV, obj_wF, obj_wG, obj_wR, arr_sV, arr_wF, arr_wG, arr_wR, arL_sV, arL_wF, arL_wG, arL_wR, arR_sV, arR_wF, arR_wG, arR_wR, fI_sV (c := 0), fI_sV (c := 1), fI_sV (c := 2), fI_sV (c := 4), fI_sV (c := 5), fI_sV (c := 7), fI_sV (c := 8), fI_sV (c := 9), fI_sV (c := 10), fI_sV (c := 11), fI_sV (c := 12), fI_sV (c := 6), fL_sV (c := 9), fL_sV (c := 12), fI_sV_k, fL_sV_k, fV_sV_k, fI_wF, fI_wG, fI_wR, fL_wF, fL_wG, fL_wR, fV_wF, fV_wG, fV_wR, aF_sV, aG_sV, aR_sV, aF_wG, aF_wR, aG_wF, aG_wR, aR_wF, aR_wG, gM g]
    refine c_isRule g x (fun c2 => ?_) (fun r hr er => absurd ⟨by omega, by omega⟩ c)
    dsimp only [jrI]
    exact jif_t rfl ⟨by decide, H _ ⟨fr_rfl, y⟩⟩
  · dsimp only [jrA, jisr, jnul]
    simp (decide := true) only [jgI_ob, jgf_ob, jgL_ob, jpI_ob, jpL_ob, jpR_ob, jpN_ob, jrc_ob, obj_sV, obj_wF, obj_wG, obj_wR, arr_sV, arr_wF, arr_wG, arr_wR, arL_sV, arL_wF, arL_wG, arL_wR, arR_sV, arR_wF, arR_wG, arR_wR, fI_sV (c := 0), fI_sV (c := 1), fI_sV (c := 2), fI_sV (c := 4), fI_sV (c := 5), fI_sV (c := 7), fI_sV (c := 8), fI_sV (c := 9), fI_sV (c := 10), fI_sV (c := 11), fI_sV (c := 12), fI_sV (c := 6), fL_sV (c := 9), fL_sV (c := 12), fI_sV_k, fL_sV_k, fV_sV_k, fI_wF, fI_wG, fI_wR, fL_wF, fL_wG, fL_wR, fV_wF, fV_wG, fV_wR, aF_sV, aG_sV, aR_sV, aF_wG, aF_wR, aG_wF, aG_wR, aR_wF, aR_wG, gO g, gF g]
    rw [jE_X2_pickUp]
    refine jT_X2_pickUp_0 ?_
    dsimp only [jisr]
    simp (decide := true) only [jgI_ob, jgf_ob, jgL_ob, jpI_ob, jpL_ob, jpR_ob, jpN_ob, jrc_ob, obj_sV, obj_wF, obj_wG, obj_wR, arr_sV, arr_wF, arr_wG, arr_wR, arL_sV, arL_wF, arL_wG, arL_wR, arR_sV, arR_wF, arR_wG, arR_wR, fI_sV (c := 0), fI_sV (c := 1), fI_sV (c := 2), fI_sV (c := 4), fI_sV (c := 5), fI_sV (c := 7), fI_sV (c := 8), fI_sV (c := 9), fI_sV (c := 10), fI_sV (c := 11), fI_sV (c := 12), fI_sV (c := 6), fL_sV (c := 9), fL_sV (c := 12), fI_sV_k, fL_sV_k, fV_sV_k, fI_wF, fI_wG, fI_wR, fL_wF, fL_wG, fL_wR, fV_wF, fV_wG, fV_wR, aF_sV, aG_sV, aR_sV, aF_wG, aF_wR, aG_wF, aG_wR, aR_wF, aR_wG, gO g, gF g]
    refine c_setAll (by simp (decide := true) only [jgI_ob, jgf_ob, jgL_ob, jpI_ob, jpL_ob, jpR_ob, jpN_ob, jrc_ob, obj_sV, obj_wF, obj_wG, obj_wR, arr_sV, arr_wF, arr_wG, arr_wR, arL_sV, arL_wF, arL_wG, arL_wR, arR_sV, arR_wF, arR_wG, arR_wR, fI_sV (c := 0), fI_sV (c := 1), fI_sV (c := 2), fI_sV (c := 4), fI_sV (c := 5), fI_sV (c := 7), fI_sV (c := 8), fI_sV (c := 9), fI_sV (c := 10), fI_sV (c := 11), fI_sV (c := 12), fI_sV (c := 6), fL_sV (c := 9), fL_sV (c := 12), fI_sV_k, fL_sV_k, fV_sV_k, fI_wF, fI_wG, fI_wR, fL_wF, fL_wG, fL_wR, fV_wF, fV_wG, fV_wR, aF_sV, aG_sV, aR_sV, aF_wG, aF_wR, aG_wF, aG_wR, aR_wF, aR_wG, gO g]) ?_
    dsimp only [jrN]
    refine ⟨by decide, ?_⟩
    refine K _ _ (fun Q2 H => ?_)
    rw [jE_X12_take]
    refine jT_X12_take_0 ?_
    have a1 : fr [] [(6, 2), (6, 3), (6, 4), (6, 5), (6, 6), (6, 7), (81, 13), (81, 14), (81, 15), (81, 16), (81, 17)] h (sV (sV (sV (sV (sV (sV h 6 2 (.ref (ρ r))) 6 3 (.int a)) 6 4 (.int 0)) 6 5 (.int 0)) 6 6 (.int 0)) 6 7 (.int 0)) := fr_sV (by decide) (fr_sV (by decide) (fr_sV (by decide) (fr_sV (by decide) (fr_sV (by decide) (fr_sV (by decide) fr_rfl)))))
    have g1 := G_fr g rfl a1
    have x1 := RB_fr x a1 rfl
    simp (decide := true) only [jgI_ob, jgf_ob, jgL_ob, jpI_ob, jpL_ob, jpR_ob, jpN_ob, jrc_ob, obj_sV, obj_wF, obj_wG, obj_wR, arr_sV, arr_wF, arr_wG, arr_wR, arL_sV, arL_wF, arL_wG, arL_wR, arR_sV, arR_wF, arR_wG, arR_wR, fI_sV (c := 0), fI_sV (c := 1), fI_sV (c := 2), fI_sV (c := 4), fI_sV (c := 5), fI_sV (c := 7), fI_sV (c := 8), fI_sV (c := 9), fI_sV (c := 10), fI_sV (c := 11), fI_sV (c := 12), fI_sV (c := 6), fL_sV (c := 9), fL_sV (c := 12), fI_sV_k, fL_sV_k, fV_sV_k, fI_wF, fI_wG, fI_wR, fL_wF, fL_wG, fL_wR, fV_wF, fV_wG, fV_wR, aF_sV, aG_sV, aR_sV, aF_wG, aF_wR, aG_wF, aG_wR, aR_wF, aR_wG, gM g]
    refine c_isRule g1 x1 (fun c2 => absurd ⟨by omega, by omega⟩ c2) (fun r' hr' er' => ?_)
    dsimp only [jrI]
    refine jif_n (by decide) ?_
    simp (decide := true) only [jgI_ob, jgf_ob, jgL_ob, jpI_ob, jpL_ob, jpR_ob, jpN_ob, jrc_ob, obj_sV, obj_wF, obj_wG, obj_wR, arr_sV, arr_wF, arr_wG, arr_wR, arL_sV, arL_wF, arL_wG, arL_wR, arR_sV, arR_wF, arR_wG, arR_wR, fI_sV (c := 0), fI_sV (c := 1), fI_sV (c := 2), fI_sV (c := 4), fI_sV (c := 5), fI_sV (c := 7), fI_sV (c := 8), fI_sV (c := 9), fI_sV (c := 10), fI_sV (c := 11), fI_sV (c := 12), fI_sV (c := 6), fL_sV (c := 9), fL_sV (c := 12), fI_sV_k, fL_sV_k, fV_sV_k, fI_wF, fI_wG, fI_wR, fL_wF, fL_wG, fL_wR, fV_wF, fV_wG, fV_wR, aF_sV, aG_sV, aR_sV, aF_wG, aF_wR, aG_wF, aG_wR, aR_wF, aR_wG, gM g, true_and]
    refine H _ ⟨fr_sV (by decide) (fr_sV (by decide) (fr_sV (by decide) (fr_sV (by decide) (fr_sV (by decide) a1)))), ?_⟩
    unfold HD
    simp (decide := true) only [jgI_ob, jgf_ob, jgL_ob, jpI_ob, jpL_ob, jpR_ob, jpN_ob, jrc_ob, obj_sV, obj_wF, obj_wG, obj_wR, arr_sV, arr_wF, arr_wG, arr_wR, arL_sV, arL_wF, arL_wG, arL_wR, arR_sV, arR_wF, arR_wG, arR_wR, fI_sV (c := 0), fI_sV (c := 1), fI_sV (c := 2), fI_sV (c := 4), fI_sV (c := 5), fI_sV (c := 7), fI_sV (c := 8), fI_sV (c := 9), fI_sV (c := 10), fI_sV (c := 11), fI_sV (c := 12), fI_sV (c := 6), fL_sV (c := 9), fL_sV (c := 12), fI_sV_k, fL_sV_k, fV_sV_k, fI_wF, fI_wG, fI_wR, fL_wF, fL_wG, fL_wR, fV_wF, fV_wG, fV_wR, aF_sV, aG_sV, aR_sV, aF_wG, aF_wR, aG_wF, aG_wR, aR_wF, aR_wG, gM g, gO g, fI_sV_ne, fV_sV_ne, fR_sV (c := 2), tl]
    repeat (first | trivial | omega | (refine ⟨?_, ?_⟩; first | trivial | omega | assumption))
    exact Or.inr ⟨r, hr, er, rfl⟩
theorem a_state (g : G h) (y : HD B h n ρ) {a : Int32} : AGR X 160 161 [.int a] h (fun h2 => fr [] [] h h2) := by
  obtain ⟨y1, y2, y3, y4, y5, -, -, -, -, -, -, -, -, y6⟩ := y
  intro Q K
  rw [jE_X11_state]
  refine jT_X11_state_0 ?_
  simp (decide := true) only [jgI_ob, jgf_ob, jgL_ob, jpI_ob, jpL_ob, jpR_ob, jpN_ob, jrc_ob, obj_sV, obj_wF, obj_wG, obj_wR, arr_sV, arr_wF, arr_wG, arr_wR, arL_sV, arL_wF, arL_wG, arL_wR, arR_sV, arR_wF, arR_wG, arR_wR, fI_sV (c := 0), fI_sV (c := 1), fI_sV (c := 2), fI_sV (c := 4), fI_sV (c := 5), fI_sV (c := 7), fI_sV (c := 8), fI_sV (c := 9), fI_sV (c := 10), fI_sV (c := 11), fI_sV (c := 12), fI_sV (c := 6), fL_sV (c := 9), fL_sV (c := 12), fI_sV_k, fL_sV_k, fV_sV_k, fI_wF, fI_wG, fI_wR, fL_wF, fL_wG, fL_wR, fV_wF, fV_wG, fV_wR, aF_sV, aG_sV, aR_sV, aF_wG, aF_wR, aG_wF, aG_wR, aR_wF, aR_wG, gO g, gF g]
  rcases y6 with ⟨z1, z2⟩ | ⟨r, z0, z1, z2⟩
  · rw [z2]
    dsimp only [jnul]
    refine K _ _ (fun Q2 H => ?_)
    rw [jE_X12_state]
    refine jT_X12_state_0 ?_
    simp (decide := true) only [jgI_ob, jgf_ob, jgL_ob, jpI_ob, jpL_ob, jpR_ob, jpN_ob, jrc_ob, obj_sV, obj_wF, obj_wG, obj_wR, arr_sV, arr_wF, arr_wG, arr_wR, arL_sV, arL_wF, arL_wG, arL_wR, arR_sV, arR_wF, arR_wG, arR_wR, fI_sV (c := 0), fI_sV (c := 1), fI_sV (c := 2), fI_sV (c := 4), fI_sV (c := 5), fI_sV (c := 7), fI_sV (c := 8), fI_sV (c := 9), fI_sV (c := 10), fI_sV (c := 11), fI_sV (c := 12), fI_sV (c := 6), fL_sV (c := 9), fL_sV (c := 12), fI_sV_k, fL_sV_k, fV_sV_k, fI_wF, fI_wG, fI_wR, fL_wF, fL_wG, fL_wR, fV_wF, fV_wG, fV_wR, aF_sV, aG_sV, aR_sV, aF_wG, aF_wR, aG_wF, aG_wR, aR_wF, aR_wG, gM g, y1, ti_lt, tl]
    repeat (first | refine jif_t (by omega) ?_ | refine jif_n (by omega) ?_ | refine ⟨by omega, ?_⟩)
    exact H _ fr_rfl
  · rw [z2]
    dsimp only [jnul]
    refine ⟨fun c => ?_, fun c => ⟨fun c2 => ?_, fun c2 => ⟨fun c3 => ?_, fun c3 => ⟨fun c4 => ?_, fun c4 => ⟨fun c5 => ?_, fun c5 => ?_⟩⟩⟩⟩⟩
    all_goals
      refine K _ _ (fun Q2 H => ?_)
      rw [jE_X12_state]
      refine jT_X12_state_0 ?_
      simp (decide := true) only [jgI_ob, jgf_ob, jgL_ob, jpI_ob, jpL_ob, jpR_ob, jpN_ob, jrc_ob, obj_sV, obj_wF, obj_wG, obj_wR, arr_sV, arr_wF, arr_wG, arr_wR, arL_sV, arL_wF, arL_wG, arL_wR, arR_sV, arR_wF, arR_wG, arR_wR, fI_sV (c := 0), fI_sV (c := 1), fI_sV (c := 2), fI_sV (c := 4), fI_sV (c := 5), fI_sV (c := 7), fI_sV (c := 8), fI_sV (c := 9), fI_sV (c := 10), fI_sV (c := 11), fI_sV (c := 12), fI_sV (c := 6), fL_sV (c := 9), fL_sV (c := 12), fI_sV_k, fL_sV_k, fV_sV_k, fI_wF, fI_wG, fI_wR, fL_wF, fL_wG, fL_wR, fV_wF, fV_wG, fV_wR, aF_sV, aG_sV, aR_sV, aF_wG, aF_wR, aG_wF, aG_wR, aR_wF, aR_wG, gM g, y1, y2, y3, y4, y5, ti_lt, tl]
      refine jif_n (by omega) ?_
      repeat (first | refine jif_t (by assumption) ?_ | refine jif_n (by assumption) ?_)
      exact H _ fr_rfl
theorem c_draw {d : Nat} {Q : JQ} (g : G h) {a b c e : Int32} (H0 : ¬ (1 ≤ a.toInt ∧ a.toInt ≤ 3 ∧ 1 ≤ b.toInt ∧ b.toInt ≤ 3 ∧ 1 ≤ c.toInt ∧ c.toInt ≤ 7 ∧ 1 ≤ e.toInt ∧ e.toInt ≤ 9) → Q (some (.int 0)) h) (H1 : (1 ≤ a.toInt ∧ a.toInt ≤ 3 ∧ 1 ≤ b.toInt ∧ b.toInt ≤ 3 ∧ 1 ≤ c.toInt ∧ c.toInt ≤ 7 ∧ 1 ≤ e.toInt ∧ e.toInt ≤ 9) → Q (some (.int 1)) (sV (sV (sV (sV h 70 0 (.int a)) 70 1 (.int b)) 70 2 (.int c)) 70 3 (.int e))) : jex X (d + 1) 261 [.ref 70, .int a, .int b, .int c, .int e] h Q := by
  rw [jE_X1_draw]
  refine jT_X1_draw_0 ?_
  simp (decide := true) only [jgI_ob, jgf_ob, jgL_ob, jpI_ob, jpL_ob, jpR_ob, jpN_ob, jrc_ob, obj_sV, obj_wF, obj_wG, obj_wR, arr_sV, arr_wF, arr_wG, arr_wR, arL_sV, arL_wF, arL_wG, arL_wR, arR_sV, arR_wF, arR_wG, arR_wR, fI_sV (c := 0), fI_sV (c := 1), fI_sV (c := 2), fI_sV (c := 4), fI_sV (c := 5), fI_sV (c := 7), fI_sV (c := 8), fI_sV (c := 9), fI_sV (c := 10), fI_sV (c := 11), fI_sV (c := 12), fI_sV (c := 6), fL_sV (c := 9), fL_sV (c := 12), fI_sV_k, fL_sV_k, fV_sV_k, fI_wF, fI_wG, fI_wR, fL_wF, fL_wG, fL_wR, fV_wF, fV_wG, fV_wR, aF_sV, aG_sV, aR_sV, aF_wG, aF_wR, aG_wF, aG_wR, aR_wF, aR_wG, gO g, ti_lt, tl, true_and, jif_T, jif_F]
  refine ⟨fun c => H0 (by omega), fun c => ⟨fun c2 => H0 (by omega), fun c2 => ⟨fun c3 => H0 (by omega), fun c3 => ⟨fun c4 => H0 (by omega), fun c4 => ⟨fun c5 => H0 (by omega), fun c5 => ⟨fun c6 => H0 (by omega), fun c6 => ⟨fun c7 => H0 (by omega), fun c7 => ⟨fun c8 => H0 (by omega), fun c8 => H1 (by omega)⟩⟩⟩⟩⟩⟩⟩⟩
theorem a_chart (g : G h) (x : CH h) {a b c e : Int32} : AGR X 260 262 [.int a, .int b, .int c, .int e] h (fun h2 => fr [] [(70, 0), (70, 1), (70, 2), (70, 3), (81, 70), (81, 71), (81, 72), (81, 73)] h h2 ∧ CH h2) := by
  intro Q K
  rw [jE_X11_chart]
  refine jT_X11_chart_0 ?_
  simp (decide := true) only [jgI_ob, jgf_ob, jgL_ob, jpI_ob, jpL_ob, jpR_ob, jpN_ob, jrc_ob, obj_sV, obj_wF, obj_wG, obj_wR, arr_sV, arr_wF, arr_wG, arr_wR, arL_sV, arL_wF, arL_wG, arL_wR, arR_sV, arR_wF, arR_wG, arR_wR, fI_sV (c := 0), fI_sV (c := 1), fI_sV (c := 2), fI_sV (c := 4), fI_sV (c := 5), fI_sV (c := 7), fI_sV (c := 8), fI_sV (c := 9), fI_sV (c := 10), fI_sV (c := 11), fI_sV (c := 12), fI_sV (c := 6), fL_sV (c := 9), fL_sV (c := 12), fI_sV_k, fL_sV_k, fV_sV_k, fI_wF, fI_wG, fI_wR, fL_wF, fL_wG, fL_wR, fV_wF, fV_wG, fV_wR, aF_sV, aG_sV, aR_sV, aF_wG, aF_wR, aG_wF, aG_wR, aR_wF, aR_wG, gO g, gF g]
  refine c_draw g (fun hc => ?_) (fun hc => ?_)
  · dsimp only [jrI]
    refine ⟨by decide, K _ _ (fun Q2 H => ?_)⟩
    rw [jE_X12_chart]
    refine jT_X12_chart_0 ?_
    simp (decide := true) only [jgI_ob, jgf_ob, jgL_ob, jpI_ob, jpL_ob, jpR_ob, jpN_ob, jrc_ob, obj_sV, obj_wF, obj_wG, obj_wR, arr_sV, arr_wF, arr_wG, arr_wR, arL_sV, arL_wF, arL_wG, arL_wR, arR_sV, arR_wF, arR_wG, arR_wR, fI_sV (c := 0), fI_sV (c := 1), fI_sV (c := 2), fI_sV (c := 4), fI_sV (c := 5), fI_sV (c := 7), fI_sV (c := 8), fI_sV (c := 9), fI_sV (c := 10), fI_sV (c := 11), fI_sV (c := 12), fI_sV (c := 6), fL_sV (c := 9), fL_sV (c := 12), fI_sV_k, fL_sV_k, fV_sV_k, fI_wF, fI_wG, fI_wR, fL_wF, fL_wG, fL_wR, fV_wF, fV_wG, fV_wR, aF_sV, aG_sV, aR_sV, aF_wG, aF_wR, aG_wF, aG_wR, aR_wF, aR_wG, gM g, ti_lt, tl, true_and]
    refine ⟨fun c => H _ ⟨fr_rfl, x⟩, fun c => ⟨fun c2 => H _ ⟨fr_rfl, x⟩, fun c2 => ⟨fun c3 => H _ ⟨fr_rfl, x⟩, fun c3 => ⟨fun c4 => H _ ⟨fr_rfl, x⟩, fun c4 => ⟨fun c5 => H _ ⟨fr_rfl, x⟩, fun c5 => ⟨fun c6 => H _ ⟨fr_rfl, x⟩, fun c6 => ⟨fun c7 => H _ ⟨fr_rfl, x⟩, fun c7 => ⟨fun c8 => H _ ⟨fr_rfl, x⟩, fun c8 => absurd (by omega) hc⟩⟩⟩⟩⟩⟩⟩⟩
  · dsimp only [jrI]
    refine ⟨by decide, K _ _ (fun Q2 H => ?_)⟩
    rw [jE_X12_chart]
    refine jT_X12_chart_0 ?_
    simp (decide := true) only [jgI_ob, jgf_ob, jgL_ob, jpI_ob, jpL_ob, jpR_ob, jpN_ob, jrc_ob, obj_sV, obj_wF, obj_wG, obj_wR, arr_sV, arr_wF, arr_wG, arr_wR, arL_sV, arL_wF, arL_wG, arL_wR, arR_sV, arR_wF, arR_wG, arR_wR, fI_sV (c := 0), fI_sV (c := 1), fI_sV (c := 2), fI_sV (c := 4), fI_sV (c := 5), fI_sV (c := 7), fI_sV (c := 8), fI_sV (c := 9), fI_sV (c := 10), fI_sV (c := 11), fI_sV (c := 12), fI_sV (c := 6), fL_sV (c := 9), fL_sV (c := 12), fI_sV_k, fL_sV_k, fV_sV_k, fI_wF, fI_wG, fI_wR, fL_wF, fL_wG, fL_wR, fV_wF, fV_wG, fV_wR, aF_sV, aG_sV, aR_sV, aF_wG, aF_wR, aG_wF, aG_wR, aR_wF, aR_wG, gM g, ti_lt, tl, true_and]
    repeat (first | refine jif_t (by omega) ?_ | refine jif_n (by omega) ?_ | refine ⟨by omega, ?_⟩)
    refine H _ ⟨fr_sV (by decide) (fr_sV (by decide) (fr_sV (by decide) (fr_sV (by decide) (fr_sV (by decide) (fr_sV (by decide) (fr_sV (by decide) (fr_sV (by decide) fr_rfl))))))), ?_⟩
    unfold CH
    simp (decide := true) only [jgI_ob, jgf_ob, jgL_ob, jpI_ob, jpL_ob, jpR_ob, jpN_ob, jrc_ob, obj_sV, obj_wF, obj_wG, obj_wR, arr_sV, arr_wF, arr_wG, arr_wR, arL_sV, arL_wF, arL_wG, arL_wR, arR_sV, arR_wF, arR_wG, arR_wR, fI_sV (c := 0), fI_sV (c := 1), fI_sV (c := 2), fI_sV (c := 4), fI_sV (c := 5), fI_sV (c := 7), fI_sV (c := 8), fI_sV (c := 9), fI_sV (c := 10), fI_sV (c := 11), fI_sV (c := 12), fI_sV (c := 6), fL_sV (c := 9), fL_sV (c := 12), fI_sV_k, fL_sV_k, fV_sV_k, fI_wF, fI_wG, fI_wR, fL_wF, fL_wG, fL_wR, fV_wF, fV_wG, fV_wR, aF_sV, aG_sV, aR_sV, aF_wG, aF_wR, aG_wF, aG_wR, aR_wF, aR_wG, gM g, gO g, fI_sV_ne]
    exact ⟨trivial, trivial, trivial, trivial, hc⟩
end EASY
