/-! RULES, SCALES, FLAWS -/
/-- cells only came behind -/
def fe (h h1 : JH) : Prop := h.length ≤ h1.length ∧ ∀ p, p < h.length → h1[p]? = h[p]?
section FE
variable {h h1 : JH}
theorem fe_app {L : JH} : fe h (h ++ L) := ⟨by rw [List.length_append]; omega, fun p hp => List.getElem?_append_left hp⟩
theorem fe_sh (a : fe h h1) {p : Nat} (hp : p < h.length) : sh h1 p = sh h p := by unfold sh; rw [a.2 p hp]
theorem fe_V (a : fe h h1) {p k : Nat} (hp : p < h.length) : fV h1 p k = fV h p k := by unfold fV; rw [a.2 p hp]
theorem fe_I (a : fe h h1) {p k : Nat} (hp : p < h.length) : fI h1 p k = fI h p k := by unfold fI; rw [fe_V a hp]
theorem fe_F (a : fe h h1) {p : Nat} (hp : p < h.length) : aF h1 p = aF h p := by unfold aF; rw [a.2 p hp]
theorem fe_G (a : fe h h1) {p : Nat} (hp : p < h.length) : aG h1 p = aG h p := by unfold aG; rw [a.2 p hp]
theorem fe_R (a : fe h h1) {p : Nat} (hp : p < h.length) : aR h1 p = aR h p := by unfold aR; rw [a.2 p hp]
theorem ob_lt {p c : Nat} (o : obj h p c) : p < h.length := sh_lt o
theorem ar_lt {p n : Nat} {t : FieldType} (o : arr h p t n) : p < h.length := sh_lt o
theorem aR_lt {p c n : Nat} (o : arR h p c n) : p < h.length := by obtain ⟨q, _, o⟩ := o; exact sh_lt o
theorem fe_ob (a : fe h h1) {p c : Nat} (o : obj h p c) : obj h1 p c := by unfold obj; rw [fe_sh a (ob_lt o)]; exact o
theorem fe_ar (a : fe h h1) {p n : Nat} {t : FieldType} (o : arr h p t n) : arr h1 p t n := by unfold arr; rw [fe_sh a (ar_lt o)]; exact o
theorem fe_aR (a : fe h h1) {p c n : Nat} (o : arR h p c n) : arR h1 p c n := by
  have := aR_lt o
  obtain ⟨q, e, o⟩ := o
  exact ⟨q, e, by rw [fe_sh a this]; exact o⟩
theorem gt_low : ∀ t, t ∈ gtab → t.1 < 126 := by
  have h : gtab.all (fun t => decide (t.1 < 126)) = true := rfl
  exact fun t ht => of_decide_eq_true (List.all_eq_true.mp h t ht)
theorem G_fe (g : G h) (a : fe h h1) : G h1 := by
  have hl := gL g
  obtain ⟨⟨q6, q10, e6, e10, hw⟩, hF, hK, hT⟩ := g
  refine ⟨⟨q6, q10, e6, e10, fun p hp => by rw [fe_sh a (by omega)]; exact hw p hp⟩, fun t ht => ?_, fun i hi => ?_, ?_⟩
  · have := gt_low t ht
    rw [fe_V a (by omega)]
    exact hF t ht
  · rw [fe_R a (by omega), fe_R a (by omega)]
    exact hK i hi
  · unfold LT
    rw [fe_F a (by omega), fe_F a (by omega), fe_F a (by omega), fe_F a (by omega), fe_F a (by omega), fe_F a (by omega), fe_G a (by omega)]
    exact hT
theorem fw_fe (a : fe h h1) (hl : 126 ≤ h.length) : fw [] [] h h1 := ⟨fun p hp _ => ⟨fe_F a (by omega), fe_G a (by omega), fe_R a (by omega)⟩, fun p k hp _ => fe_V a (by omega)⟩
theorem SC_fe {τ f : Nat} {b t : Bool} {fl : Nat → Int} (sc : SC h τ b f t fl) (a : fe h h1) : SC h1 τ b f t fl := by
  obtain ⟨ho, f1, f3, e0, e1, e2, e3, e4, ha, hv, hf⟩ := sc
  have l1 := ob_lt ho
  have l2 := ar_lt ha
  exact ⟨fe_ob a ho, f1, f3, by rw [fe_I a l1]; exact e0, by rw [fe_I a l1]; exact e1, by rw [fe_I a l1]; exact e2, by rw [fe_V a l1]; exact e3, by rw [fe_V a l1]; exact e4, fe_ar a ha, by rw [fe_F a l2]; exact hv, hf⟩
theorem RB_fe {n : Nat} {m ρ τ f : Nat → Nat} {b t : Nat → Bool} {fl : Nat → Nat → Int} (g : G h) (x : RB h n m ρ τ b f t fl) (a : fe h h1) : RB h1 n m ρ τ b f t fl := by
  have hl := gL g
  obtain ⟨x1, x2, x3, x4, x5, x6, x7, x8⟩ := x
  refine ⟨x1, by rw [fe_I a (by omega)]; exact x2, by rw [fe_I a (by omega)]; exact x3, fun r hr => ?_, fun r s hr hs => ?_, x6, x7, by rw [fe_F a (by omega)]; exact x8⟩
  · obtain ⟨y1, y2, y3, y4, y5, y6, y7, y8⟩ := x4 r hr
    have l1 := ob_lt y4
    exact ⟨y1, by rw [fe_R a (by omega)]; exact y2, y3, fe_ob a y4, by rw [fe_V a l1]; exact y5, fe_aR a y6, by rw [fe_I a l1]; exact y7, by rw [fe_F a (by omega)]; exact y8⟩
  · obtain ⟨y1, y2, y3, y4⟩ := x5 r s hr hs
    have l1 := aR_lt (x4 r hr).2.2.2.2.2.1
    refine ⟨by rw [fe_R a l1]; exact y1, y2, SC_fe y3 a, ?_⟩
    unfold SM
    rw [fe_F a (by omega), fe_F a (by omega), fe_F a (by omega), fe_F a (by omega)]
    exact y4
theorem fw_trans {A : List Nat} {F : List (Nat × Nat)} {h2 : JH} (a : fw A F h h1) (b : fw A F h1 h2) : fw A F h h2 := ⟨fun p hp hn => ⟨(b.1 p hp hn).1.trans (a.1 p hp hn).1, (b.1 p hp hn).2.1.trans (a.1 p hp hn).2.1, (b.1 p hp hn).2.2.trans (a.1 p hp hn).2.2⟩, fun p k hp hn => (b.2 p k hp hn).trans (a.2 p k hp hn)⟩
theorem fw_mono {A B : List Nat} {F E : List (Nat × Nat)} (hA : ∀ p, p < 126 → p ∈ A → p ∈ B) (hF : ∀ q, q.1 < 126 → q ∈ F → q ∈ E) (a : fw A F h h1) : fw B E h h1 := ⟨fun p hp hn => a.1 p hp (fun c => hn (hA p hp c)), fun p k hp hn => a.2 p k hp (fun c => hn (hF _ hp c))⟩
theorem keep_hi {p : Nat} {F : List (Nat × Nat)} (hp : 126 ≤ p) (hF : keep [] F = true) : keep [p] F = true := by
  unfold keep at *
  rw [Bool.and_eq_true] at *
  refine ⟨hF.1, ?_⟩
  have e : ∀ q, q < 126 → (!(List.contains [p] q)) = true := fun q hq => by
    simp [List.contains_cons]
    omega
  simp only [List.all_cons, List.all_nil, Bool.and_true, e _ (show 2 < 126 by decide), e _ (show 3 < 126 by decide), e _ (show 4 < 126 by decide), e _ (show 88 < 126 by decide), e _ (show 65 < 126 by decide), e _ (show 67 < 126 by decide), e _ (show 9 < 126 by decide), e _ (show 25 < 126 by decide), e _ (show 26 < 126 by decide)]
theorem keep_hf {p k : Nat} {A : List Nat} (hp : 126 ≤ p) (hA : keep A [] = true) : keep A [(p, k)] = true := by
  unfold keep at *
  rw [Bool.and_eq_true] at *
  refine ⟨List.all_eq_true.mpr (fun t ht => ?_), hA.2⟩
  have := gt_low t ht
  simp [List.contains_cons]
  exact ⟨Or.inl (by omega), this⟩
end FE
theorem va_s {α : Type} {f : Nat → α} {k : Nat} {x : α} : va_up f k x k = x := if_pos rfl
theorem va_n {α : Type} {f : Nat → α} {k j : Nat} {x : α} (h : j ≠ k) : va_up f k x j = f j := if_neg h
section RUL
variable {X : JX} {h : JH} {n : Nat} {m ρ τ f : Nat → Nat} {b t : Nat → Bool} {fl : Nat → Nat → Int}
theorem a_rule (g : G h) (x : RB h n m ρ τ b f t fl) : AGR X 98 100 [] h (fun h2 => G h2 ∧ fw [5, 83] [(0, 2), (81, 4)] h h2 ∧ ∃ n' m' ρ', n ≤ n' ∧ (∀ r, r < n → m' r = m r ∧ ρ' r = ρ r) ∧ RB h2 n' m' ρ' τ b f t fl) := by
  have hl := gL g
  obtain ⟨x1, x2, x3, x4, x5, x6, x7, x8⟩ := id x
  have e24 : fI h 81 4 = fI h 0 2 := by rw [ti_eq, x2, x3]
  have iv : vp_in (fI h 0 2) 4 ∨ n = 4 := by
    by_cases c : n = 4
    · exact Or.inr c
    · left; rw [vp_inI]; omega
  intro Q K
  rw [jE_X11_rule]
  refine jT_X11_rule_0 ?_
  simp (decide := true) only [jgI_ob, jgf_ob, jgL_ob, jpI_ob, jpL_ob, jpR_ob, jpN_ob, jrc_ob, obj_sV, obj_wF, obj_wG, obj_wR, arr_sV, arr_wF, arr_wG, arr_wR, arL_sV, arL_wF, arL_wG, arL_wR, arR_sV, arR_wF, arR_wG, arR_wR, fI_sV (c := 0), fI_sV (c := 1), fI_sV (c := 2), fI_sV (c := 4), fI_sV (c := 5), fI_sV (c := 7), fI_sV (c := 8), fI_sV (c := 9), fI_sV (c := 10), fI_sV (c := 11), fI_sV (c := 12), fI_sV (c := 6), fL_sV (c := 9), fL_sV (c := 12), fI_sV_k, fL_sV_k, fV_sV_k, fI_wF, fI_wG, fI_wR, fL_wF, fL_wG, fL_wR, fV_wF, fV_wG, fV_wR, aF_sV, aG_sV, aR_sV, aF_wG, aF_wR, aG_wF, aG_wR, aR_wF, aR_wG, gO g, gF g, ti_lt, tl, x2]
  refine ⟨fun c => ?_, fun c => ?_⟩
  · refine ⟨by decide, by decide, by decide, ?_⟩
    refine raw_rc get_end ⟨by decide, by decide, ?_⟩
    refine n_Rule get_end (fun q hq => ?_)
    try dsimp only [jrI, jrN, jrA, jisr, jnul, jcat1]
    have eh : jBk (h ++ [.inr (6, jfs0 6)]) h.length 6 [.ref (h ++ [(.inr (6, jfs0 6) : JC)]).length, .int 0] [.inl (.object q.1, 8, .inr (.inr (.inr (.inr fun _ => none))))] = h ++ [.inr (6, [.ref (h.length + 1), .int 0]), .inl (.object q.1, 8, .inr (.inr (.inr (.inr fun _ => none))))] := by
      unfold jBk
      rw [set_end, len_app, List.append_assoc]
      rfl
    rw [eh]
    have k0 : fe h (h ++ [.inr (6, [.ref (h.length + 1), .int 0]), .inl (.object q.1, 8, .inr (.inr (.inr (.inr fun _ => none))))]) := fe_app
    have c0 : (h ++ [.inr (6, [.ref (h.length + 1), .int 0]), .inl (.object q.1, 8, .inr (.inr (.inr (.inr fun _ => none))))])[h.length]? = some (.inr (6, [.ref (h.length + 1), .int 0])) := by simp
    have c1 : (h ++ [.inr (6, [.ref (h.length + 1), .int 0]), .inl (.object q.1, 8, .inr (.inr (.inr (.inr fun _ => none))))])[h.length + 1]? = some (.inl (.object q.1, 8, .inr (.inr (.inr (.inr fun _ => none))))) := by
      rw [List.getElem?_append_right (by omega)]
      simp
    generalize (h ++ [.inr (6, [.ref (h.length + 1), .int 0]), .inl (.object q.1, 8, .inr (.inr (.inr (.inr fun _ => none))))]) = h1 at k0 c0 c1
    have g1 := G_fe g k0
    have xx := RB_fe g x k0
    have o1 : obj h1 h.length 6 := by unfold obj sh; rw [c0]; rfl
    have o2 : arR h1 (h.length + 1) 8 8 := ⟨q, hq, by unfold sh; rw [c1]; rfl⟩
    have v1 : fV h1 h.length 0 = .ref (h.length + 1) := by unfold fV; rw [c0]; rfl
    have v2 : fI h1 h.length 1 = 0 := by unfold fI fV; rw [c0]; rfl
    have e02 : fI h1 0 2 = fI h 0 2 := fe_I k0 (by omega)
    have iv' : vp_in (fI h 0 2) 4 := by rcases iv with iv | iv <;> first | exact iv | omega
    have ec : (fI h 0 2).toNatClampNeg = n := by rw [ti_clamp, x2]; rfl
    rw [jwA_ar (show arR h1 5 6 4 by simp only [gO g1]) o1]
    refine ⟨iv', ?_⟩
    simp (decide := true) only [jgI_ob, jgf_ob, jgL_ob, jpI_ob, jpL_ob, jpR_ob, jpN_ob, jrc_ob, obj_sV, obj_wF, obj_wG, obj_wR, arr_sV, arr_wF, arr_wG, arr_wR, arL_sV, arL_wF, arL_wG, arL_wR, arR_sV, arR_wF, arR_wG, arR_wR, fI_sV (c := 0), fI_sV (c := 1), fI_sV (c := 2), fI_sV (c := 4), fI_sV (c := 5), fI_sV (c := 7), fI_sV (c := 8), fI_sV (c := 9), fI_sV (c := 10), fI_sV (c := 11), fI_sV (c := 12), fI_sV (c := 6), fL_sV (c := 9), fL_sV (c := 12), fI_sV_k, fL_sV_k, fV_sV_k, fI_wF, fI_wG, fI_wR, fL_wF, fL_wG, fL_wR, fV_wF, fV_wG, fV_wR, aF_sV, aG_sV, aR_sV, aF_wG, aF_wR, aG_wF, aG_wR, aR_wF, aR_wG, gO g1, e02, ec]
    refine K _ _ (fun Q2 H => ?_)
    have a1 : fr [5, 83] [(0, 2), (81, 4)] h1 (sV (wR h1 5 (va_up (aR h1 5) n (some h.length))) 0 2 (.int (fI h 0 2 + 1))) := fr_sV (by decide) (fr_wR (by decide) fr_rfl)
    have g2 := G_fr g1 rfl a1
    have e4 : fI h1 81 4 = fI h 0 2 := (fe_I k0 (by omega)).trans e24
    rw [jE_X12_rule]
    refine jT_X12_rule_0 ?_
    simp (decide := true) only [jgI_ob, jgf_ob, jgL_ob, jpI_ob, jpL_ob, jpR_ob, jpN_ob, jrc_ob, obj_sV, obj_wF, obj_wG, obj_wR, arr_sV, arr_wF, arr_wG, arr_wR, arL_sV, arL_wF, arL_wG, arL_wR, arR_sV, arR_wF, arR_wG, arR_wR, fI_sV (c := 0), fI_sV (c := 1), fI_sV (c := 2), fI_sV (c := 4), fI_sV (c := 5), fI_sV (c := 7), fI_sV (c := 8), fI_sV (c := 9), fI_sV (c := 10), fI_sV (c := 11), fI_sV (c := 12), fI_sV (c := 6), fL_sV (c := 9), fL_sV (c := 12), fI_sV_k, fL_sV_k, fV_sV_k, fI_wF, fI_wG, fI_wR, fL_wF, fL_wG, fL_wR, fV_wF, fV_wG, fV_wR, aF_sV, aG_sV, aR_sV, aF_wG, aF_wR, aG_wF, aG_wR, aR_wF, aR_wG, kC, kM, gM g1, gN g1, fI_sV_ne, fV_sV_ne, e4, ti_eq, tl, x2]
    refine jif_n (by omega) ⟨iv', ?_⟩
    have a2 : fr [5, 83] [(0, 2), (81, 4)] h1 (sV (wF (sV (wR h1 5 (va_up (aR h1 5) n (some h.length))) 0 2 (.int (fI h 0 2 + 1))) 83 (upd (aF h1 83) (fI h 0 2).toNatClampNeg 0)) 81 4 (.int (fI h 0 2 + 1))) := fr_sV (by decide) (fr_wF (by decide) a1)
    have g3 := G_fr g1 rfl a2
    have n2 : (fI h 0 2 + 1).toInt = ((n + 1 : Nat) : Int) := (by simp only [Int32.toInt_add, Int32.toInt_sub, Int32.toInt_mul, Int32.toInt_neg, Int.bmod_def, tl]; omega)
    have r5 : aR (sV (wF (sV (wR h1 5 (va_up (aR h1 5) n (some h.length))) 0 2 (.int (fI h 0 2 + 1))) 83 (upd (aF h1 83) (fI h 0 2).toNatClampNeg 0)) 81 4 (.int (fI h 0 2 + 1))) 5 = va_up (aR h1 5) n (some h.length) := by
      rw [aR_sV, aR_wF, aR_sV, aR_wR (show arR h1 5 6 4 by simp only [gO g1])]
    have r83 : aF (sV (wF (sV (wR h1 5 (va_up (aR h1 5) n (some h.length))) 0 2 (.int (fI h 0 2 + 1))) 83 (upd (aF h1 83) (fI h 0 2).toNatClampNeg 0)) 81 4 (.int (fI h 0 2 + 1))) 83 = upd (aF h1 83) n 0 := by
      simp (decide := true) only [jgI_ob, jgf_ob, jgL_ob, jpI_ob, jpL_ob, jpR_ob, jpN_ob, jrc_ob, obj_sV, obj_wF, obj_wG, obj_wR, arr_sV, arr_wF, arr_wG, arr_wR, arL_sV, arL_wF, arL_wG, arL_wR, arR_sV, arR_wF, arR_wG, arR_wR, fI_sV (c := 0), fI_sV (c := 1), fI_sV (c := 2), fI_sV (c := 4), fI_sV (c := 5), fI_sV (c := 7), fI_sV (c := 8), fI_sV (c := 9), fI_sV (c := 10), fI_sV (c := 11), fI_sV (c := 12), fI_sV (c := 6), fL_sV (c := 9), fL_sV (c := 12), fI_sV_k, fL_sV_k, fV_sV_k, fI_wF, fI_wG, fI_wR, fL_wF, fL_wG, fL_wR, fV_wF, fV_wG, fV_wR, aF_sV, aG_sV, aR_sV, aF_wG, aF_wR, aG_wF, aG_wR, aR_wF, aR_wG, kC, kM, gM g1, ec]
    have r02 : fI (sV (wF (sV (wR h1 5 (va_up (aR h1 5) n (some h.length))) 0 2 (.int (fI h 0 2 + 1))) 83 (upd (aF h1 83) (fI h 0 2).toNatClampNeg 0)) 81 4 (.int (fI h 0 2 + 1))) 0 2 = fI h 0 2 + 1 := by
      simp (decide := true) only [jgI_ob, jgf_ob, jgL_ob, jpI_ob, jpL_ob, jpR_ob, jpN_ob, jrc_ob, obj_sV, obj_wF, obj_wG, obj_wR, arr_sV, arr_wF, arr_wG, arr_wR, arL_sV, arL_wF, arL_wG, arL_wR, arR_sV, arR_wF, arR_wG, arR_wR, fI_sV (c := 0), fI_sV (c := 1), fI_sV (c := 2), fI_sV (c := 4), fI_sV (c := 5), fI_sV (c := 7), fI_sV (c := 8), fI_sV (c := 9), fI_sV (c := 10), fI_sV (c := 11), fI_sV (c := 12), fI_sV (c := 6), fL_sV (c := 9), fL_sV (c := 12), fI_sV_k, fL_sV_k, fV_sV_k, fI_wF, fI_wG, fI_wR, fL_wF, fL_wG, fL_wR, fV_wF, fV_wG, fV_wR, aF_sV, aG_sV, aR_sV, aF_wG, aF_wR, aG_wF, aG_wR, aR_wF, aR_wG, kC, kM, gO g1, fI_sV_ne]
    have r81 : fI (sV (wF (sV (wR h1 5 (va_up (aR h1 5) n (some h.length))) 0 2 (.int (fI h 0 2 + 1))) 83 (upd (aF h1 83) (fI h 0 2).toNatClampNeg 0)) 81 4 (.int (fI h 0 2 + 1))) 81 4 = fI h 0 2 + 1 := by
      simp (decide := true) only [jgI_ob, jgf_ob, jgL_ob, jpI_ob, jpL_ob, jpR_ob, jpN_ob, jrc_ob, obj_sV, obj_wF, obj_wG, obj_wR, arr_sV, arr_wF, arr_wG, arr_wR, arL_sV, arL_wF, arL_wG, arL_wR, arR_sV, arR_wF, arR_wG, arR_wR, fI_sV (c := 0), fI_sV (c := 1), fI_sV (c := 2), fI_sV (c := 4), fI_sV (c := 5), fI_sV (c := 7), fI_sV (c := 8), fI_sV (c := 9), fI_sV (c := 10), fI_sV (c := 11), fI_sV (c := 12), fI_sV (c := 6), fL_sV (c := 9), fL_sV (c := 12), fI_sV_k, fL_sV_k, fV_sV_k, fI_wF, fI_wG, fI_wR, fL_wF, fL_wG, fL_wR, fV_wF, fV_wG, fV_wR, aF_sV, aG_sV, aR_sV, aF_wG, aF_wR, aG_wF, aG_wR, aR_wF, aR_wG, kC, kM, gM g1]
    generalize (sV (wF (sV (wR h1 5 (va_up (aR h1 5) n (some h.length))) 0 2 (.int (fI h 0 2 + 1))) 83 (upd (aF h1 83) (fI h 0 2).toNatClampNeg 0)) 81 4 (.int (fI h 0 2 + 1))) = h3 at a2 g3 r5 r83 r02 r81 H ⊢
    refine H h3 ⟨g3, fw_trans (fw_mono (fun p _ c => by cases c) (fun p _ c => by cases c) (fw_fe k0 hl)) (fw_fr a2), n + 1, fun r => if r = n then 0 else m r, fun r => if r = n then h.length else ρ r, by omega, fun r hr => ⟨if_neg (by omega), if_neg (by omega)⟩, ?_⟩
    obtain ⟨y1, y2, y3, y4, y5, y6, y7, y8⟩ := xx
    have lA : lowA [5, 83] := lowA_of rfl
    have lF : lowF [(0, 2), (81, 4)] := lowF_of rfl
    refine ⟨by omega, by rw [r02]; exact n2, by rw [r81]; exact n2, fun r hr => ?_, fun r s hr hs => ?_, fun r r' hr hr' e => ?_, fun r s r' s' hr hs hr' hs' e => ?_, ?_⟩
    · by_cases c : r = n
      · subst c
        simp only [if_true]
        refine ⟨by omega, by rw [r5, va_s], by omega, by rw [frO a2]; exact o1, by rw [frVh a2 lF (by omega) (by decide)]; exact v1, by rw [frAR a2]; exact o2, by rw [frIh a2 lF (by omega) (by decide), v2]; rfl, by rw [r83, upd_s]; rfl⟩
      · simp only [if_neg c]
        obtain ⟨z1, z2, z3, z4, z5, z6, z7, z8⟩ := y4 r (by omega)
        exact ⟨z1, by rw [r5, va_n c]; exact z2, z3, by rw [frO a2]; exact z4, by rw [frVh a2 lF z3 (by decide)]; exact z5, by rw [frAR a2]; exact z6, by rw [frIh a2 lF z3 (by decide)]; exact z7, by rw [r83, upd_n c]; exact z8⟩
    · by_cases c : r = n
      · subst c
        simp only [if_true] at hs
        omega
      · simp only [if_neg c] at hs ⊢
        obtain ⟨z1, z2, z3, z4⟩ := y5 r s (by omega) hs
        have z0 := (y4 r (by omega)).2.2.1
        exact ⟨by rw [frRh a2 lA (by omega)]; exact z1, z2, SC_fr z3 z2 lA lF a2, SM_fr z4 rfl a2⟩
    · by_cases c : r = n
      · subst c
        by_cases c' : r' = r
        · exact c'.symm
        · simp only [if_true, if_neg c'] at e
          have := ob_lt (x4 r' (by omega)).2.2.2.1
          omega
      · by_cases c' : r' = n
        · subst c'
          simp only [if_true, if_neg c] at e
          have := ob_lt (x4 r (by omega)).2.2.2.1
          omega
        · simp only [if_neg c, if_neg c'] at e
          exact y6 r r' (by omega) (by omega) e
    · by_cases c : r = n
      · subst c
        simp only [if_true] at hs
        omega
      · by_cases c' : r' = n
        · subst c'
          simp only [if_true] at hs'
          omega
        · simp only [if_neg c] at hs
          simp only [if_neg c'] at hs'
          exact y7 r s r' s' (by omega) hs (by omega) hs' e
    · intro r s j hr hs hm hj
      rw [frF a2 (by decide)]
      refine y8 r s j hr hs (fun hr' => ?_) hj
      have := hm (by omega)
      simp only [if_neg (show r ≠ n by omega)] at this
      exact this
  · refine K _ _ (fun Q2 H => ?_)
    rw [jE_X12_rule]
    refine jT_X12_rule_0 ?_
    simp (decide := true) only [jgI_ob, jgf_ob, jgL_ob, jpI_ob, jpL_ob, jpR_ob, jpN_ob, jrc_ob, obj_sV, obj_wF, obj_wG, obj_wR, arr_sV, arr_wF, arr_wG, arr_wR, arL_sV, arL_wF, arL_wG, arL_wR, arR_sV, arR_wF, arR_wG, arR_wR, fI_sV (c := 0), fI_sV (c := 1), fI_sV (c := 2), fI_sV (c := 4), fI_sV (c := 5), fI_sV (c := 7), fI_sV (c := 8), fI_sV (c := 9), fI_sV (c := 10), fI_sV (c := 11), fI_sV (c := 12), fI_sV (c := 6), fL_sV (c := 9), fL_sV (c := 12), fI_sV_k, fL_sV_k, fV_sV_k, fI_wF, fI_wG, fI_wR, fL_wF, fL_wG, fL_wR, fV_wF, fV_wG, fV_wR, aF_sV, aG_sV, aR_sV, aF_wG, aF_wR, aG_wF, aG_wR, aR_wF, aR_wG, gM g, e24, ti_eq, tl, x2]
    exact jif_t (by omega) (H _ ⟨g, fw_fr fr_rfl, n, m, ρ, Nat.le_refl _, fun r _ => ⟨rfl, rfl⟩, x⟩)
end RUL
