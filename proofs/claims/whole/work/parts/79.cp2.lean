section CQRA
variable {X : JX} {d : Nat} {Q : JQ} {h : JH} {N k : Nat} {t : Nat → Int}
theorem c_stepFollowerA (g : G h) (hk : fI h 10 4 = nI k) (o : ORA h (xo t N k)) (ok : OKt t N k) (ks : ∀ i, i < k → aF h 11 i = nI (tK t N i)) {q : Nat} (hq : q ≤ 20) (H : Q (some (.int (nI (fol 1 (decide (xo t N k ≠ [] ∧ tK t N (hd0 (xo t N k)) = 7)) (decide (xo t N k ≠ [])) q)))) h) : jex X (d + 3) 52 [.ref 10, .int (nI q)] h Q := by
  have k4 : k ≤ 400 := by
    refine Classical.byContradiction (fun c => ?_)
    have := hft_0 (ok 400 (by omega))
    omega
  have l6 := xo_len k ok
  have eq : (nI q).toInt = (q : Int) := nI_toInt (by omega)
  have HH : ∀ (v : Nat) (w : Int32), w = nI v → fol 1 (decide (xo t N k ≠ [] ∧ tK t N (hd0 (xo t N k)) = 7)) (decide (xo t N k ≠ [])) q = v → Q (some (.int w)) h := fun v w ew ev => by rw [ew, ← ev]; exact H
  have D : (0 < fI h 10 9 ↔ xo t N k ≠ []) := by
    rw [o.1]
    constructor
    · intro c e
      rw [e] at c
      exact absurd c (by decide)
    · intro c
      exact nI_lt (a := 0) (List.length_pos_iff.mpr c) (by omega)
  rw [jE_X5_stepFollower]
  refine jT_X5_stepFollower_0 ?_
  simp (decide := true) only [jgI_ob, jgf_ob, jgL_ob, jpI_ob, jpL_ob, jpR_ob, jpN_ob, jrc_ob, obj_sV, obj_wF, obj_wG, obj_wR, arr_sV, arr_wF, arr_wG, arr_wR, arL_sV, arL_wF, arL_wG, arL_wR, arR_sV, arR_wF, arR_wG, arR_wR, fI_sV (c := 0), fI_sV (c := 1), fI_sV (c := 2), fI_sV (c := 4), fI_sV (c := 5), fI_sV (c := 7), fI_sV (c := 8), fI_sV (c := 9), fI_sV (c := 10), fI_sV (c := 11), fI_sV (c := 12), fI_sV (c := 6), fL_sV (c := 9), fL_sV (c := 12), fI_sV_k, fL_sV_k, fV_sV_k, fI_wF, fI_wG, fI_wR, fL_wF, fL_wG, fL_wR, fV_wF, fV_wG, fV_wR, aF_sV, aG_sV, aR_sV, aF_wG, aF_wR, aG_wF, aG_wR, aR_wF, aR_wG, gO g, ti_eq, tl, eq]
  refine ⟨fun c => HH 2 _ rfl (by unfold fol; repeat (first | rw [if_pos (by omega)] | rw [if_neg (by omega)])), fun c1 => ⟨fun c => HH 7 _ rfl (by unfold fol; repeat (first | rw [if_pos (by omega)] | rw [if_neg (by omega)])), fun c2 => ⟨fun c3 => ⟨fun c => HH 1 _ rfl ?_, fun c => HH 0 _ rfl ?_⟩, fun c3 => ⟨fun c => HH 8 _ rfl (by unfold fol; repeat (first | rw [if_pos (by omega)] | rw [if_neg (by omega)])), fun c4 => ⟨fun c => HH 0 _ rfl (by unfold fol; repeat (first | rw [if_pos (by omega)] | rw [if_neg (by omega)])), fun c5 => ⟨fun c6 => ⟨fun c => ?_, fun c => HH 0 _ rfl ?_⟩, fun c6 => HH 0 _ rfl (by unfold fol; repeat (first | rw [if_pos (by omega)] | rw [if_neg (by omega)]))⟩⟩⟩⟩⟩⟩
  · unfold fol
    rw [if_pos rfl, if_neg (by omega), if_neg (by omega), if_neg (by omega), if_neg (by omega), if_pos (by omega), if_pos (decide_eq_true (D.1 c))]
  · unfold fol
    rw [if_pos rfl, if_neg (by omega), if_neg (by omega), if_neg (by omega), if_neg (by omega), if_pos (by omega), if_neg (fun w => c (D.2 (of_decide_eq_true w)))]
  · have ne := D.1 c
    have hm := xo_m k _ (hd0_mem ne)
    refine c_openA g o l6 (fun _ => ?_) (fun e => absurd e ne)
    try dsimp only [jrI, jrN, jrA, jisr, jnul, jcat1]
    rw [jrc_ob (by simp only [gO g])]
    refine c_kindA g hk k4 (fun i hi e => ?_) (fun e => absurd rfl (e _ hm.1))
    have ei : hd0 (xo t N k) = i := (nI_eq (by omega) (by omega)).1 e
    rw [ks i hi, ← ei]
    try dsimp only [jrI, jrN, jrA, jisr, jnul, jcat1]
    have et : (nI (tK t N (hd0 (xo t N k)))).toInt = (tK t N (hd0 (xo t N k)) : Nat) := nI_toInt (by have := tkK_r (t := t) (N := N) (tS t N (hd0 (xo t N k))); unfold tK; omega)
    rw [et]
    refine ⟨fun c7 => HH 1 _ rfl ?_, fun c7 => HH 0 _ rfl ?_⟩
    · unfold fol
      rw [if_pos rfl, if_neg (by omega), if_neg (by omega), if_neg (by omega), if_pos (by omega), if_pos (decide_eq_true ⟨ne, by omega⟩)]
    · unfold fol
      rw [if_pos rfl, if_neg (by omega), if_neg (by omega), if_neg (by omega), if_pos (by omega), if_neg (fun w => by have := (of_decide_eq_true w).2; omega)]
  · unfold fol
    rw [if_pos rfl, if_neg (by omega), if_neg (by omega), if_neg (by omega), if_pos (by omega), if_neg (fun w => c (D.2 (of_decide_eq_true w).1))]
theorem c_followerA (g : G h) (hk : fI h 10 4 = nI k) (h7 : fI h 10 7 = nI (xe t N k)) (o : ORA h (xo t N k)) (ok : OKt t N k) (ks : ∀ i, i < k → aF h 11 i = nI (tK t N i)) (H : Q (some (.int (nI (fwl t N k)))) h) : jex X (d + 4) 51 [.ref 10, .int (nI (tK t N k))] h Q := by
  have hq : tK t N k ≤ 20 := tkK_r _
  have x1 := xe_1 ok
  have F : ∀ (s0 : Int32) (o2 : Option Value) (c s : Nat), (s0 = 1 ∧ (tK t N k = 2 ∨ tK t N k = 3)) ∨ (s0 = 0 ∧ ¬ (tK t N k = 2 ∨ tK t N k = 3)) → jB_X5_follower_15 X (d + 3) Q 10 (nI (tK t N k)) o2 s0 h c s := by
    intro s0 o2 c s hs
    refine jT_X5_follower_15 ?_
    rw [jgI_ob (c := 5) (by simp only [gO g]) rfl, h7]
    by_cases c1 : xe t N k = 1
    · refine jif_t (by rw [c1]; rfl) ?_
      rw [jrc_ob (by simp only [gO g])]
      unfold fwl at H
      rw [c1] at H
      refine c_stepFollowerA g hk o ok ks hq ?_
      try dsimp only [jrI, jrN, jrA, jisr, jnul, jcat1]
      exact H
    · refine jif_n (fun e => c1 ((nI_eq (b := 1) (by omega) (by omega)).1 e)) ?_
      have HH : ∀ (v : Nat) (w : Int32), w = nI v → fol (xe t N k) (decide (xo t N k ≠ [] ∧ tK t N (hd0 (xo t N k)) = 7)) (decide (xo t N k ≠ [])) (tK t N k) = v → Q (some (.int w)) h := fun v w ew ev => by rw [ew, ← ev]; exact H
      have ee : (nI (xe t N k)).toInt = (xe t N k : Int) := nI_toInt (by omega)
      have eq : (nI (tK t N k)).toInt = (tK t N k : Int) := nI_toInt (by omega)
      generalize xe t N k = e at *
      generalize tK t N k = q at *
      clear H h7
      rcases hs with ⟨es, ha⟩ | ⟨es, ha⟩
      · subst es
        simp (decide := true) only [ti_eq, ti_lt, tl, ee, eq, jif_T, jif_F]
        repeat' (first | refine And.intro (fun c => ?_) (fun c => ?_))
        all_goals (first | (exfalso; omega) | exact HH 0 _ rfl (by unfold fol; repeat (first | rw [if_pos (by omega)] | rw [if_neg (by omega)])) | exact HH 1 _ rfl (by unfold fol; repeat (first | rw [if_pos (by omega)] | rw [if_neg (by omega)])) | exact HH 3 _ rfl (by unfold fol; repeat (first | rw [if_pos (by omega)] | rw [if_neg (by omega)])) | exact HH 4 _ rfl (by unfold fol; repeat (first | rw [if_pos (by omega)] | rw [if_neg (by omega)])) | exact HH 5 _ rfl (by unfold fol; repeat (first | rw [if_pos (by omega)] | rw [if_neg (by omega)])) | exact HH 6 _ rfl (by unfold fol; repeat (first | rw [if_pos (by omega)] | rw [if_neg (by omega)])) | exact HH 9 _ rfl (by unfold fol; repeat (first | rw [if_pos (by omega)] | rw [if_neg (by omega)])) | exact HH 10 _ rfl (by unfold fol; repeat (first | rw [if_pos (by omega)] | rw [if_neg (by omega)])) | exact HH 11 _ rfl (by unfold fol; repeat (first | rw [if_pos (by omega)] | rw [if_neg (by omega)])))
      · subst es
        simp (decide := true) only [ti_eq, ti_lt, tl, ee, eq, jif_T, jif_F]
        repeat' (first | refine And.intro (fun c => ?_) (fun c => ?_))
        all_goals (first | (exfalso; omega) | exact HH 0 _ rfl (by unfold fol; repeat (first | rw [if_pos (by omega)] | rw [if_neg (by omega)])) | exact HH 1 _ rfl (by unfold fol; repeat (first | rw [if_pos (by omega)] | rw [if_neg (by omega)])) | exact HH 3 _ rfl (by unfold fol; repeat (first | rw [if_pos (by omega)] | rw [if_neg (by omega)])) | exact HH 4 _ rfl (by unfold fol; repeat (first | rw [if_pos (by omega)] | rw [if_neg (by omega)])) | exact HH 5 _ rfl (by unfold fol; repeat (first | rw [if_pos (by omega)] | rw [if_neg (by omega)])) | exact HH 6 _ rfl (by unfold fol; repeat (first | rw [if_pos (by omega)] | rw [if_neg (by omega)])) | exact HH 9 _ rfl (by unfold fol; repeat (first | rw [if_pos (by omega)] | rw [if_neg (by omega)])) | exact HH 10 _ rfl (by unfold fol; repeat (first | rw [if_pos (by omega)] | rw [if_neg (by omega)])) | exact HH 11 _ rfl (by unfold fol; repeat (first | rw [if_pos (by omega)] | rw [if_neg (by omega)])))
  rw [jE_X5_follower]
  refine jT_X5_follower_0 ?_
  have eq : (nI (tK t N k)).toInt = (tK t N k : Int) := nI_toInt (by omega)
  refine ⟨fun c => F 1 _ _ _ (Or.inl ⟨rfl, ?_⟩), fun c => ⟨fun c2 => F 1 _ _ _ (Or.inl ⟨rfl, ?_⟩), fun c2 => F 0 _ _ _ (Or.inr ⟨rfl, ?_⟩)⟩⟩
  · rw [ti_eq, eq] at c; exact Or.inl (by have : (2 : Int32).toInt = 2 := rfl; omega)
  · rw [ti_eq, eq] at c2; exact Or.inr (by have : (3 : Int32).toInt = 3 := rfl; omega)
  · rw [ti_eq, eq] at c c2
    have : (2 : Int32).toInt = 2 := rfl
    have : (3 : Int32).toInt = 3 := rfl
    omega
theorem c_joinA (g : G h) (hk : fI h 10 4 = nI (k + 1)) (o : ORA h (xo t N k)) (ok : OKt t N k) (o0 : hft t N k = 0) (H : ∀ h1, fr [14, 16] [(10, 9)] h h1 → ORA h1 (xo t N (k + 1)) → (∀ i, i ≤ k → aF h1 14 i = if (tK t N k = 6 ∨ tK t N k = 9) ∧ i = hd0 (xo t N k) then nI k else if tK t N k = 6 ∧ i = k then nI (hd0 (xo t N k)) else aF h 14 i) → Q none h1) : jex X (d + 3) 59 [.ref 10, .int (nI (tK t N k)), .int (nI k)] h Q := by
  obtain ⟨f1, k4, f3, f4⟩ := hft_0 o0
  have fi := fwl_inv f1
  have hq : tK t N k ≤ 20 := tkK_r _
  have l6 := xo_len k ok
  have eq : (nI (tK t N k)).toInt = (tK t N k : Int) := nI_toInt (by omega)
  have exo := xo_s (t := t) (N := N) (k := k)
  have ne : (tK t N k = 6 ∨ tK t N k = 9) → xo t N k ≠ [] := by
    intro c
    rcases fi with ⟨_, fi⟩ | fi
    · rcases fi with fi | fi | fi | fi | fi
      · omega
      · omega
      · omega
      · exact fi.2.2.1
      · exact fi.2.2
    · omega
  rw [jE_X5_joinTokens]
  refine jT_X5_joinTokens_0 ?_
  have J : ∀ c : Nat, c < 100 → (nI (tK t N k) = nI c ↔ tK t N k = c) := fun c hc => nI_eq (by omega) (by omega)
  have J5 : nI (tK t N k) = 5 ↔ tK t N k = 5 := J 5 (by omega)
  have J7 : nI (tK t N k) = 7 ↔ tK t N k = 7 := J 7 (by omega)
  have J9 : nI (tK t N k) = 9 ↔ tK t N k = 9 := J 9 (by omega)
  have J6 : nI (tK t N k) = 6 ↔ tK t N k = 6 := J 6 (by omega)
  have PUSH : (tK t N k = 5 ∨ tK t N k = 7) → jgI h (.ref 10) 5 9 (fun x1 => (jpf h (.ref 10) 5 9 (.int (x1 + 1)) fun h2 => (jrc h2 (.ref 10) 5 (jex X (d + 2) 60 [.ref 10, .int (nI k)] h2 fun r4 h3 => (jrN r4 (Q none h3)))))) := by
    intro c
    have l5 := f4 c
    rw [if_pos c] at exo
    simp (decide := true) only [jgI_ob, jgf_ob, jgL_ob, jpI_ob, jpL_ob, jpR_ob, jpN_ob, jrc_ob, obj_sV, obj_wF, obj_wG, obj_wR, arr_sV, arr_wF, arr_wG, arr_wR, arL_sV, arL_wF, arL_wG, arL_wR, arR_sV, arR_wF, arR_wG, arR_wR, fI_sV (c := 0), fI_sV (c := 1), fI_sV (c := 2), fI_sV (c := 4), fI_sV (c := 5), fI_sV (c := 7), fI_sV (c := 8), fI_sV (c := 9), fI_sV (c := 10), fI_sV (c := 11), fI_sV (c := 12), fI_sV (c := 6), fL_sV (c := 9), fL_sV (c := 12), fI_sV_k, fL_sV_k, fV_sV_k, fI_wF, fI_wG, fI_wR, fL_wF, fL_wG, fL_wR, fV_wF, fV_wG, fV_wR, aF_sV, aG_sV, aR_sV, aF_wG, aF_wR, aG_wF, aG_wR, aR_wF, aR_wG, gO g, o.1]
    rw [nI_1]
    have k1 : fr [14, 16] [(10, 9)] h (sV h 10 9 (.int (nI ((xo t N k).length + 1)))) := fr_sV (by decide) fr_rfl
    have q9 : fI (sV h 10 9 (.int (nI ((xo t N k).length + 1)))) 10 9 = nI ((xo t N k).length + 1) := by simp (decide := true) only [jgI_ob, jgf_ob, jgL_ob, jpI_ob, jpL_ob, jpR_ob, jpN_ob, jrc_ob, obj_sV, obj_wF, obj_wG, obj_wR, arr_sV, arr_wF, arr_wG, arr_wR, arL_sV, arL_wF, arL_wG, arL_wR, arR_sV, arR_wF, arR_wG, arR_wR, fI_sV (c := 0), fI_sV (c := 1), fI_sV (c := 2), fI_sV (c := 4), fI_sV (c := 5), fI_sV (c := 7), fI_sV (c := 8), fI_sV (c := 9), fI_sV (c := 10), fI_sV (c := 11), fI_sV (c := 12), fI_sV (c := 6), fL_sV (c := 9), fL_sV (c := 12), fI_sV_k, fL_sV_k, fV_sV_k, fI_wF, fI_wG, fI_wR, fL_wF, fL_wG, fL_wR, fV_wF, fV_wG, fV_wR, aF_sV, aG_sV, aR_sV, aF_wG, aF_wR, aG_wF, aG_wR, aR_wF, aR_wG, gO g]
    have q6 : aF (sV h 10 9 (.int (nI ((xo t N k).length + 1)))) 16 = aF h 16 := by simp (decide := true) only [jgI_ob, jgf_ob, jgL_ob, jpI_ob, jpL_ob, jpR_ob, jpN_ob, jrc_ob, obj_sV, obj_wF, obj_wG, obj_wR, arr_sV, arr_wF, arr_wG, arr_wR, arL_sV, arL_wF, arL_wG, arL_wR, arR_sV, arR_wF, arR_wG, arR_wR, fI_sV (c := 0), fI_sV (c := 1), fI_sV (c := 2), fI_sV (c := 4), fI_sV (c := 5), fI_sV (c := 7), fI_sV (c := 8), fI_sV (c := 9), fI_sV (c := 10), fI_sV (c := 11), fI_sV (c := 12), fI_sV (c := 6), fL_sV (c := 9), fL_sV (c := 12), fI_sV_k, fL_sV_k, fV_sV_k, fI_wF, fI_wG, fI_wR, fL_wF, fL_wG, fL_wR, fV_wF, fV_wG, fV_wR, aF_sV, aG_sV, aR_sV, aF_wG, aF_wR, aG_wF, aG_wR, aR_wF, aR_wG, gO g]
    have q4 : aF (sV h 10 9 (.int (nI ((xo t N k).length + 1)))) 14 = aF h 14 := by simp (decide := true) only [jgI_ob, jgf_ob, jgL_ob, jpI_ob, jpL_ob, jpR_ob, jpN_ob, jrc_ob, obj_sV, obj_wF, obj_wG, obj_wR, arr_sV, arr_wF, arr_wG, arr_wR, arL_sV, arL_wF, arL_wG, arL_wR, arR_sV, arR_wF, arR_wG, arR_wR, fI_sV (c := 0), fI_sV (c := 1), fI_sV (c := 2), fI_sV (c := 4), fI_sV (c := 5), fI_sV (c := 7), fI_sV (c := 8), fI_sV (c := 9), fI_sV (c := 10), fI_sV (c := 11), fI_sV (c := 12), fI_sV (c := 6), fL_sV (c := 9), fL_sV (c := 12), fI_sV_k, fL_sV_k, fV_sV_k, fI_wF, fI_wG, fI_wR, fL_wF, fL_wG, fL_wR, fV_wF, fV_wG, fV_wR, aF_sV, aG_sV, aR_sV, aF_wG, aF_wR, aG_wF, aG_wR, aR_wF, aR_wG, gO g]
    generalize sV h 10 9 (.int (nI ((xo t N k).length + 1))) = h2 at *
    have g2 := G_fr g rfl k1
    change jex X (d + 1 + 1) 60 _ _ _
    refine c_setOpenA g2 q9 (by omega) (by omega) ?_
    try dsimp only [jrI, jrN, jrA, jisr, jnul, jcat1]
    refine H _ (fr_wF (by decide) k1) ?_ (fun i hi => ?_)
    · rw [exo]
      unfold ORA
      rw [List.length_cons]
      simp (decide := true) only [jgI_ob, jgf_ob, jgL_ob, jpI_ob, jpL_ob, jpR_ob, jpN_ob, jrc_ob, obj_sV, obj_wF, obj_wG, obj_wR, arr_sV, arr_wF, arr_wG, arr_wR, arL_sV, arL_wF, arL_wG, arL_wR, arR_sV, arR_wF, arR_wG, arR_wR, fI_sV (c := 0), fI_sV (c := 1), fI_sV (c := 2), fI_sV (c := 4), fI_sV (c := 5), fI_sV (c := 7), fI_sV (c := 8), fI_sV (c := 9), fI_sV (c := 10), fI_sV (c := 11), fI_sV (c := 12), fI_sV (c := 6), fL_sV (c := 9), fL_sV (c := 12), fI_sV_k, fL_sV_k, fV_sV_k, fI_wF, fI_wG, fI_wR, fL_wF, fL_wG, fL_wR, fV_wF, fV_wG, fV_wR, aF_sV, aG_sV, aR_sV, aF_wG, aF_wR, aG_wF, aG_wR, aR_wF, aR_wG, kC, kM, gO g2]
      refine ⟨q9, fun j hj => ?_⟩
      rw [q6]
      unfold upd
      cases j with
      | zero => rw [if_pos (by omega)]; rfl
      | succ j =>
        rw [if_neg (by omega), show (xo t N k).length + 1 - 1 - (j + 1) = (xo t N k).length - 1 - j by omega, o.2 j (by omega)]
        rfl
    · rw [if_neg (by omega), if_neg (by omega)]
      simp (decide := true) only [jgI_ob, jgf_ob, jgL_ob, jpI_ob, jpL_ob, jpR_ob, jpN_ob, jrc_ob, obj_sV, obj_wF, obj_wG, obj_wR, arr_sV, arr_wF, arr_wG, arr_wR, arL_sV, arL_wF, arL_wG, arL_wR, arR_sV, arR_wF, arR_wG, arR_wR, fI_sV (c := 0), fI_sV (c := 1), fI_sV (c := 2), fI_sV (c := 4), fI_sV (c := 5), fI_sV (c := 7), fI_sV (c := 8), fI_sV (c := 9), fI_sV (c := 10), fI_sV (c := 11), fI_sV (c := 12), fI_sV (c := 6), fL_sV (c := 9), fL_sV (c := 12), fI_sV_k, fL_sV_k, fV_sV_k, fI_wF, fI_wG, fI_wR, fL_wF, fL_wG, fL_wR, fV_wF, fV_wG, fV_wR, aF_sV, aG_sV, aR_sV, aF_wG, aF_wR, aG_wF, aG_wR, aR_wF, aR_wG, gO g2, aF_wF_ne]
      rw [q4]
  refine ⟨fun c => PUSH (Or.inl (J5.1 c)), fun n5 => ⟨fun c => PUSH (Or.inr (J7.1 c)), fun n7 => ⟨fun c => ?_, fun n9 => ⟨fun c => ?_, fun n6 => ?_⟩⟩⟩⟩
  · -- else
    have c := J9.1 c
    have ne := ne (Or.inr c)
    have lp := List.length_pos_iff.mpr ne
    have hm := xo_m k _ (hd0_mem ne)
    rw [if_neg (by omega), if_pos c] at exo
    rw [jrc_ob (by simp only [gO g])]
    change jex X (d + 1 + 1) 53 _ _ _
    refine c_openA g o l6 (fun _ => ?_) (fun e => absurd e ne)
    try dsimp only [jrI, jrN, jrA, jisr, jnul, jcat1]
    rw [jrc_ob (by simp only [gO g])]
    change jex X (d + 2) 58 _ _ _
    refine c_setSecA g hk (by omega) (i := hd0 (xo t N k)) (by omega) ?_
    try dsimp only [jrI, jrN, jrA, jisr, jnul, jcat1]
    have k1 : fr [14, 16] [(10, 9)] h (wF h 14 (upd (aF h 14) (hd0 (xo t N k)) (nI k))) := fr_wF (by decide) fr_rfl
    have q4 : aF (wF h 14 (upd (aF h 14) (hd0 (xo t N k)) (nI k))) 14 = upd (aF h 14) (hd0 (xo t N k)) (nI k) := by simp (decide := true) only [jgI_ob, jgf_ob, jgL_ob, jpI_ob, jpL_ob, jpR_ob, jpN_ob, jrc_ob, obj_sV, obj_wF, obj_wG, obj_wR, arr_sV, arr_wF, arr_wG, arr_wR, arL_sV, arL_wF, arL_wG, arL_wR, arR_sV, arR_wF, arR_wG, arR_wR, fI_sV (c := 0), fI_sV (c := 1), fI_sV (c := 2), fI_sV (c := 4), fI_sV (c := 5), fI_sV (c := 7), fI_sV (c := 8), fI_sV (c := 9), fI_sV (c := 10), fI_sV (c := 11), fI_sV (c := 12), fI_sV (c := 6), fL_sV (c := 9), fL_sV (c := 12), fI_sV_k, fL_sV_k, fV_sV_k, fI_wF, fI_wG, fI_wR, fL_wF, fL_wG, fL_wR, fV_wF, fV_wG, fV_wR, aF_sV, aG_sV, aR_sV, aF_wG, aF_wR, aG_wF, aG_wR, aR_wF, aR_wG, kC, kM, gO g]
    have o1 := OR_frA o (fr_wF (A := [14]) (F := []) (p := 14) (g := upd (aF h 14) (hd0 (xo t N k)) (nI k)) (by decide) fr_rfl) (by decide) (by decide)
    generalize wF h 14 (upd (aF h 14) (hd0 (xo t N k)) (nI k)) = h2 at *
    have g2 := G_fr g rfl k1
    rw [jrc_ob (by simp only [gO g2])]
    change jex X (d + 1 + 1) 60 _ _ _
    refine c_setOpenA g2 o1.1 lp l6 ?_
    try dsimp only [jrI, jrN, jrA, jisr, jnul, jcat1]
    refine H _ (fr_wF (by decide) k1) ?_ (fun i hi => ?_)
    · rw [exo]
      unfold ORA
      rw [List.length_cons, List.length_tail]
      simp (decide := true) only [jgI_ob, jgf_ob, jgL_ob, jpI_ob, jpL_ob, jpR_ob, jpN_ob, jrc_ob, obj_sV, obj_wF, obj_wG, obj_wR, arr_sV, arr_wF, arr_wG, arr_wR, arL_sV, arL_wF, arL_wG, arL_wR, arR_sV, arR_wF, arR_wG, arR_wR, fI_sV (c := 0), fI_sV (c := 1), fI_sV (c := 2), fI_sV (c := 4), fI_sV (c := 5), fI_sV (c := 7), fI_sV (c := 8), fI_sV (c := 9), fI_sV (c := 10), fI_sV (c := 11), fI_sV (c := 12), fI_sV (c := 6), fL_sV (c := 9), fL_sV (c := 12), fI_sV_k, fL_sV_k, fV_sV_k, fI_wF, fI_wG, fI_wR, fL_wF, fL_wG, fL_wR, fV_wF, fV_wG, fV_wR, aF_sV, aG_sV, aR_sV, aF_wG, aF_wR, aG_wF, aG_wR, aR_wF, aR_wG, kC, kM, gO g2]
      refine ⟨by rw [o1.1]; congr 1; omega, fun j hj => ?_⟩
      unfold upd
      cases j with
      | zero => rw [if_pos (by omega)]; rfl
      | succ j =>
        rw [if_neg (by omega), show (xo t N k).length - 1 + 1 - 1 - (j + 1) = (xo t N k).length - 1 - (j + 1) by omega, o1.2 (j + 1) (by omega)]
        cases e : xo t N k with
        | nil => exact absurd e ne
        | cons a l => rfl
    · simp (decide := true) only [jgI_ob, jgf_ob, jgL_ob, jpI_ob, jpL_ob, jpR_ob, jpN_ob, jrc_ob, obj_sV, obj_wF, obj_wG, obj_wR, arr_sV, arr_wF, arr_wG, arr_wR, arL_sV, arL_wF, arL_wG, arL_wR, arR_sV, arR_wF, arR_wG, arR_wR, fI_sV (c := 0), fI_sV (c := 1), fI_sV (c := 2), fI_sV (c := 4), fI_sV (c := 5), fI_sV (c := 7), fI_sV (c := 8), fI_sV (c := 9), fI_sV (c := 10), fI_sV (c := 11), fI_sV (c := 12), fI_sV (c := 6), fL_sV (c := 9), fL_sV (c := 12), fI_sV_k, fL_sV_k, fV_sV_k, fI_wF, fI_wG, fI_wR, fL_wF, fL_wG, fL_wR, fV_wF, fV_wG, fV_wR, aF_sV, aG_sV, aR_sV, aF_wG, aF_wR, aG_wF, aG_wR, aR_wF, aR_wG, gO g2, aF_wF_ne]
      rw [q4]
      unfold upd
      by_cases q : i = hd0 (xo t N k)
      · rw [if_pos q, if_pos ⟨Or.inr c, q⟩]
      · rw [if_neg q, if_neg (by omega), if_neg (by omega)]
  · -- end
    have c := J6.1 c
    have ne := ne (Or.inl c)
    have lp := List.length_pos_iff.mpr ne
    have hm := xo_m k _ (hd0_mem ne)
    rw [if_neg (by omega), if_neg (by omega), if_pos c] at exo
    rw [jrc_ob (by simp only [gO g])]
    change jex X (d + 1 + 1) 53 _ _ _
    refine c_openA g o l6 (fun _ => ?_) (fun e => absurd e ne)
    try dsimp only [jrI, jrN, jrA, jisr, jnul, jcat1]
    rw [jrc_ob (by simp only [gO g])]
    change jex X (d + 2) 58 _ _ _
    refine c_setSecA g hk (by omega) (i := hd0 (xo t N k)) (by omega) ?_
    try dsimp only [jrI, jrN, jrA, jisr, jnul, jcat1]
    have k1 : fr [14, 16] [(10, 9)] h (wF h 14 (upd (aF h 14) (hd0 (xo t N k)) (nI k))) := fr_wF (by decide) fr_rfl
    have q4 : aF (wF h 14 (upd (aF h 14) (hd0 (xo t N k)) (nI k))) 14 = upd (aF h 14) (hd0 (xo t N k)) (nI k) := by simp (decide := true) only [jgI_ob, jgf_ob, jgL_ob, jpI_ob, jpL_ob, jpR_ob, jpN_ob, jrc_ob, obj_sV, obj_wF, obj_wG, obj_wR, arr_sV, arr_wF, arr_wG, arr_wR, arL_sV, arL_wF, arL_wG, arL_wR, arR_sV, arR_wF, arR_wG, arR_wR, fI_sV (c := 0), fI_sV (c := 1), fI_sV (c := 2), fI_sV (c := 4), fI_sV (c := 5), fI_sV (c := 7), fI_sV (c := 8), fI_sV (c := 9), fI_sV (c := 10), fI_sV (c := 11), fI_sV (c := 12), fI_sV (c := 6), fL_sV (c := 9), fL_sV (c := 12), fI_sV_k, fL_sV_k, fV_sV_k, fI_wF, fI_wG, fI_wR, fL_wF, fL_wG, fL_wR, fV_wF, fV_wG, fV_wR, aF_sV, aG_sV, aR_sV, aF_wG, aF_wR, aG_wF, aG_wR, aR_wF, aR_wG, kC, kM, gO g]
    have o1 := OR_frA o (fr_wF (A := [14]) (F := []) (p := 14) (g := upd (aF h 14) (hd0 (xo t N k)) (nI k)) (by decide) fr_rfl) (by decide) (by decide)
    have qk : fI (wF h 14 (upd (aF h 14) (hd0 (xo t N k)) (nI k))) 10 4 = nI (k + 1) := by simp (decide := true) only [jgI_ob, jgf_ob, jgL_ob, jpI_ob, jpL_ob, jpR_ob, jpN_ob, jrc_ob, obj_sV, obj_wF, obj_wG, obj_wR, arr_sV, arr_wF, arr_wG, arr_wR, arL_sV, arL_wF, arL_wG, arL_wR, arR_sV, arR_wF, arR_wG, arR_wR, fI_sV (c := 0), fI_sV (c := 1), fI_sV (c := 2), fI_sV (c := 4), fI_sV (c := 5), fI_sV (c := 7), fI_sV (c := 8), fI_sV (c := 9), fI_sV (c := 10), fI_sV (c := 11), fI_sV (c := 12), fI_sV (c := 6), fL_sV (c := 9), fL_sV (c := 12), fI_sV_k, fL_sV_k, fV_sV_k, fI_wF, fI_wG, fI_wR, fL_wF, fL_wG, fL_wR, fV_wF, fV_wG, fV_wR, aF_sV, aG_sV, aR_sV, aF_wG, aF_wR, aG_wF, aG_wR, aR_wF, aR_wG, gO g, hk]
    generalize wF h 14 (upd (aF h 14) (hd0 (xo t N k)) (nI k)) = h2 at *
    have g2 := G_fr g rfl k1
    rw [jrc_ob (by simp only [gO g2])]
    change jex X (d + 1 + 1) 53 _ _ _
    refine c_openA g2 o1 l6 (fun _ => ?_) (fun e => absurd e ne)
    try dsimp only [jrI, jrN, jrA, jisr, jnul, jcat1]
    rw [jrc_ob (by simp only [gO g2])]
    change jex X (d + 2) 58 _ _ _
    refine c_setSecA g2 qk (by omega) (i := k) (by omega) ?_
    try dsimp only [jrI, jrN, jrA, jisr, jnul, jcat1]
    have o2 := OR_frA o1 (fr_wF (A := [14]) (F := []) (p := 14) (g := upd (aF h2 14) k (nI (hd0 (xo t N k)))) (by decide) fr_rfl) (by decide) (by decide)
    have k2 : fr [14, 16] [(10, 9)] h (wF h2 14 (upd (aF h2 14) k (nI (hd0 (xo t N k))))) := fr_wF (by decide) k1
    have r4 : aF (wF h2 14 (upd (aF h2 14) k (nI (hd0 (xo t N k))))) 14 = upd (aF h2 14) k (nI (hd0 (xo t N k))) := by simp (decide := true) only [jgI_ob, jgf_ob, jgL_ob, jpI_ob, jpL_ob, jpR_ob, jpN_ob, jrc_ob, obj_sV, obj_wF, obj_wG, obj_wR, arr_sV, arr_wF, arr_wG, arr_wR, arL_sV, arL_wF, arL_wG, arL_wR, arR_sV, arR_wF, arR_wG, arR_wR, fI_sV (c := 0), fI_sV (c := 1), fI_sV (c := 2), fI_sV (c := 4), fI_sV (c := 5), fI_sV (c := 7), fI_sV (c := 8), fI_sV (c := 9), fI_sV (c := 10), fI_sV (c := 11), fI_sV (c := 12), fI_sV (c := 6), fL_sV (c := 9), fL_sV (c := 12), fI_sV_k, fL_sV_k, fV_sV_k, fI_wF, fI_wG, fI_wR, fL_wF, fL_wG, fL_wR, fV_wF, fV_wG, fV_wR, aF_sV, aG_sV, aR_sV, aF_wG, aF_wR, aG_wF, aG_wR, aR_wF, aR_wG, kC, kM, gO g2]
    generalize wF h2 14 (upd (aF h2 14) k (nI (hd0 (xo t N k)))) = h3 at *
    have g3 := G_fr g rfl k2
    simp (decide := true) only [jgI_ob, jgf_ob, jgL_ob, jpI_ob, jpL_ob, jpR_ob, jpN_ob, jrc_ob, obj_sV, obj_wF, obj_wG, obj_wR, arr_sV, arr_wF, arr_wG, arr_wR, arL_sV, arL_wF, arL_wG, arL_wR, arR_sV, arR_wF, arR_wG, arR_wR, fI_sV (c := 0), fI_sV (c := 1), fI_sV (c := 2), fI_sV (c := 4), fI_sV (c := 5), fI_sV (c := 7), fI_sV (c := 8), fI_sV (c := 9), fI_sV (c := 10), fI_sV (c := 11), fI_sV (c := 12), fI_sV (c := 6), fL_sV (c := 9), fL_sV (c := 12), fI_sV_k, fL_sV_k, fV_sV_k, fI_wF, fI_wG, fI_wR, fL_wF, fL_wG, fL_wR, fV_wF, fV_wG, fV_wR, aF_sV, aG_sV, aR_sV, aF_wG, aF_wR, aG_wF, aG_wR, aR_wF, aR_wG, gO g3, o2.1]
    rw [show nI (xo t N k).length - 1 = nI ((xo t N k).length - 1) from pk_sub (b := 1) lp]
    refine H _ (fr_sV (by decide) k2) ?_ (fun i hi => ?_)
    · rw [exo]
      unfold ORA
      rw [List.length_tail]
      simp (decide := true) only [jgI_ob, jgf_ob, jgL_ob, jpI_ob, jpL_ob, jpR_ob, jpN_ob, jrc_ob, obj_sV, obj_wF, obj_wG, obj_wR, arr_sV, arr_wF, arr_wG, arr_wR, arL_sV, arL_wF, arL_wG, arL_wR, arR_sV, arR_wF, arR_wG, arR_wR, fI_sV (c := 0), fI_sV (c := 1), fI_sV (c := 2), fI_sV (c := 4), fI_sV (c := 5), fI_sV (c := 7), fI_sV (c := 8), fI_sV (c := 9), fI_sV (c := 10), fI_sV (c := 11), fI_sV (c := 12), fI_sV (c := 6), fL_sV (c := 9), fL_sV (c := 12), fI_sV_k, fL_sV_k, fV_sV_k, fI_wF, fI_wG, fI_wR, fL_wF, fL_wG, fL_wR, fV_wF, fV_wG, fV_wR, aF_sV, aG_sV, aR_sV, aF_wG, aF_wR, aG_wF, aG_wR, aR_wF, aR_wG, kC, kM, gO g3]
      refine ⟨trivial, fun j hj => ?_⟩
      rw [show (xo t N k).length - 1 - 1 - j = (xo t N k).length - 1 - (j + 1) by omega, o2.2 (j + 1) (by omega)]
      cases e : xo t N k with
      | nil => exact absurd e ne
      | cons a l => rfl
    · simp (decide := true) only [jgI_ob, jgf_ob, jgL_ob, jpI_ob, jpL_ob, jpR_ob, jpN_ob, jrc_ob, obj_sV, obj_wF, obj_wG, obj_wR, arr_sV, arr_wF, arr_wG, arr_wR, arL_sV, arL_wF, arL_wG, arL_wR, arR_sV, arR_wF, arR_wG, arR_wR, fI_sV (c := 0), fI_sV (c := 1), fI_sV (c := 2), fI_sV (c := 4), fI_sV (c := 5), fI_sV (c := 7), fI_sV (c := 8), fI_sV (c := 9), fI_sV (c := 10), fI_sV (c := 11), fI_sV (c := 12), fI_sV (c := 6), fL_sV (c := 9), fL_sV (c := 12), fI_sV_k, fL_sV_k, fV_sV_k, fI_wF, fI_wG, fI_wR, fL_wF, fL_wG, fL_wR, fV_wF, fV_wG, fV_wR, aF_sV, aG_sV, aR_sV, aF_wG, aF_wR, aG_wF, aG_wR, aR_wF, aR_wG, gO g3]
      rw [r4]
      unfold upd
      by_cases q : i = k
      · rw [if_pos q, if_neg (by omega), if_pos ⟨c, q⟩]
      · rw [if_neg q, q4]
        unfold upd
        by_cases q2 : i = hd0 (xo t N k)
        · rw [if_pos q2, if_pos ⟨Or.inl c, q2⟩]
        · rw [if_neg q2, if_neg (by omega), if_neg (by omega)]
  · -- others
    have a5 : tK t N k ≠ 5 := fun e => n5 (J5.2 e)
    have a7 : tK t N k ≠ 7 := fun e => n7 (J7.2 e)
    have a9 : tK t N k ≠ 9 := fun e => n9 (J9.2 e)
    have a6 : tK t N k ≠ 6 := fun e => n6 (J6.2 e)
    rw [if_neg (by omega), if_neg a9, if_neg a6] at exo
    refine H h fr_rfl ?_ (fun i hi => ?_)
    · rw [exo]; exact o
    · rw [if_neg (by omega), if_neg (by omega)]
end CQRA
section CQRB
variable {X : JX} {d : Nat} {Q : JQ} {h : JH} {N k : Nat} {t : Nat → Int}
theorem c_stepFollowerB (g : G h) (hk : fI h 17 4 = nI k) (o : ORB h (xo t N k)) (ok : OKt t N k) (ks : ∀ i, i < k → aF h 18 i = nI (tK t N i)) {q : Nat} (hq : q ≤ 20) (H : Q (some (.int (nI (fol 1 (decide (xo t N k ≠ [] ∧ tK t N (hd0 (xo t N k)) = 7)) (decide (xo t N k ≠ [])) q)))) h) : jex X (d + 3) 52 [.ref 17, .int (nI q)] h Q := by
  have k4 : k ≤ 400 := by
    refine Classical.byContradiction (fun c => ?_)
    have := hft_0 (ok 400 (by omega))
    omega
  have l6 := xo_len k ok
  have eq : (nI q).toInt = (q : Int) := nI_toInt (by omega)
  have HH : ∀ (v : Nat) (w : Int32), w = nI v → fol 1 (decide (xo t N k ≠ [] ∧ tK t N (hd0 (xo t N k)) = 7)) (decide (xo t N k ≠ [])) q = v → Q (some (.int w)) h := fun v w ew ev => by rw [ew, ← ev]; exact H
  have D : (0 < fI h 17 9 ↔ xo t N k ≠ []) := by
    rw [o.1]
    constructor
    · intro c e
      rw [e] at c
      exact absurd c (by decide)
    · intro c
      exact nI_lt (a := 0) (List.length_pos_iff.mpr c) (by omega)
  rw [jE_X5_stepFollower]
  refine jT_X5_stepFollower_0 ?_
  simp (decide := true) only [jgI_ob, jgf_ob, jgL_ob, jpI_ob, jpL_ob, jpR_ob, jpN_ob, jrc_ob, obj_sV, obj_wF, obj_wG, obj_wR, arr_sV, arr_wF, arr_wG, arr_wR, arL_sV, arL_wF, arL_wG, arL_wR, arR_sV, arR_wF, arR_wG, arR_wR, fI_sV (c := 0), fI_sV (c := 1), fI_sV (c := 2), fI_sV (c := 4), fI_sV (c := 5), fI_sV (c := 7), fI_sV (c := 8), fI_sV (c := 9), fI_sV (c := 10), fI_sV (c := 11), fI_sV (c := 12), fI_sV (c := 6), fL_sV (c := 9), fL_sV (c := 12), fI_sV_k, fL_sV_k, fV_sV_k, fI_wF, fI_wG, fI_wR, fL_wF, fL_wG, fL_wR, fV_wF, fV_wG, fV_wR, aF_sV, aG_sV, aR_sV, aF_wG, aF_wR, aG_wF, aG_wR, aR_wF, aR_wG, gO g, ti_eq, tl, eq]
  refine ⟨fun c => HH 2 _ rfl (by unfold fol; repeat (first | rw [if_pos (by omega)] | rw [if_neg (by omega)])), fun c1 => ⟨fun c => HH 7 _ rfl (by unfold fol; repeat (first | rw [if_pos (by omega)] | rw [if_neg (by omega)])), fun c2 => ⟨fun c3 => ⟨fun c => HH 1 _ rfl ?_, fun c => HH 0 _ rfl ?_⟩, fun c3 => ⟨fun c => HH 8 _ rfl (by unfold fol; repeat (first | rw [if_pos (by omega)] | rw [if_neg (by omega)])), fun c4 => ⟨fun c => HH 0 _ rfl (by unfold fol; repeat (first | rw [if_pos (by omega)] | rw [if_neg (by omega)])), fun c5 => ⟨fun c6 => ⟨fun c => ?_, fun c => HH 0 _ rfl ?_⟩, fun c6 => HH 0 _ rfl (by unfold fol; repeat (first | rw [if_pos (by omega)] | rw [if_neg (by omega)]))⟩⟩⟩⟩⟩⟩
  · unfold fol
    rw [if_pos rfl, if_neg (by omega), if_neg (by omega), if_neg (by omega), if_neg (by omega), if_pos (by omega), if_pos (decide_eq_true (D.1 c))]
  · unfold fol
    rw [if_pos rfl, if_neg (by omega), if_neg (by omega), if_neg (by omega), if_neg (by omega), if_pos (by omega), if_neg (fun w => c (D.2 (of_decide_eq_true w)))]
  · have ne := D.1 c
    have hm := xo_m k _ (hd0_mem ne)
    refine c_openB g o l6 (fun _ => ?_) (fun e => absurd e ne)
    try dsimp only [jrI, jrN, jrA, jisr, jnul, jcat1]
    rw [jrc_ob (by simp only [gO g])]
    refine c_kindB g hk k4 (fun i hi e => ?_) (fun e => absurd rfl (e _ hm.1))
    have ei : hd0 (xo t N k) = i := (nI_eq (by omega) (by omega)).1 e
    rw [ks i hi, ← ei]
    try dsimp only [jrI, jrN, jrA, jisr, jnul, jcat1]
    have et : (nI (tK t N (hd0 (xo t N k)))).toInt = (tK t N (hd0 (xo t N k)) : Nat) := nI_toInt (by have := tkK_r (t := t) (N := N) (tS t N (hd0 (xo t N k))); unfold tK; omega)
    rw [et]
    refine ⟨fun c7 => HH 1 _ rfl ?_, fun c7 => HH 0 _ rfl ?_⟩
    · unfold fol
      rw [if_pos rfl, if_neg (by omega), if_neg (by omega), if_neg (by omega), if_pos (by omega), if_pos (decide_eq_true ⟨ne, by omega⟩)]
    · unfold fol
      rw [if_pos rfl, if_neg (by omega), if_neg (by omega), if_neg (by omega), if_pos (by omega), if_neg (fun w => by have := (of_decide_eq_true w).2; omega)]
  · unfold fol
    rw [if_pos rfl, if_neg (by omega), if_neg (by omega), if_neg (by omega), if_pos (by omega), if_neg (fun w => c (D.2 (of_decide_eq_true w).1))]
theorem c_followerB (g : G h) (hk : fI h 17 4 = nI k) (h7 : fI h 17 7 = nI (xe t N k)) (o : ORB h (xo t N k)) (ok : OKt t N k) (ks : ∀ i, i < k → aF h 18 i = nI (tK t N i)) (H : Q (some (.int (nI (fwl t N k)))) h) : jex X (d + 4) 51 [.ref 17, .int (nI (tK t N k))] h Q := by
  have hq : tK t N k ≤ 20 := tkK_r _
  have x1 := xe_1 ok
  have F : ∀ (s0 : Int32) (o2 : Option Value) (c s : Nat), (s0 = 1 ∧ (tK t N k = 2 ∨ tK t N k = 3)) ∨ (s0 = 0 ∧ ¬ (tK t N k = 2 ∨ tK t N k = 3)) → jB_X5_follower_15 X (d + 3) Q 17 (nI (tK t N k)) o2 s0 h c s := by
    intro s0 o2 c s hs
    refine jT_X5_follower_15 ?_
    rw [jgI_ob (c := 5) (by simp only [gO g]) rfl, h7]
    by_cases c1 : xe t N k = 1
    · refine jif_t (by rw [c1]; rfl) ?_
      rw [jrc_ob (by simp only [gO g])]
      unfold fwl at H
      rw [c1] at H
      refine c_stepFollowerB g hk o ok ks hq ?_
      try dsimp only [jrI, jrN, jrA, jisr, jnul, jcat1]
      exact H
    · refine jif_n (fun e => c1 ((nI_eq (b := 1) (by omega) (by omega)).1 e)) ?_
      have HH : ∀ (v : Nat) (w : Int32), w = nI v → fol (xe t N k) (decide (xo t N k ≠ [] ∧ tK t N (hd0 (xo t N k)) = 7)) (decide (xo t N k ≠ [])) (tK t N k) = v → Q (some (.int w)) h := fun v w ew ev => by rw [ew, ← ev]; exact H
      have ee : (nI (xe t N k)).toInt = (xe t N k : Int) := nI_toInt (by omega)
      have eq : (nI (tK t N k)).toInt = (tK t N k : Int) := nI_toInt (by omega)
      generalize xe t N k = e at *
      generalize tK t N k = q at *
      clear H h7
      rcases hs with ⟨es, ha⟩ | ⟨es, ha⟩
      · subst es
        simp (decide := true) only [ti_eq, ti_lt, tl, ee, eq, jif_T, jif_F]
        repeat' (first | refine And.intro (fun c => ?_) (fun c => ?_))
        all_goals (first | (exfalso; omega) | exact HH 0 _ rfl (by unfold fol; repeat (first | rw [if_pos (by omega)] | rw [if_neg (by omega)])) | exact HH 1 _ rfl (by unfold fol; repeat (first | rw [if_pos (by omega)] | rw [if_neg (by omega)])) | exact HH 3 _ rfl (by unfold fol; repeat (first | rw [if_pos (by omega)] | rw [if_neg (by omega)])) | exact HH 4 _ rfl (by unfold fol; repeat (first | rw [if_pos (by omega)] | rw [if_neg (by omega)])) | exact HH 5 _ rfl (by unfold fol; repeat (first | rw [if_pos (by omega)] | rw [if_neg (by omega)])) | exact HH 6 _ rfl (by unfold fol; repeat (first | rw [if_pos (by omega)] | rw [if_neg (by omega)])) | exact HH 9 _ rfl (by unfold fol; repeat (first | rw [if_pos (by omega)] | rw [if_neg (by omega)])) | exact HH 10 _ rfl (by unfold fol; repeat (first | rw [if_pos (by omega)] | rw [if_neg (by omega)])) | exact HH 11 _ rfl (by unfold fol; repeat (first | rw [if_pos (by omega)] | rw [if_neg (by omega)])))
      · subst es
        simp (decide := true) only [ti_eq, ti_lt, tl, ee, eq, jif_T, jif_F]
        repeat' (first | refine And.intro (fun c => ?_) (fun c => ?_))
        all_goals (first | (exfalso; omega) | exact HH 0 _ rfl (by unfold fol; repeat (first | rw [if_pos (by omega)] | rw [if_neg (by omega)])) | exact HH 1 _ rfl (by unfold fol; repeat (first | rw [if_pos (by omega)] | rw [if_neg (by omega)])) | exact HH 3 _ rfl (by unfold fol; repeat (first | rw [if_pos (by omega)] | rw [if_neg (by omega)])) | exact HH 4 _ rfl (by unfold fol; repeat (first | rw [if_pos (by omega)] | rw [if_neg (by omega)])) | exact HH 5 _ rfl (by unfold fol; repeat (first | rw [if_pos (by omega)] | rw [if_neg (by omega)])) | exact HH 6 _ rfl (by unfold fol; repeat (first | rw [if_pos (by omega)] | rw [if_neg (by omega)])) | exact HH 9 _ rfl (by unfold fol; repeat (first | rw [if_pos (by omega)] | rw [if_neg (by omega)])) | exact HH 10 _ rfl (by unfold fol; repeat (first | rw [if_pos (by omega)] | rw [if_neg (by omega)])) | exact HH 11 _ rfl (by unfold fol; repeat (first | rw [if_pos (by omega)] | rw [if_neg (by omega)])))
  rw [jE_X5_follower]
  refine jT_X5_follower_0 ?_
  have eq : (nI (tK t N k)).toInt = (tK t N k : Int) := nI_toInt (by omega)
  refine ⟨fun c => F 1 _ _ _ (Or.inl ⟨rfl, ?_⟩), fun c => ⟨fun c2 => F 1 _ _ _ (Or.inl ⟨rfl, ?_⟩), fun c2 => F 0 _ _ _ (Or.inr ⟨rfl, ?_⟩)⟩⟩
  · rw [ti_eq, eq] at c; exact Or.inl (by have : (2 : Int32).toInt = 2 := rfl; omega)
  · rw [ti_eq, eq] at c2; exact Or.inr (by have : (3 : Int32).toInt = 3 := rfl; omega)
  · rw [ti_eq, eq] at c c2
    have : (2 : Int32).toInt = 2 := rfl
    have : (3 : Int32).toInt = 3 := rfl
    omega
theorem c_joinB (g : G h) (hk : fI h 17 4 = nI (k + 1)) (o : ORB h (xo t N k)) (ok : OKt t N k) (o0 : hft t N k = 0) (H : ∀ h1, fr [21, 23] [(17, 9)] h h1 → ORB h1 (xo t N (k + 1)) → (∀ i, i ≤ k → aF h1 21 i = if (tK t N k = 6 ∨ tK t N k = 9) ∧ i = hd0 (xo t N k) then nI k else if tK t N k = 6 ∧ i = k then nI (hd0 (xo t N k)) else aF h 21 i) → Q none h1) : jex X (d + 3) 59 [.ref 17, .int (nI (tK t N k)), .int (nI k)] h Q := by
  obtain ⟨f1, k4, f3, f4⟩ := hft_0 o0
  have fi := fwl_inv f1
  have hq : tK t N k ≤ 20 := tkK_r _
  have l6 := xo_len k ok
  have eq : (nI (tK t N k)).toInt = (tK t N k : Int) := nI_toInt (by omega)
  have exo := xo_s (t := t) (N := N) (k := k)
  have ne : (tK t N k = 6 ∨ tK t N k = 9) → xo t N k ≠ [] := by
    intro c
    rcases fi with ⟨_, fi⟩ | fi
    · rcases fi with fi | fi | fi | fi | fi
      · omega
      · omega
      · omega
      · exact fi.2.2.1
      · exact fi.2.2
    · omega
  rw [jE_X5_joinTokens]
  refine jT_X5_joinTokens_0 ?_
  have J : ∀ c : Nat, c < 100 → (nI (tK t N k) = nI c ↔ tK t N k = c) := fun c hc => nI_eq (by omega) (by omega)
  have J5 : nI (tK t N k) = 5 ↔ tK t N k = 5 := J 5 (by omega)
  have J7 : nI (tK t N k) = 7 ↔ tK t N k = 7 := J 7 (by omega)
  have J9 : nI (tK t N k) = 9 ↔ tK t N k = 9 := J 9 (by omega)
  have J6 : nI (tK t N k) = 6 ↔ tK t N k = 6 := J 6 (by omega)
  have PUSH : (tK t N k = 5 ∨ tK t N k = 7) → jgI h (.ref 17) 5 9 (fun x1 => (jpf h (.ref 17) 5 9 (.int (x1 + 1)) fun h2 => (jrc h2 (.ref 17) 5 (jex X (d + 2) 60 [.ref 17, .int (nI k)] h2 fun r4 h3 => (jrN r4 (Q none h3)))))) := by
    intro c
    have l5 := f4 c
    rw [if_pos c] at exo
    simp (decide := true) only [jgI_ob, jgf_ob, jgL_ob, jpI_ob, jpL_ob, jpR_ob, jpN_ob, jrc_ob, obj_sV, obj_wF, obj_wG, obj_wR, arr_sV, arr_wF, arr_wG, arr_wR, arL_sV, arL_wF, arL_wG, arL_wR, arR_sV, arR_wF, arR_wG, arR_wR, fI_sV (c := 0), fI_sV (c := 1), fI_sV (c := 2), fI_sV (c := 4), fI_sV (c := 5), fI_sV (c := 7), fI_sV (c := 8), fI_sV (c := 9), fI_sV (c := 10), fI_sV (c := 11), fI_sV (c := 12), fI_sV (c := 6), fL_sV (c := 9), fL_sV (c := 12), fI_sV_k, fL_sV_k, fV_sV_k, fI_wF, fI_wG, fI_wR, fL_wF, fL_wG, fL_wR, fV_wF, fV_wG, fV_wR, aF_sV, aG_sV, aR_sV, aF_wG, aF_wR, aG_wF, aG_wR, aR_wF, aR_wG, gO g, o.1]
    rw [nI_1]
    have k1 : fr [21, 23] [(17, 9)] h (sV h 17 9 (.int (nI ((xo t N k).length + 1)))) := fr_sV (by decide) fr_rfl
    have q9 : fI (sV h 17 9 (.int (nI ((xo t N k).length + 1)))) 17 9 = nI ((xo t N k).length + 1) := by simp (decide := true) only [jgI_ob, jgf_ob, jgL_ob, jpI_ob, jpL_ob, jpR_ob, jpN_ob, jrc_ob, obj_sV, obj_wF, obj_wG, obj_wR, arr_sV, arr_wF, arr_wG, arr_wR, arL_sV, arL_wF, arL_wG, arL_wR, arR_sV, arR_wF, arR_wG, arR_wR, fI_sV (c := 0), fI_sV (c := 1), fI_sV (c := 2), fI_sV (c := 4), fI_sV (c := 5), fI_sV (c := 7), fI_sV (c := 8), fI_sV (c := 9), fI_sV (c := 10), fI_sV (c := 11), fI_sV (c := 12), fI_sV (c := 6), fL_sV (c := 9), fL_sV (c := 12), fI_sV_k, fL_sV_k, fV_sV_k, fI_wF, fI_wG, fI_wR, fL_wF, fL_wG, fL_wR, fV_wF, fV_wG, fV_wR, aF_sV, aG_sV, aR_sV, aF_wG, aF_wR, aG_wF, aG_wR, aR_wF, aR_wG, gO g]
    have q6 : aF (sV h 17 9 (.int (nI ((xo t N k).length + 1)))) 23 = aF h 23 := by simp (decide := true) only [jgI_ob, jgf_ob, jgL_ob, jpI_ob, jpL_ob, jpR_ob, jpN_ob, jrc_ob, obj_sV, obj_wF, obj_wG, obj_wR, arr_sV, arr_wF, arr_wG, arr_wR, arL_sV, arL_wF, arL_wG, arL_wR, arR_sV, arR_wF, arR_wG, arR_wR, fI_sV (c := 0), fI_sV (c := 1), fI_sV (c := 2), fI_sV (c := 4), fI_sV (c := 5), fI_sV (c := 7), fI_sV (c := 8), fI_sV (c := 9), fI_sV (c := 10), fI_sV (c := 11), fI_sV (c := 12), fI_sV (c := 6), fL_sV (c := 9), fL_sV (c := 12), fI_sV_k, fL_sV_k, fV_sV_k, fI_wF, fI_wG, fI_wR, fL_wF, fL_wG, fL_wR, fV_wF, fV_wG, fV_wR, aF_sV, aG_sV, aR_sV, aF_wG, aF_wR, aG_wF, aG_wR, aR_wF, aR_wG, gO g]
    have q4 : aF (sV h 17 9 (.int (nI ((xo t N k).length + 1)))) 21 = aF h 21 := by simp (decide := true) only [jgI_ob, jgf_ob, jgL_ob, jpI_ob, jpL_ob, jpR_ob, jpN_ob, jrc_ob, obj_sV, obj_wF, obj_wG, obj_wR, arr_sV, arr_wF, arr_wG, arr_wR, arL_sV, arL_wF, arL_wG, arL_wR, arR_sV, arR_wF, arR_wG, arR_wR, fI_sV (c := 0), fI_sV (c := 1), fI_sV (c := 2), fI_sV (c := 4), fI_sV (c := 5), fI_sV (c := 7), fI_sV (c := 8), fI_sV (c := 9), fI_sV (c := 10), fI_sV (c := 11), fI_sV (c := 12), fI_sV (c := 6), fL_sV (c := 9), fL_sV (c := 12), fI_sV_k, fL_sV_k, fV_sV_k, fI_wF, fI_wG, fI_wR, fL_wF, fL_wG, fL_wR, fV_wF, fV_wG, fV_wR, aF_sV, aG_sV, aR_sV, aF_wG, aF_wR, aG_wF, aG_wR, aR_wF, aR_wG, gO g]
    generalize sV h 17 9 (.int (nI ((xo t N k).length + 1))) = h2 at *
    have g2 := G_fr g rfl k1
    change jex X (d + 1 + 1) 60 _ _ _
    refine c_setOpenB g2 q9 (by omega) (by omega) ?_
    try dsimp only [jrI, jrN, jrA, jisr, jnul, jcat1]
    refine H _ (fr_wF (by decide) k1) ?_ (fun i hi => ?_)
    · rw [exo]
      unfold ORB
      rw [List.length_cons]
      simp (decide := true) only [jgI_ob, jgf_ob, jgL_ob, jpI_ob, jpL_ob, jpR_ob, jpN_ob, jrc_ob, obj_sV, obj_wF, obj_wG, obj_wR, arr_sV, arr_wF, arr_wG, arr_wR, arL_sV, arL_wF, arL_wG, arL_wR, arR_sV, arR_wF, arR_wG, arR_wR, fI_sV (c := 0), fI_sV (c := 1), fI_sV (c := 2), fI_sV (c := 4), fI_sV (c := 5), fI_sV (c := 7), fI_sV (c := 8), fI_sV (c := 9), fI_sV (c := 10), fI_sV (c := 11), fI_sV (c := 12), fI_sV (c := 6), fL_sV (c := 9), fL_sV (c := 12), fI_sV_k, fL_sV_k, fV_sV_k, fI_wF, fI_wG, fI_wR, fL_wF, fL_wG, fL_wR, fV_wF, fV_wG, fV_wR, aF_sV, aG_sV, aR_sV, aF_wG, aF_wR, aG_wF, aG_wR, aR_wF, aR_wG, kC, kM, gO g2]
      refine ⟨q9, fun j hj => ?_⟩
      rw [q6]
      unfold upd
      cases j with
      | zero => rw [if_pos (by omega)]; rfl
      | succ j =>
        rw [if_neg (by omega), show (xo t N k).length + 1 - 1 - (j + 1) = (xo t N k).length - 1 - j by omega, o.2 j (by omega)]
        rfl
    · rw [if_neg (by omega), if_neg (by omega)]
      simp (decide := true) only [jgI_ob, jgf_ob, jgL_ob, jpI_ob, jpL_ob, jpR_ob, jpN_ob, jrc_ob, obj_sV, obj_wF, obj_wG, obj_wR, arr_sV, arr_wF, arr_wG, arr_wR, arL_sV, arL_wF, arL_wG, arL_wR, arR_sV, arR_wF, arR_wG, arR_wR, fI_sV (c := 0), fI_sV (c := 1), fI_sV (c := 2), fI_sV (c := 4), fI_sV (c := 5), fI_sV (c := 7), fI_sV (c := 8), fI_sV (c := 9), fI_sV (c := 10), fI_sV (c := 11), fI_sV (c := 12), fI_sV (c := 6), fL_sV (c := 9), fL_sV (c := 12), fI_sV_k, fL_sV_k, fV_sV_k, fI_wF, fI_wG, fI_wR, fL_wF, fL_wG, fL_wR, fV_wF, fV_wG, fV_wR, aF_sV, aG_sV, aR_sV, aF_wG, aF_wR, aG_wF, aG_wR, aR_wF, aR_wG, gO g2, aF_wF_ne]
      rw [q4]
  refine ⟨fun c => PUSH (Or.inl (J5.1 c)), fun n5 => ⟨fun c => PUSH (Or.inr (J7.1 c)), fun n7 => ⟨fun c => ?_, fun n9 => ⟨fun c => ?_, fun n6 => ?_⟩⟩⟩⟩
  · -- else
    have c := J9.1 c
    have ne := ne (Or.inr c)
    have lp := List.length_pos_iff.mpr ne
    have hm := xo_m k _ (hd0_mem ne)
    rw [if_neg (by omega), if_pos c] at exo
    rw [jrc_ob (by simp only [gO g])]
    change jex X (d + 1 + 1) 53 _ _ _
    refine c_openB g o l6 (fun _ => ?_) (fun e => absurd e ne)
    try dsimp only [jrI, jrN, jrA, jisr, jnul, jcat1]
    rw [jrc_ob (by simp only [gO g])]
    change jex X (d + 2) 58 _ _ _
    refine c_setSecB g hk (by omega) (i := hd0 (xo t N k)) (by omega) ?_
    try dsimp only [jrI, jrN, jrA, jisr, jnul, jcat1]
    have k1 : fr [21, 23] [(17, 9)] h (wF h 21 (upd (aF h 21) (hd0 (xo t N k)) (nI k))) := fr_wF (by decide) fr_rfl
    have q4 : aF (wF h 21 (upd (aF h 21) (hd0 (xo t N k)) (nI k))) 21 = upd (aF h 21) (hd0 (xo t N k)) (nI k) := by simp (decide := true) only [jgI_ob, jgf_ob, jgL_ob, jpI_ob, jpL_ob, jpR_ob, jpN_ob, jrc_ob, obj_sV, obj_wF, obj_wG, obj_wR, arr_sV, arr_wF, arr_wG, arr_wR, arL_sV, arL_wF, arL_wG, arL_wR, arR_sV, arR_wF, arR_wG, arR_wR, fI_sV (c := 0), fI_sV (c := 1), fI_sV (c := 2), fI_sV (c := 4), fI_sV (c := 5), fI_sV (c := 7), fI_sV (c := 8), fI_sV (c := 9), fI_sV (c := 10), fI_sV (c := 11), fI_sV (c := 12), fI_sV (c := 6), fL_sV (c := 9), fL_sV (c := 12), fI_sV_k, fL_sV_k, fV_sV_k, fI_wF, fI_wG, fI_wR, fL_wF, fL_wG, fL_wR, fV_wF, fV_wG, fV_wR, aF_sV, aG_sV, aR_sV, aF_wG, aF_wR, aG_wF, aG_wR, aR_wF, aR_wG, kC, kM, gO g]
    have o1 := OR_frB o (fr_wF (A := [21]) (F := []) (p := 21) (g := upd (aF h 21) (hd0 (xo t N k)) (nI k)) (by decide) fr_rfl) (by decide) (by decide)
    generalize wF h 21 (upd (aF h 21) (hd0 (xo t N k)) (nI k)) = h2 at *
    have g2 := G_fr g rfl k1
    rw [jrc_ob (by simp only [gO g2])]
    change jex X (d + 1 + 1) 60 _ _ _
    refine c_setOpenB g2 o1.1 lp l6 ?_
    try dsimp only [jrI, jrN, jrA, jisr, jnul, jcat1]
    refine H _ (fr_wF (by decide) k1) ?_ (fun i hi => ?_)
    · rw [exo]
      unfold ORB
      rw [List.length_cons, List.length_tail]
      simp (decide := true) only [jgI_ob, jgf_ob, jgL_ob, jpI_ob, jpL_ob, jpR_ob, jpN_ob, jrc_ob, obj_sV, obj_wF, obj_wG, obj_wR, arr_sV, arr_wF, arr_wG, arr_wR, arL_sV, arL_wF, arL_wG, arL_wR, arR_sV, arR_wF, arR_wG, arR_wR, fI_sV (c := 0), fI_sV (c := 1), fI_sV (c := 2), fI_sV (c := 4), fI_sV (c := 5), fI_sV (c := 7), fI_sV (c := 8), fI_sV (c := 9), fI_sV (c := 10), fI_sV (c := 11), fI_sV (c := 12), fI_sV (c := 6), fL_sV (c := 9), fL_sV (c := 12), fI_sV_k, fL_sV_k, fV_sV_k, fI_wF, fI_wG, fI_wR, fL_wF, fL_wG, fL_wR, fV_wF, fV_wG, fV_wR, aF_sV, aG_sV, aR_sV, aF_wG, aF_wR, aG_wF, aG_wR, aR_wF, aR_wG, kC, kM, gO g2]
      refine ⟨by rw [o1.1]; congr 1; omega, fun j hj => ?_⟩
      unfold upd
      cases j with
      | zero => rw [if_pos (by omega)]; rfl
      | succ j =>
        rw [if_neg (by omega), show (xo t N k).length - 1 + 1 - 1 - (j + 1) = (xo t N k).length - 1 - (j + 1) by omega, o1.2 (j + 1) (by omega)]
        cases e : xo t N k with
        | nil => exact absurd e ne
        | cons a l => rfl
    · simp (decide := true) only [jgI_ob, jgf_ob, jgL_ob, jpI_ob, jpL_ob, jpR_ob, jpN_ob, jrc_ob, obj_sV, obj_wF, obj_wG, obj_wR, arr_sV, arr_wF, arr_wG, arr_wR, arL_sV, arL_wF, arL_wG, arL_wR, arR_sV, arR_wF, arR_wG, arR_wR, fI_sV (c := 0), fI_sV (c := 1), fI_sV (c := 2), fI_sV (c := 4), fI_sV (c := 5), fI_sV (c := 7), fI_sV (c := 8), fI_sV (c := 9), fI_sV (c := 10), fI_sV (c := 11), fI_sV (c := 12), fI_sV (c := 6), fL_sV (c := 9), fL_sV (c := 12), fI_sV_k, fL_sV_k, fV_sV_k, fI_wF, fI_wG, fI_wR, fL_wF, fL_wG, fL_wR, fV_wF, fV_wG, fV_wR, aF_sV, aG_sV, aR_sV, aF_wG, aF_wR, aG_wF, aG_wR, aR_wF, aR_wG, gO g2, aF_wF_ne]
      rw [q4]
      unfold upd
      by_cases q : i = hd0 (xo t N k)
      · rw [if_pos q, if_pos ⟨Or.inr c, q⟩]
      · rw [if_neg q, if_neg (by omega), if_neg (by omega)]
  · -- end
    have c := J6.1 c
    have ne := ne (Or.inl c)
    have lp := List.length_pos_iff.mpr ne
    have hm := xo_m k _ (hd0_mem ne)
    rw [if_neg (by omega), if_neg (by omega), if_pos c] at exo
    rw [jrc_ob (by simp only [gO g])]
    change jex X (d + 1 + 1) 53 _ _ _
    refine c_openB g o l6 (fun _ => ?_) (fun e => absurd e ne)
    try dsimp only [jrI, jrN, jrA, jisr, jnul, jcat1]
    rw [jrc_ob (by simp only [gO g])]
    change jex X (d + 2) 58 _ _ _
    refine c_setSecB g hk (by omega) (i := hd0 (xo t N k)) (by omega) ?_
    try dsimp only [jrI, jrN, jrA, jisr, jnul, jcat1]
    have k1 : fr [21, 23] [(17, 9)] h (wF h 21 (upd (aF h 21) (hd0 (xo t N k)) (nI k))) := fr_wF (by decide) fr_rfl
    have q4 : aF (wF h 21 (upd (aF h 21) (hd0 (xo t N k)) (nI k))) 21 = upd (aF h 21) (hd0 (xo t N k)) (nI k) := by simp (decide := true) only [jgI_ob, jgf_ob, jgL_ob, jpI_ob, jpL_ob, jpR_ob, jpN_ob, jrc_ob, obj_sV, obj_wF, obj_wG, obj_wR, arr_sV, arr_wF, arr_wG, arr_wR, arL_sV, arL_wF, arL_wG, arL_wR, arR_sV, arR_wF, arR_wG, arR_wR, fI_sV (c := 0), fI_sV (c := 1), fI_sV (c := 2), fI_sV (c := 4), fI_sV (c := 5), fI_sV (c := 7), fI_sV (c := 8), fI_sV (c := 9), fI_sV (c := 10), fI_sV (c := 11), fI_sV (c := 12), fI_sV (c := 6), fL_sV (c := 9), fL_sV (c := 12), fI_sV_k, fL_sV_k, fV_sV_k, fI_wF, fI_wG, fI_wR, fL_wF, fL_wG, fL_wR, fV_wF, fV_wG, fV_wR, aF_sV, aG_sV, aR_sV, aF_wG, aF_wR, aG_wF, aG_wR, aR_wF, aR_wG, kC, kM, gO g]
    have o1 := OR_frB o (fr_wF (A := [21]) (F := []) (p := 21) (g := upd (aF h 21) (hd0 (xo t N k)) (nI k)) (by decide) fr_rfl) (by decide) (by decide)
    have qk : fI (wF h 21 (upd (aF h 21) (hd0 (xo t N k)) (nI k))) 17 4 = nI (k + 1) := by simp (decide := true) only [jgI_ob, jgf_ob, jgL_ob, jpI_ob, jpL_ob, jpR_ob, jpN_ob, jrc_ob, obj_sV, obj_wF, obj_wG, obj_wR, arr_sV, arr_wF, arr_wG, arr_wR, arL_sV, arL_wF, arL_wG, arL_wR, arR_sV, arR_wF, arR_wG, arR_wR, fI_sV (c := 0), fI_sV (c := 1), fI_sV (c := 2), fI_sV (c := 4), fI_sV (c := 5), fI_sV (c := 7), fI_sV (c := 8), fI_sV (c := 9), fI_sV (c := 10), fI_sV (c := 11), fI_sV (c := 12), fI_sV (c := 6), fL_sV (c := 9), fL_sV (c := 12), fI_sV_k, fL_sV_k, fV_sV_k, fI_wF, fI_wG, fI_wR, fL_wF, fL_wG, fL_wR, fV_wF, fV_wG, fV_wR, aF_sV, aG_sV, aR_sV, aF_wG, aF_wR, aG_wF, aG_wR, aR_wF, aR_wG, gO g, hk]
    generalize wF h 21 (upd (aF h 21) (hd0 (xo t N k)) (nI k)) = h2 at *
    have g2 := G_fr g rfl k1
    rw [jrc_ob (by simp only [gO g2])]
    change jex X (d + 1 + 1) 53 _ _ _
    refine c_openB g2 o1 l6 (fun _ => ?_) (fun e => absurd e ne)
    try dsimp only [jrI, jrN, jrA, jisr, jnul, jcat1]
    rw [jrc_ob (by simp only [gO g2])]
    change jex X (d + 2) 58 _ _ _
    refine c_setSecB g2 qk (by omega) (i := k) (by omega) ?_
    try dsimp only [jrI, jrN, jrA, jisr, jnul, jcat1]
    have o2 := OR_frB o1 (fr_wF (A := [21]) (F := []) (p := 21) (g := upd (aF h2 21) k (nI (hd0 (xo t N k)))) (by decide) fr_rfl) (by decide) (by decide)
    have k2 : fr [21, 23] [(17, 9)] h (wF h2 21 (upd (aF h2 21) k (nI (hd0 (xo t N k))))) := fr_wF (by decide) k1
    have r4 : aF (wF h2 21 (upd (aF h2 21) k (nI (hd0 (xo t N k))))) 21 = upd (aF h2 21) k (nI (hd0 (xo t N k))) := by simp (decide := true) only [jgI_ob, jgf_ob, jgL_ob, jpI_ob, jpL_ob, jpR_ob, jpN_ob, jrc_ob, obj_sV, obj_wF, obj_wG, obj_wR, arr_sV, arr_wF, arr_wG, arr_wR, arL_sV, arL_wF, arL_wG, arL_wR, arR_sV, arR_wF, arR_wG, arR_wR, fI_sV (c := 0), fI_sV (c := 1), fI_sV (c := 2), fI_sV (c := 4), fI_sV (c := 5), fI_sV (c := 7), fI_sV (c := 8), fI_sV (c := 9), fI_sV (c := 10), fI_sV (c := 11), fI_sV (c := 12), fI_sV (c := 6), fL_sV (c := 9), fL_sV (c := 12), fI_sV_k, fL_sV_k, fV_sV_k, fI_wF, fI_wG, fI_wR, fL_wF, fL_wG, fL_wR, fV_wF, fV_wG, fV_wR, aF_sV, aG_sV, aR_sV, aF_wG, aF_wR, aG_wF, aG_wR, aR_wF, aR_wG, kC, kM, gO g2]
    generalize wF h2 21 (upd (aF h2 21) k (nI (hd0 (xo t N k)))) = h3 at *
    have g3 := G_fr g rfl k2
    simp (decide := true) only [jgI_ob, jgf_ob, jgL_ob, jpI_ob, jpL_ob, jpR_ob, jpN_ob, jrc_ob, obj_sV, obj_wF, obj_wG, obj_wR, arr_sV, arr_wF, arr_wG, arr_wR, arL_sV, arL_wF, arL_wG, arL_wR, arR_sV, arR_wF, arR_wG, arR_wR, fI_sV (c := 0), fI_sV (c := 1), fI_sV (c := 2), fI_sV (c := 4), fI_sV (c := 5), fI_sV (c := 7), fI_sV (c := 8), fI_sV (c := 9), fI_sV (c := 10), fI_sV (c := 11), fI_sV (c := 12), fI_sV (c := 6), fL_sV (c := 9), fL_sV (c := 12), fI_sV_k, fL_sV_k, fV_sV_k, fI_wF, fI_wG, fI_wR, fL_wF, fL_wG, fL_wR, fV_wF, fV_wG, fV_wR, aF_sV, aG_sV, aR_sV, aF_wG, aF_wR, aG_wF, aG_wR, aR_wF, aR_wG, gO g3, o2.1]
    rw [show nI (xo t N k).length - 1 = nI ((xo t N k).length - 1) from pk_sub (b := 1) lp]
    refine H _ (fr_sV (by decide) k2) ?_ (fun i hi => ?_)
    · rw [exo]
      unfold ORB
      rw [List.length_tail]
      simp (decide := true) only [jgI_ob, jgf_ob, jgL_ob, jpI_ob, jpL_ob, jpR_ob, jpN_ob, jrc_ob, obj_sV, obj_wF, obj_wG, obj_wR, arr_sV, arr_wF, arr_wG, arr_wR, arL_sV, arL_wF, arL_wG, arL_wR, arR_sV, arR_wF, arR_wG, arR_wR, fI_sV (c := 0), fI_sV (c := 1), fI_sV (c := 2), fI_sV (c := 4), fI_sV (c := 5), fI_sV (c := 7), fI_sV (c := 8), fI_sV (c := 9), fI_sV (c := 10), fI_sV (c := 11), fI_sV (c := 12), fI_sV (c := 6), fL_sV (c := 9), fL_sV (c := 12), fI_sV_k, fL_sV_k, fV_sV_k, fI_wF, fI_wG, fI_wR, fL_wF, fL_wG, fL_wR, fV_wF, fV_wG, fV_wR, aF_sV, aG_sV, aR_sV, aF_wG, aF_wR, aG_wF, aG_wR, aR_wF, aR_wG, kC, kM, gO g3]
      refine ⟨trivial, fun j hj => ?_⟩
      rw [show (xo t N k).length - 1 - 1 - j = (xo t N k).length - 1 - (j + 1) by omega, o2.2 (j + 1) (by omega)]
      cases e : xo t N k with
      | nil => exact absurd e ne
      | cons a l => rfl
    · simp (decide := true) only [jgI_ob, jgf_ob, jgL_ob, jpI_ob, jpL_ob, jpR_ob, jpN_ob, jrc_ob, obj_sV, obj_wF, obj_wG, obj_wR, arr_sV, arr_wF, arr_wG, arr_wR, arL_sV, arL_wF, arL_wG, arL_wR, arR_sV, arR_wF, arR_wG, arR_wR, fI_sV (c := 0), fI_sV (c := 1), fI_sV (c := 2), fI_sV (c := 4), fI_sV (c := 5), fI_sV (c := 7), fI_sV (c := 8), fI_sV (c := 9), fI_sV (c := 10), fI_sV (c := 11), fI_sV (c := 12), fI_sV (c := 6), fL_sV (c := 9), fL_sV (c := 12), fI_sV_k, fL_sV_k, fV_sV_k, fI_wF, fI_wG, fI_wR, fL_wF, fL_wG, fL_wR, fV_wF, fV_wG, fV_wR, aF_sV, aG_sV, aR_sV, aF_wG, aF_wR, aG_wF, aG_wR, aR_wF, aR_wG, gO g3]
      rw [r4]
      unfold upd
      by_cases q : i = k
      · rw [if_pos q, if_neg (by omega), if_pos ⟨c, q⟩]
      · rw [if_neg q, q4]
        unfold upd
        by_cases q2 : i = hd0 (xo t N k)
        · rw [if_pos q2, if_pos ⟨Or.inl c, q2⟩]
        · rw [if_neg q2, if_neg (by omega), if_neg (by omega)]
  · -- others
    have a5 : tK t N k ≠ 5 := fun e => n5 (J5.2 e)
    have a7 : tK t N k ≠ 7 := fun e => n7 (J7.2 e)
    have a9 : tK t N k ≠ 9 := fun e => n9 (J9.2 e)
    have a6 : tK t N k ≠ 6 := fun e => n6 (J6.2 e)
    rw [if_neg (by omega), if_neg a9, if_neg a6] at exo
    refine H h fr_rfl ?_ (fun i hi => ?_)
    · rw [exo]; exact o
    · rw [if_neg (by omega), if_neg (by omega)]
end CQRB
