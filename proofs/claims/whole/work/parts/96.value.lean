/-! VALUES AND COUNTS -/
section VAL
variable {X : JX} {h : JH} {n : Nat} {m ρ τ f : Nat → Nat} {b t : Nat → Bool} {fl : Nat → Nat → Int}
/-- names of the program: as many in class and model -/
theorem PR_names (pr : PR h) : ∃ (p c : Nat), (p = 10 ∨ p = 17) ∧ fV h 0 5 = .ref p ∧ fI h p 6 = nI c ∧ aF h 102 0 = nI c ∧ c ≤ 12 := by
  obtain ⟨t, N, K, x1, x2, x3, x4, x5, x6⟩ := pr
  have nl := nms_len K x2.1
  rcases x6 with ⟨y1, y2, y3⟩ | ⟨y1, y2, y3⟩
  · exact ⟨10, _, Or.inl rfl, y1, y3.2.1.1, x5.2.2.2.2, nl⟩
  · exact ⟨17, _, Or.inr rfl, y1, y3.2.1.1, x5.2.2.2.2, nl⟩
theorem pr_obj (g : G h) {p : Nat} (hp : p = 10 ∨ p = 17) : obj h p 5 := by
  rcases hp with e | e <;> subst e <;> simp only [gO g]
theorem a_count (g : G h) (rb : RB h n m ρ τ b f t fl) (fc : FC h) (fa : FA h n m f t) (pr : PR h) (tp : TP h) (hs : ST h) {a : Int32} : AGR X 302 303 [.int a] h (fun h2 => fr [] [] h h2) := by
  intro Q KK
  obtain ⟨p, c, hp, p5, p6, p102, c12⟩ := PR_names pr
  have ob := pr_obj g hp
  have e4 : fI h 0 2 = fI h 81 4 := by rw [ti_eq, rb.2.1, rb.2.2.1]
  have i0 : vp_in 0 2 := by rw [vp_inI]; decide
  have c0 : (0 : Int32).toNatClampNeg = 0 := rfl
  have M : ∀ (y : Int32) (Q2 : JQ), (∀ h2, fr [] [] h h2 → Q2 (some (.int y)) h2) → ((a = 0 → y = fI h 81 4) ∧ (a = 1 → y = fI h 81 58) ∧ (a = 2 → y = fI h 81 74) ∧ (a = 3 → y = aF h 102 0) ∧ (a = 4 → y = fI h 81 1) ∧ (a = 5 → y = fI h 81 10) ∧ (a = 6 → y = fI h 81 11) ∧ (¬ (a = 0 ∨ a = 1 ∨ a = 2 ∨ a = 3 ∨ a = 4 ∨ a = 5 ∨ a = 6) → y = -1)) → jex X 10 303 [.ref 81, .int a] h Q2 := by
    intro y Q2 H ⟨y0, y1, y2, y3, y4, y5, y6, y7⟩
    have R := H h fr_rfl
    rw [jE_X12_count]
    refine jT_X12_count_0 ?_
    refine ⟨fun q => ?_, fun n0 => ⟨fun q => ?_, fun n1 => ⟨fun q => ?_, fun n2 => ⟨fun q => ?_, fun n3 => ⟨fun q => ?_, fun n4 => ⟨fun q => ?_, fun n5 => ⟨fun q => ?_, fun n6 => ?_⟩⟩⟩⟩⟩⟩⟩
    · rw [jgI_ob (c := 12) (by simp only [gM g]) rfl, ← y0 q]; exact R
    · rw [jgI_ob (c := 12) (by simp only [gM g]) rfl, ← y1 q]; exact R
    · rw [jgI_ob (c := 12) (by simp only [gM g]) rfl, ← y2 q]; exact R
    · rw [jgf_ob (c := 12) (by simp only [gM g]) rfl, show fV h 81 37 = .ref 102 by simp only [gN g], jaI_ar (n := 2) (by simp only [gM g]), c0, ← y3 q]
      exact ⟨i0, R⟩
    · rw [jgI_ob (c := 12) (by simp only [gM g]) rfl, ← y4 q]; exact R
    · rw [jgI_ob (c := 12) (by simp only [gM g]) rfl, ← y5 q]; exact R
    · rw [jgI_ob (c := 12) (by simp only [gM g]) rfl, ← y6 q]; exact R
    · rw [y7 (by simp only [n0, n1, n2, n3, n4, n5, n6, or_self, not_false_eq_true])] at R
      exact R
  have nn : ∀ {u v : Int32} {P : Prop}, a = u → u ≠ v → a = v → P := fun e1 e2 e3 => absurd (e1.symm.trans e3) e2
  rw [jE_X11_count]
  refine jT_X11_count_0 ?_
  refine ⟨fun q => ?_, fun n0 => ⟨fun q => ?_, fun n1 => ⟨fun q => ?_, fun n2 => ⟨fun q => ?_, fun n3 => ⟨fun q => ?_, fun n4 => ⟨fun q => ?_, fun n5 => ⟨fun q => ?_, fun n6 => ?_⟩⟩⟩⟩⟩⟩⟩
  · rw [jgI_ob (c := 11) (by simp only [gO g]) rfl]
    exact KK _ _ (fun Q2 H => M _ Q2 H ⟨fun _ => e4, nn q (by decide), nn q (by decide), nn q (by decide), nn q (by decide), nn q (by decide), nn q (by decide), fun w => absurd (Or.inl q) w⟩)
  · simp (decide := true) only [jgI_ob, jgf_ob, jgL_ob, jpI_ob, jpL_ob, jpR_ob, jpN_ob, jrc_ob, obj_sV, obj_wF, obj_wG, obj_wR, arr_sV, arr_wF, arr_wG, arr_wR, arL_sV, arL_wF, arL_wG, arL_wR, arR_sV, arR_wF, arR_wG, arR_wR, fI_sV (c := 0), fI_sV (c := 1), fI_sV (c := 2), fI_sV (c := 4), fI_sV (c := 5), fI_sV (c := 7), fI_sV (c := 8), fI_sV (c := 9), fI_sV (c := 10), fI_sV (c := 11), fI_sV (c := 12), fI_sV (c := 6), fL_sV (c := 9), fL_sV (c := 12), fI_sV_k, fL_sV_k, fV_sV_k, fI_wF, fI_wG, fI_wR, fL_wF, fL_wG, fL_wR, fV_wF, fV_wG, fV_wR, aF_sV, aG_sV, aR_sV, aF_wG, aF_wR, aG_wF, aG_wR, aR_wF, aR_wG, gO g, gF g]
    exact KK _ _ (fun Q2 H => M _ Q2 H ⟨nn q (by decide), fun _ => fc.1.symm, nn q (by decide), nn q (by decide), nn q (by decide), nn q (by decide), nn q (by decide), fun w => absurd (Or.inr (Or.inl q)) w⟩)
  · simp (decide := true) only [jgI_ob, jgf_ob, jgL_ob, jpI_ob, jpL_ob, jpR_ob, jpN_ob, jrc_ob, obj_sV, obj_wF, obj_wG, obj_wR, arr_sV, arr_wF, arr_wG, arr_wR, arL_sV, arL_wF, arL_wG, arL_wR, arR_sV, arR_wF, arR_wG, arR_wR, fI_sV (c := 0), fI_sV (c := 1), fI_sV (c := 2), fI_sV (c := 4), fI_sV (c := 5), fI_sV (c := 7), fI_sV (c := 8), fI_sV (c := 9), fI_sV (c := 10), fI_sV (c := 11), fI_sV (c := 12), fI_sV (c := 6), fL_sV (c := 9), fL_sV (c := 12), fI_sV_k, fL_sV_k, fV_sV_k, fI_wF, fI_wG, fI_wR, fL_wF, fL_wG, fL_wR, fV_wF, fV_wG, fV_wR, aF_sV, aG_sV, aR_sV, aF_wG, aF_wR, aG_wF, aG_wR, aR_wF, aR_wG, gO g, gF g]
    exact KK _ _ (fun Q2 H => M _ Q2 H ⟨nn q (by decide), nn q (by decide), fun _ => fa.1.symm, nn q (by decide), nn q (by decide), nn q (by decide), nn q (by decide), fun w => absurd (Or.inr (Or.inr (Or.inl q))) w⟩)
  · rw [jgf_ob (c := 11) (by simp only [gO g]) rfl, p5, jgI_ob ob rfl]
    exact KK _ _ (fun Q2 H => M _ Q2 H ⟨nn q (by decide), nn q (by decide), nn q (by decide), fun _ => p6.trans p102.symm, nn q (by decide), nn q (by decide), nn q (by decide), fun w => absurd (Or.inr (Or.inr (Or.inr (Or.inl q)))) w⟩)
  · simp (decide := true) only [jgI_ob, jgf_ob, jgL_ob, jpI_ob, jpL_ob, jpR_ob, jpN_ob, jrc_ob, obj_sV, obj_wF, obj_wG, obj_wR, arr_sV, arr_wF, arr_wG, arr_wR, arL_sV, arL_wF, arL_wG, arL_wR, arR_sV, arR_wF, arR_wG, arR_wR, fI_sV (c := 0), fI_sV (c := 1), fI_sV (c := 2), fI_sV (c := 4), fI_sV (c := 5), fI_sV (c := 7), fI_sV (c := 8), fI_sV (c := 9), fI_sV (c := 10), fI_sV (c := 11), fI_sV (c := 12), fI_sV (c := 6), fL_sV (c := 9), fL_sV (c := 12), fI_sV_k, fL_sV_k, fV_sV_k, fI_wF, fI_wG, fI_wR, fL_wF, fL_wG, fL_wR, fV_wF, fV_wG, fV_wR, aF_sV, aG_sV, aR_sV, aF_wG, aF_wR, aG_wF, aG_wR, aR_wF, aR_wG, gO g, gF g]
    exact KK _ _ (fun Q2 H => M _ Q2 H ⟨nn q (by decide), nn q (by decide), nn q (by decide), nn q (by decide), fun _ => tp.1.symm, nn q (by decide), nn q (by decide), fun w => absurd (Or.inr (Or.inr (Or.inr (Or.inr (Or.inl q))))) w⟩)
  · simp (decide := true) only [jgI_ob, jgf_ob, jgL_ob, jpI_ob, jpL_ob, jpR_ob, jpN_ob, jrc_ob, obj_sV, obj_wF, obj_wG, obj_wR, arr_sV, arr_wF, arr_wG, arr_wR, arL_sV, arL_wF, arL_wG, arL_wR, arR_sV, arR_wF, arR_wG, arR_wR, fI_sV (c := 0), fI_sV (c := 1), fI_sV (c := 2), fI_sV (c := 4), fI_sV (c := 5), fI_sV (c := 7), fI_sV (c := 8), fI_sV (c := 9), fI_sV (c := 10), fI_sV (c := 11), fI_sV (c := 12), fI_sV (c := 6), fL_sV (c := 9), fL_sV (c := 12), fI_sV_k, fL_sV_k, fV_sV_k, fI_wF, fI_wG, fI_wR, fL_wF, fL_wG, fL_wR, fV_wF, fV_wG, fV_wR, aF_sV, aG_sV, aR_sV, aF_wG, aF_wR, aG_wF, aG_wR, aR_wF, aR_wG, gO g, gF g]
    exact KK _ _ (fun Q2 H => M _ Q2 H ⟨nn q (by decide), nn q (by decide), nn q (by decide), nn q (by decide), nn q (by decide), fun _ => hs.1.symm, nn q (by decide), fun w => absurd (Or.inr (Or.inr (Or.inr (Or.inr (Or.inr (Or.inl q)))))) w⟩)
  · simp (decide := true) only [jgI_ob, jgf_ob, jgL_ob, jpI_ob, jpL_ob, jpR_ob, jpN_ob, jrc_ob, obj_sV, obj_wF, obj_wG, obj_wR, arr_sV, arr_wF, arr_wG, arr_wR, arL_sV, arL_wF, arL_wG, arL_wR, arR_sV, arR_wF, arR_wG, arR_wR, fI_sV (c := 0), fI_sV (c := 1), fI_sV (c := 2), fI_sV (c := 4), fI_sV (c := 5), fI_sV (c := 7), fI_sV (c := 8), fI_sV (c := 9), fI_sV (c := 10), fI_sV (c := 11), fI_sV (c := 12), fI_sV (c := 6), fL_sV (c := 9), fL_sV (c := 12), fI_sV_k, fL_sV_k, fV_sV_k, fI_wF, fI_wG, fI_wR, fL_wF, fL_wG, fL_wR, fV_wF, fV_wG, fV_wR, aF_sV, aG_sV, aR_sV, aF_wG, aF_wR, aG_wF, aG_wR, aR_wF, aR_wG, gO g, gF g]
    exact KK _ _ (fun Q2 H => M _ Q2 H ⟨nn q (by decide), nn q (by decide), nn q (by decide), nn q (by decide), nn q (by decide), nn q (by decide), fun _ => hs.2.1.symm, fun w => absurd (Or.inr (Or.inr (Or.inr (Or.inr (Or.inr (Or.inr q)))))) w⟩)
  · exact KK _ _ (fun Q2 H => M _ Q2 H ⟨fun w => absurd w n0, fun w => absurd w n1, fun w => absurd w n2, fun w => absurd w n3, fun w => absurd w n4, fun w => absurd w n5, fun w => absurd w n6, fun _ => rfl⟩)
theorem a_value (g : G h) (pr : PR h) (va : VA h) {a e : Int32} : AGR X 223 226 [.int a, .int e] h (fun h2 => fr [] [] h h2) := by
  intro Q KK
  obtain ⟨p, c, hp, p5, p6, p102, c12⟩ := PR_names pr
  obtain ⟨q, q1, q2, q3, q4⟩ := va
  have ob := pr_obj g hp
  have ec : (nI c).toInt = (c : Int) := nI_toInt (by omega)
  have i0 : vp_in 0 2 := by rw [vp_inI]; decide
  have c0 : (0 : Int32).toNatClampNeg = 0 := rfl
  have z0 : (0 : Int32).toInt = 0 := rfl
  have z5 : (5 : Int32).toInt = 5 := rfl
  -- the model, where there is nothing
  have M0 : (¬ (0 ≤ a.toInt ∧ a.toInt < c) ∨ ¬ (0 ≤ e.toInt ∧ e.toInt ≤ 5) ∨ (∃ i : Nat, i < 12 ∧ a.toInt = i ∧ aF h 107 i = 0)) → ∀ Q2 : JQ, (∀ h2, fr [] [] h h2 → Q2 (some (.int (-1000))) h2) → jex X 10 226 [.ref 81, .int a, .int e] h Q2 := by
    intro cc Q2 H
    have R := H h fr_rfl
    rw [jE_X12_value]
    refine jT_X12_value_0 ⟨fun _ => R, fun n1 => ?_⟩
    rw [ti_lt, z0] at n1
    rw [jgf_ob (c := 12) (by simp only [gM g]) rfl, show fV h 81 37 = .ref 102 by simp only [gN g], jaI_ar (n := 2) (by simp only [gM g]), c0, p102]
    refine ⟨i0, fun n2 => ⟨fun _ => R, fun n3 => ⟨fun _ => R, fun n4 => ?_⟩⟩, fun _ => R⟩
    rw [ti_lt, ec] at n2
    rw [ti_lt, z0] at n3
    rw [ti_lt, z5] at n4
    rcases cc with w | w | ⟨i, hi, ei, w⟩
    · omega
    · omega
    · rw [jgf_ob (c := 12) (by simp only [gM g]) rfl, show fV h 81 43 = .ref 107 by simp only [gN g], jaZ_ar (n := 12) (by simp only [gM g])]
      refine ⟨by rw [vp_inI]; omega, ?_⟩
      rw [ti_clamp, ei, Int.toNat_natCast, w]
      exact jif_t rfl R
  rw [jE_X11_value]
  refine jT_X11_value_0 ⟨fun n1 => KK _ _ (fun Q2 H => M0 (Or.inl (by rw [ti_lt, z0] at n1; omega)) Q2 H), fun n1 => ?_⟩
  rw [ti_lt, z0] at n1
  rw [jgf_ob (c := 11) (by simp only [gO g]) rfl, p5, jgI_ob ob rfl, p6]
  refine ⟨fun n2 => ?_, fun n2 => KK _ _ (fun Q2 H => M0 (Or.inl (by rw [ti_lt, ec] at n2; omega)) Q2 H)⟩
  rw [ti_lt, ec] at n2
  have ea : a.toInt = (a.toInt.toNat : Nat) := by omega
  have hi : a.toInt.toNat < 12 := by omega
  have na' : a = nI a.toInt.toNat := by rw [ti_eq, nI_toInt (by omega)]; exact ea
  obtain ⟨y1, y2, y3⟩ := q4 _ hi
  have ar := kv_arr g q1
  have kob := kvo_obj g (q := q) hi
  rw [jgf_ob (c := 11) (by simp only [gO g]) rfl, show fV h 0 8 = .ref 24 by simp only [gF g], jrc_ob (by simp only [gO g])]
  change jex X (8 + 1) _ _ _ _
  rw [jE_X7_keptPart]
  refine jT_X7_keptPart_0 (jif_n (by rw [ti_lt, z0]; omega) ?_)
  rw [jgf_ob (c := 7) (by simp only [gO g]) rfl, q2, jaln_arR ar]
  refine jif_t (by rw [na']; exact nI_lt (b := 12) hi (by omega)) ?_
  rw [jgf_ob (c := 7) (by simp only [gO g]) rfl, q2, jaA_ar ar]
  refine ⟨by rw [vp_inI]; omega, ?_⟩
  rw [ti_clamp, kv_at g q1 hi, show va_rf (some (kvo q a.toInt.toNat)) = .ref (kvo q a.toInt.toNat) from rfl]
  dsimp only [jisr, jnul]
  rw [jgI_ob kob rfl, y2]
  refine ⟨fun w => ?_, fun w => ?_⟩
  · try dsimp only [jrI, jrN, jrA, jisr, jnul, jcat1]
    exact KK _ _ (fun Q2 H => M0 (Or.inr (Or.inr ⟨_, hi, ea, w⟩)) Q2 H)
  · have w1 : aF h 107 a.toInt.toNat = 1 := by
      rcases y1 with z | z
      · exact absurd z w
      · exact z
    have y3 := y3 w1
    rw [jrc_ob kob]
    change jex X (7 + 1) _ _ _ _
    rw [jE_X10_partAt]
    refine jT_X10_partAt_0 ?_
    -- the model, where there is a value
    have M1 : ∀ (w : Nat), w < 6 → e.toInt = w → ∀ (y : Int32), y = fI h (kvo q a.toInt.toNat) (w + 1) → Q (some (.int y)) h := by
      intro w hw ew y ey
      refine KK _ _ (fun Q2 H => ?_)
      rw [jE_X12_value]
      refine jT_X12_value_0 (jif_n (by rw [ti_lt, z0]; omega) ?_)
      rw [jgf_ob (c := 12) (by simp only [gM g]) rfl, show fV h 81 37 = .ref 102 by simp only [gN g], jaI_ar (n := 2) (by simp only [gM g]), c0, p102]
      refine ⟨i0, jif_t (by rw [ti_lt, ec]; omega) (jif_n (by rw [ti_lt, z0]; omega) (jif_n (by rw [ti_lt, z5]; omega) ?_))⟩
      rw [jgf_ob (c := 12) (by simp only [gM g]) rfl, show fV h 81 43 = .ref 107 by simp only [gN g], jaZ_ar (n := 12) (by simp only [gM g])]
      refine ⟨by rw [vp_inI]; omega, ?_⟩
      rw [ti_clamp, w1]
      refine jif_n (by decide) ?_
      have e6 : 6 * a + e = nI (6 * a.toInt.toNat + w) := by
        rw [ti_eq, nI_toInt (by omega)]
        have f1 : (6 * a).toInt = 6 * a.toInt := (by simp only [Int32.toInt_add, Int32.toInt_sub, Int32.toInt_mul, Int32.toInt_neg, Int.bmod_def, tl]; omega)
        generalize 6 * a = z at f1
        have f2 : (z + e).toInt = 6 * a.toInt + e.toInt := (by simp only [Int32.toInt_add, Int32.toInt_sub, Int32.toInt_mul, Int32.toInt_neg, Int.bmod_def, tl]; omega)
        omega
      rw [jgf_ob (c := 12) (by simp only [gM g]) rfl, show fV h 81 44 = .ref 108 by simp only [gN g], jaI_ar (n := 72) (by simp only [gM g]), e6]
      refine ⟨by rw [vp_inI, nI_toInt (by omega)]; omega, ?_⟩
      rw [nI_clamp (by omega), ← y3 w hw, ← ey]
      exact H h fr_rfl
    have t0 : (0 : Int32).toInt = 0 := rfl
    have t1 : (1 : Int32).toInt = 1 := rfl
    have t2 : (2 : Int32).toInt = 2 := rfl
    have t3 : (3 : Int32).toInt = 3 := rfl
    have t4' : (4 : Int32).toInt = 4 := rfl
    refine ⟨fun z => ?_, fun m0 => ⟨fun z => ?_, fun m1 => ⟨fun z => ?_, fun m2 => ⟨fun z => ?_, fun m3 => ⟨fun z => ?_, fun m4 => ⟨fun z => ?_, fun m5 => ?_⟩⟩⟩⟩⟩⟩
    · rw [jgI_ob kob rfl]; try dsimp only [jrI, jrN, jrA, jisr, jnul, jcat1]; exact M1 0 (by decide) (by rw [z]; rfl) _ rfl
    · rw [jgI_ob kob rfl]; try dsimp only [jrI, jrN, jrA, jisr, jnul, jcat1]; exact M1 1 (by decide) (by rw [z]; rfl) _ rfl
    · rw [jgI_ob kob rfl]; try dsimp only [jrI, jrN, jrA, jisr, jnul, jcat1]; exact M1 2 (by decide) (by rw [z]; rfl) _ rfl
    · rw [jgI_ob kob rfl]; try dsimp only [jrI, jrN, jrA, jisr, jnul, jcat1]; exact M1 3 (by decide) (by rw [z]; rfl) _ rfl
    · rw [jgI_ob kob rfl]; try dsimp only [jrI, jrN, jrA, jisr, jnul, jcat1]; exact M1 4 (by decide) (by rw [z]; rfl) _ rfl
    · rw [jgI_ob kob rfl]; try dsimp only [jrI, jrN, jrA, jisr, jnul, jcat1]; exact M1 5 (by decide) (by rw [z]; rfl) _ rfl
    · try dsimp only [jrI, jrN, jrA, jisr, jnul, jcat1]
      refine KK _ _ (fun Q2 H => M0 (Or.inr (Or.inl ?_)) Q2 H)
      rw [ti_eq, t0] at m0
      rw [ti_eq, t1] at m1
      rw [ti_eq, t2] at m2
      rw [ti_eq, t3] at m3
      rw [ti_eq, t4'] at m4
      rw [ti_eq, z5] at m5
      omega
end VAL
