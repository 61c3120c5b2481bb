/-! THREAD -/
theorem dv_bd {x a M : Int} (h1 : 1 ≤ a) (h3 : a ≤ 3) (hx0 : -M ≤ x) (hx1 : x ≤ M) : -M - 1 ≤ x / a ∧ x / a ≤ M + 1 := by
  rcases (show a = 1 ∨ a = 2 ∨ a = 3 by omega) with e | e | e <;> subst e <;> omega
theorem ml_bd {x y M : Int} (h1 : 0 ≤ y) (h3 : y ≤ 9) (hx0 : -M ≤ x) (hx1 : x ≤ M) : -(9 * M) ≤ x * y ∧ x * y ≤ 9 * M := by
  rcases (show y = 0 ∨ y = 1 ∨ y = 2 ∨ y = 3 ∨ y = 4 ∨ y = 5 ∨ y = 6 ∨ y = 7 ∨ y = 8 ∨ y = 9 by omega) with e | e | e | e | e | e | e | e | e | e <;> subst e <;> omega
def MR (L R a b t c : Int) : Int := (L / a * (8 - t) + R / b * t) / 8 * c
/-- the first of the least -/
def AM (C : Nat → Int) (k s : Nat) : Prop := s < k ∧ (∀ n, n < s → C s < C n) ∧ (∀ n, n < k → C s ≤ C n)
theorem AM_1 {C : Nat → Int} : AM C 1 0 := ⟨by omega, fun n hn => by omega, fun n hn => by rw [show n = 0 by omega]; exact Int.le_refl _⟩
theorem AM_y {C : Nat → Int} {k s : Nat} (h : AM C k s) (c : C k < C s) : AM C (k + 1) k := ⟨by omega, fun n hn => by have := h.2.2 n hn; omega, fun n hn => by
  by_cases e : n = k
  · subst e; exact Int.le_refl _
  · have := h.2.2 n (by omega); omega⟩
theorem AM_n {C : Nat → Int} {k s : Nat} (h : AM C k s) (c : ¬ C k < C s) : AM C (k + 1) s := ⟨by have := h.1; omega, h.2.1, fun n hn => by
  by_cases e : n = k
  · subst e; omega
  · exact h.2.2 n (by omega)⟩
theorem AM_un {C : Nat → Int} {k s s' : Nat} (h : AM C k s) (h' : AM C k s') : s = s' := by
  rcases Nat.lt_trichotomy s s' with c | c | c
  · have := h'.2.1 s c; have := h.2.2 s' h'.1; omega
  · exact c
  · have := h.2.1 s' c; have := h'.2.2 s h.1; omega
def CN (v : Int) (n : Nat) : Int := max ((lgU n : Int) - v) (v - lgU n)
section THR
variable {X : JX} {d : Nat} {Q : JQ} {h : JH}
theorem c_reachOf (g : G h) {m e : Int32} (m0 : 100 ≤ m.toInt) (m1 : m.toInt ≤ 999) (e0 : -99 ≤ e.toInt) (e1 : e.toInt ≤ 99) (H : ∀ r : Int32, r.toInt = lgU (m.toInt - 100).toNat + 4096 * e.toInt → Q (some (.int r)) h) : jex X (d + 2) 195 [.ref 1, .int m, .int e] h Q := by
  rw [jE_X3_reachOf]
  refine jT_X3_reachOf_0 ?_
  simp (decide := true) only [jgI_ob, jgf_ob, jgL_ob, jpI_ob, jpL_ob, jpR_ob, jpN_ob, jrc_ob, obj_sV, obj_wF, obj_wG, obj_wR, arr_sV, arr_wF, arr_wG, arr_wR, arL_sV, arL_wF, arL_wG, arL_wR, arR_sV, arR_wF, arR_wG, arR_wR, fI_sV (c := 0), fI_sV (c := 1), fI_sV (c := 2), fI_sV (c := 4), fI_sV (c := 5), fI_sV (c := 7), fI_sV (c := 8), fI_sV (c := 9), fI_sV (c := 10), fI_sV (c := 11), fI_sV (c := 12), fI_sV (c := 6), fL_sV (c := 9), fL_sV (c := 12), fI_sV_k, fL_sV_k, fV_sV_k, fI_wF, fI_wG, fI_wR, fL_wF, fL_wG, fL_wR, fV_wF, fV_wG, fV_wR, aF_sV, aG_sV, aR_sV, aF_wG, aF_wR, aG_wF, aG_wR, aR_wF, aR_wG, gO g, gF g, ti_lt, tl, true_and]
  refine c_unitsOf g (fun c => absurd ⟨m0, m1⟩ c) (fun r _ _ hr => H _ ?_)
  have hl := lgU_mono (show (m.toInt - 100).toNat ≤ 900 * 1 by omega)
  rw [lgU_900] at hl
  exact (by simp only [Int32.toInt_add, Int32.toInt_sub, Int32.toInt_mul, Int32.toInt_neg, Int.bmod_def, tl]; omega)
theorem c_mreach (g : G h) {m e : Int32} (m0 : 100 ≤ m.toInt) (m1 : m.toInt ≤ 1000) (e0 : -3000 ≤ e.toInt) (e1 : e.toInt ≤ 3000) (H : ∀ r : Int32, r.toInt = lgU (m.toInt - 100).toNat + 4096 * e.toInt → Q (some (.int r)) h) : jex X (d + 1) 207 [.ref 81, .int m, .int e] h Q := by
  have eu : (aF h 88 m.toInt.toNat).toInt = ((lgU (m.toInt.toNat - 100) : Nat) : Int) := by
    rw [g.2.2.2.2.2.2.1]; exact muF_v (by omega) (by omega)
  rw [show m.toInt.toNat - 100 = (m.toInt - 100).toNat by omega] at eu
  have hl := lgU_mono (show (m.toInt - 100).toNat ≤ 900 * 1 by omega)
  rw [lgU_900] at hl
  rw [jE_X12_reach]
  refine jT_X12_reach_0 ?_
  simp (decide := true) only [jgI_ob, jgf_ob, jgL_ob, jpI_ob, jpL_ob, jpR_ob, jpN_ob, jrc_ob, obj_sV, obj_wF, obj_wG, obj_wR, arr_sV, arr_wF, arr_wG, arr_wR, arL_sV, arL_wF, arL_wG, arL_wR, arR_sV, arR_wF, arR_wG, arR_wR, fI_sV (c := 0), fI_sV (c := 1), fI_sV (c := 2), fI_sV (c := 4), fI_sV (c := 5), fI_sV (c := 7), fI_sV (c := 8), fI_sV (c := 9), fI_sV (c := 10), fI_sV (c := 11), fI_sV (c := 12), fI_sV (c := 6), fL_sV (c := 9), fL_sV (c := 12), fI_sV_k, fL_sV_k, fV_sV_k, fI_wF, fI_wG, fI_wR, fL_wF, fL_wG, fL_wR, fV_wF, fV_wG, fV_wR, aF_sV, aG_sV, aR_sV, aF_wG, aF_wR, aG_wF, aG_wR, aR_wF, aR_wG, kC, kM, gM g, gN g, ti_clamp]
  refine ⟨by rw [vp_inI]; omega, H _ ?_⟩
  exact (by simp only [Int32.toInt_add, Int32.toInt_sub, Int32.toInt_mul, Int32.toInt_neg, Int.bmod_def, tl]; omega)
theorem c_middleReach (g : G h) (ch : CH h) {L R : Int32} (l0 : -500000 ≤ L.toInt) (l1 : L.toInt ≤ 500000) (r0 : -500000 ≤ R.toInt) (r1 : R.toInt ≤ 500000) (H : ∀ r : Int32, r.toInt = MR L.toInt R.toInt (fI h 70 0).toInt (fI h 70 1).toInt (fI h 70 2).toInt (fI h 70 3).toInt → -6000000 ≤ r.toInt → r.toInt ≤ 6000000 → Q (some (.int r)) h) : jex X (d + 2) 264 [.ref 70, .int L, .int R] h Q := by
  obtain ⟨-, -, -, -, a0, a1, b0, b1, t0, t1, c0, c1⟩ := ch
  have z1 : (1 : Int32).toInt = 1 := rfl
  have z8 : (8 : Int32).toInt = 8 := rfl
  have mz : ∀ v : Int32, 1 ≤ v.toInt → zI (max (1 : Int32).toInt v.toInt) = v := fun v hv => by
    rw [z1, show max 1 v.toInt = v.toInt by omega, zI_t]
  rw [jE_X1_middleReach]
  refine jT_X1_middleReach_0 ?_
  simp (decide := true) only [jgI_ob, jgf_ob, jgL_ob, jpI_ob, jpL_ob, jpR_ob, jpN_ob, jrc_ob, obj_sV, obj_wF, obj_wG, obj_wR, arr_sV, arr_wF, arr_wG, arr_wR, arL_sV, arL_wF, arL_wG, arL_wR, arR_sV, arR_wF, arR_wG, arR_wR, fI_sV (c := 0), fI_sV (c := 1), fI_sV (c := 2), fI_sV (c := 4), fI_sV (c := 5), fI_sV (c := 7), fI_sV (c := 8), fI_sV (c := 9), fI_sV (c := 10), fI_sV (c := 11), fI_sV (c := 12), fI_sV (c := 6), fL_sV (c := 9), fL_sV (c := 12), fI_sV_k, fL_sV_k, fV_sV_k, fI_wF, fI_wG, fI_wR, fL_wF, fL_wG, fL_wR, fV_wF, fV_wG, fV_wR, aF_sV, aG_sV, aR_sV, aF_wG, aF_wR, aG_wF, aG_wR, aR_wF, aR_wG, gO g, gF g, ti_lt, tl, true_and]
  refine c_max ?_
  try dsimp only [jrI, jrN, jrA, jisr, jnul, jcat1]
  rw [mz _ a0]
  refine c_floorDiv (by omega) ?_
  try dsimp only [jrI, jrN, jrA, jisr, jnul, jcat1]
  simp (decide := true) only [jgI_ob, jgf_ob, jgL_ob, jpI_ob, jpL_ob, jpR_ob, jpN_ob, jrc_ob, obj_sV, obj_wF, obj_wG, obj_wR, arr_sV, arr_wF, arr_wG, arr_wR, arL_sV, arL_wF, arL_wG, arL_wR, arR_sV, arR_wF, arR_wG, arR_wR, fI_sV (c := 0), fI_sV (c := 1), fI_sV (c := 2), fI_sV (c := 4), fI_sV (c := 5), fI_sV (c := 7), fI_sV (c := 8), fI_sV (c := 9), fI_sV (c := 10), fI_sV (c := 11), fI_sV (c := 12), fI_sV (c := 6), fL_sV (c := 9), fL_sV (c := 12), fI_sV_k, fL_sV_k, fV_sV_k, fI_wF, fI_wG, fI_wR, fL_wF, fL_wG, fL_wR, fV_wF, fV_wG, fV_wR, aF_sV, aG_sV, aR_sV, aF_wG, aF_wR, aG_wF, aG_wR, aR_wF, aR_wG, gO g, gF g, ti_lt, tl, true_and]
  refine c_max ?_
  try dsimp only [jrI, jrN, jrA, jisr, jnul, jcat1]
  rw [mz _ b0]
  refine c_floorDiv (by omega) ?_
  try dsimp only [jrI, jrN, jrA, jisr, jnul, jcat1]
  simp (decide := true) only [jgI_ob, jgf_ob, jgL_ob, jpI_ob, jpL_ob, jpR_ob, jpN_ob, jrc_ob, obj_sV, obj_wF, obj_wG, obj_wR, arr_sV, arr_wF, arr_wG, arr_wR, arL_sV, arL_wF, arL_wG, arL_wR, arR_sV, arR_wF, arR_wG, arR_wR, fI_sV (c := 0), fI_sV (c := 1), fI_sV (c := 2), fI_sV (c := 4), fI_sV (c := 5), fI_sV (c := 7), fI_sV (c := 8), fI_sV (c := 9), fI_sV (c := 10), fI_sV (c := 11), fI_sV (c := 12), fI_sV (c := 6), fL_sV (c := 9), fL_sV (c := 12), fI_sV_k, fL_sV_k, fV_sV_k, fI_wF, fI_wG, fI_wR, fL_wF, fL_wG, fL_wR, fV_wF, fV_wG, fV_wR, aF_sV, aG_sV, aR_sV, aF_wG, aF_wR, aG_wF, aG_wR, aR_wF, aR_wG, gO g, gF g, ti_lt, tl, true_and]
  have d1 := dv_bd (x := L.toInt) a0 a1 l0 l1
  have d2 := dv_bd (x := R.toInt) b0 b1 r0 r1
  have q1 : (zI (L.toInt / (fI h 70 0).toInt)).toInt = L.toInt / (fI h 70 0).toInt := zt (by omega) (by omega)
  have q2 : (zI (R.toInt / (fI h 70 1).toInt)).toInt = R.toInt / (fI h 70 1).toInt := zt (by omega) (by omega)
  have q3 : (8 - fI h 70 2).toInt = 8 - (fI h 70 2).toInt := (by simp only [Int32.toInt_add, Int32.toInt_sub, Int32.toInt_mul, Int32.toInt_neg, Int.bmod_def, tl]; omega)
  have p1 := ml_bd (x := L.toInt / (fI h 70 0).toInt) (y := 8 - (fI h 70 2).toInt) (M := 500001) (by omega) (by omega) (by omega) (by omega)
  have p2 := ml_bd (x := R.toInt / (fI h 70 1).toInt) (y := (fI h 70 2).toInt) (M := 500001) (by omega) (by omega) (by omega) (by omega)
  have q4 : (zI (L.toInt / (fI h 70 0).toInt) * (8 - fI h 70 2)).toInt = L.toInt / (fI h 70 0).toInt * (8 - (fI h 70 2).toInt) := by
    rw [ti_mul (by rw [q1, q3]; omega) (by rw [q1, q3]; omega), q1, q3]
  have q5 : (zI (R.toInt / (fI h 70 1).toInt) * fI h 70 2).toInt = R.toInt / (fI h 70 1).toInt * (fI h 70 2).toInt := by
    rw [ti_mul (by rw [q2]; omega) (by rw [q2]; omega), q2]
  have q6 : (zI (L.toInt / (fI h 70 0).toInt) * (8 - fI h 70 2) + zI (R.toInt / (fI h 70 1).toInt) * fI h 70 2).toInt = L.toInt / (fI h 70 0).toInt * (8 - (fI h 70 2).toInt) + R.toInt / (fI h 70 1).toInt * (fI h 70 2).toInt := by
    rw [ti_add (by omega) (by omega), q4, q5]
  refine c_floorDiv (by decide) ?_
  try dsimp only [jrI, jrN, jrA, jisr, jnul, jcat1]
  simp (decide := true) only [jgI_ob, jgf_ob, jgL_ob, jpI_ob, jpL_ob, jpR_ob, jpN_ob, jrc_ob, obj_sV, obj_wF, obj_wG, obj_wR, arr_sV, arr_wF, arr_wG, arr_wR, arL_sV, arL_wF, arL_wG, arL_wR, arR_sV, arR_wF, arR_wG, arR_wR, fI_sV (c := 0), fI_sV (c := 1), fI_sV (c := 2), fI_sV (c := 4), fI_sV (c := 5), fI_sV (c := 7), fI_sV (c := 8), fI_sV (c := 9), fI_sV (c := 10), fI_sV (c := 11), fI_sV (c := 12), fI_sV (c := 6), fL_sV (c := 9), fL_sV (c := 12), fI_sV_k, fL_sV_k, fV_sV_k, fI_wF, fI_wG, fI_wR, fL_wF, fL_wG, fL_wR, fV_wF, fV_wG, fV_wR, aF_sV, aG_sV, aR_sV, aF_wG, aF_wR, aG_wF, aG_wR, aR_wF, aR_wG, gO g, gF g, ti_lt, tl, true_and]
  rw [q6]
  -- the sum keeps within eight times
  have s8 : -4500000 ≤ L.toInt / (fI h 70 0).toInt * (8 - (fI h 70 2).toInt) + R.toInt / (fI h 70 1).toInt * (fI h 70 2).toInt ∧ L.toInt / (fI h 70 0).toInt * (8 - (fI h 70 2).toInt) + R.toInt / (fI h 70 1).toInt * (fI h 70 2).toInt ≤ 4500000 := by
    generalize L.toInt / (fI h 70 0).toInt = u at *
    generalize R.toInt / (fI h 70 1).toInt = w at *
    generalize (fI h 70 2).toInt = t at *
    rcases (show t = 1 ∨ t = 2 ∨ t = 3 ∨ t = 4 ∨ t = 5 ∨ t = 6 ∨ t = 7 by omega) with e | e | e | e | e | e | e <;> subst e <;> omega
  have q7 : (zI ((L.toInt / (fI h 70 0).toInt * (8 - (fI h 70 2).toInt) + R.toInt / (fI h 70 1).toInt * (fI h 70 2).toInt) / 8)).toInt = (L.toInt / (fI h 70 0).toInt * (8 - (fI h 70 2).toInt) + R.toInt / (fI h 70 1).toInt * (fI h 70 2).toInt) / 8 := zt (by omega) (by omega)
  have p3 := ml_bd (x := (L.toInt / (fI h 70 0).toInt * (8 - (fI h 70 2).toInt) + R.toInt / (fI h 70 1).toInt * (fI h 70 2).toInt) / 8) (y := (fI h 70 3).toInt) (M := 600000) (by omega) (by omega) (by omega) (by omega)
  have q8 : (zI ((L.toInt / (fI h 70 0).toInt * (8 - (fI h 70 2).toInt) + R.toInt / (fI h 70 1).toInt * (fI h 70 2).toInt) / 8) * fI h 70 3).toInt = (L.toInt / (fI h 70 0).toInt * (8 - (fI h 70 2).toInt) + R.toInt / (fI h 70 1).toInt * (fI h 70 2).toInt) / 8 * (fI h 70 3).toInt := by
    rw [ti_mul (by rw [q7]; omega) (by rw [q7]; omega), q7]
  refine H _ q8 (by rw [q8]; omega) (by rw [q8]; omega)
theorem c_nearest (g : G h) {a : Int32} (v0 : 0 ≤ a.toInt) (v1 : a.toInt ≤ 4095) (H : ∀ (r : Int32) (s : Nat), r.toInt = s → AM (CN a.toInt) 901 s → Q (some (.int r)) h) : jex X (d + 2) 265 [.ref 1, .int a] h Q := by
  have ab : ∀ (n : Nat) (Q3 : JQ), n ≤ 900 → (∀ w : Int32, w.toInt = CN a.toInt n → Q3 (some (.int w)) h) → jex X (d + 1) 125 [.int (tabF 1 n - a)] h Q3 := fun n Q3 hn H3 => by
    have hl := lgU_mono (show n ≤ 900 * 1 by omega)
    rw [lgU_900] at hl
    have e1 : (tabF 1 n).toInt = ((lgU n : Nat) : Int) := by rw [tabF_v (by decide) (by omega), Nat.div_one]
    have e2 : (tabF 1 n - a).toInt = (lgU n : Int) - a.toInt := (by simp only [Int32.toInt_add, Int32.toInt_sub, Int32.toInt_mul, Int32.toInt_neg, Int.bmod_def, tl]; omega)
    refine c_abs (by omega) (H3 _ ?_)
    rw [e2, zt (by omega) (by omega)]
    unfold CN
    omega
  have L : ∀ (j k s : Nat) (a2 a3 : Int32) (c z : Nat), j + k = 901 → a2.toInt = s → a3.toInt = k → AM (CN a.toInt) k s → jB_X3_nearestMark_4 X (d + 1) Q 1 a a2 a3 h c z := by
    intro j
    induction j with
    | zero =>
      intro k s a2 a3 c z hj h2 h3 hA
      refine jT_X3_nearestMark_4 ?_
      simp (decide := true) only [jgI_ob, jgf_ob, jgL_ob, jpI_ob, jpL_ob, jpR_ob, jpN_ob, jrc_ob, obj_sV, obj_wF, obj_wG, obj_wR, arr_sV, arr_wF, arr_wG, arr_wR, arL_sV, arL_wF, arL_wG, arL_wR, arR_sV, arR_wF, arR_wG, arR_wR, fI_sV (c := 0), fI_sV (c := 1), fI_sV (c := 2), fI_sV (c := 4), fI_sV (c := 5), fI_sV (c := 7), fI_sV (c := 8), fI_sV (c := 9), fI_sV (c := 10), fI_sV (c := 11), fI_sV (c := 12), fI_sV (c := 6), fL_sV (c := 9), fL_sV (c := 12), fI_sV_k, fL_sV_k, fV_sV_k, fI_wF, fI_wG, fI_wR, fL_wF, fL_wG, fL_wR, fV_wF, fV_wG, fV_wR, aF_sV, aG_sV, aR_sV, aF_wG, aF_wR, aG_wF, aG_wR, aR_wF, aR_wG, kC, kM, gO g, gF g, ti_lt, tn]
      refine jif_n (by omega) ?_
      rw [show k = 901 by omega] at hA
      exact H _ s h2 hA
    | succ j ih =>
      intro k s a2 a3 c z hj h2 h3 hA
      have hs := hA.1
      refine jT_X3_nearestMark_4 ?_
      simp (decide := true) only [jgI_ob, jgf_ob, jgL_ob, jpI_ob, jpL_ob, jpR_ob, jpN_ob, jrc_ob, obj_sV, obj_wF, obj_wG, obj_wR, arr_sV, arr_wF, arr_wG, arr_wR, arL_sV, arL_wF, arL_wG, arL_wR, arR_sV, arR_wF, arR_wG, arR_wR, fI_sV (c := 0), fI_sV (c := 1), fI_sV (c := 2), fI_sV (c := 4), fI_sV (c := 5), fI_sV (c := 7), fI_sV (c := 8), fI_sV (c := 9), fI_sV (c := 10), fI_sV (c := 11), fI_sV (c := 12), fI_sV (c := 6), fL_sV (c := 9), fL_sV (c := 12), fI_sV_k, fL_sV_k, fV_sV_k, fI_wF, fI_wG, fI_wR, fL_wF, fL_wG, fL_wR, fV_wF, fV_wG, fV_wR, aF_sV, aG_sV, aR_sV, aF_wG, aF_wR, aG_wF, aG_wR, aR_wF, aR_wG, kC, kM, gO g, gF g, ti_lt, tn, g.2.2.2.1, ti_clamp, h2, h3, Int.toNat_natCast]
      refine jif_t (by omega) ⟨by rw [vp_inI]; omega, ?_⟩
      refine ab k _ (by omega) (fun w hw => ?_)
      try dsimp only [jrI, jrN, jrA, jisr, jnul, jcat1]
      simp (decide := true) only [jgI_ob, jgf_ob, jgL_ob, jpI_ob, jpL_ob, jpR_ob, jpN_ob, jrc_ob, obj_sV, obj_wF, obj_wG, obj_wR, arr_sV, arr_wF, arr_wG, arr_wR, arL_sV, arL_wF, arL_wG, arL_wR, arR_sV, arR_wF, arR_wG, arR_wR, fI_sV (c := 0), fI_sV (c := 1), fI_sV (c := 2), fI_sV (c := 4), fI_sV (c := 5), fI_sV (c := 7), fI_sV (c := 8), fI_sV (c := 9), fI_sV (c := 10), fI_sV (c := 11), fI_sV (c := 12), fI_sV (c := 6), fL_sV (c := 9), fL_sV (c := 12), fI_sV_k, fL_sV_k, fV_sV_k, fI_wF, fI_wG, fI_wR, fL_wF, fL_wG, fL_wR, fV_wF, fV_wG, fV_wR, aF_sV, aG_sV, aR_sV, aF_wG, aF_wR, aG_wF, aG_wR, aR_wF, aR_wG, kC, kM, gO g, gF g, ti_lt, tn, g.2.2.2.1, ti_clamp, h2, h3, Int.toNat_natCast]
      refine ⟨by rw [vp_inI]; omega, ab s _ (by omega) (fun w2 hw2 => ?_)⟩
      try dsimp only [jrI, jrN, jrA, jisr, jnul, jcat1]
      have h3' : (a3 + 1).toInt = ((k + 1 : Nat) : Int) := (by simp only [Int32.toInt_add, Int32.toInt_sub, Int32.toInt_mul, Int32.toInt_neg, Int.bmod_def, tl]; omega)
      rw [hw, hw2]
      exact ⟨fun c => ih (k + 1) k _ _ _ _ (by omega) h3 h3' (AM_y hA c), fun c => ih (k + 1) s _ _ _ _ (by omega) h2 h3' (AM_n hA c)⟩
  rw [jE_X3_nearestMark]
  exact jT_X3_nearestMark_0 (L 900 1 0 0 1 _ _ rfl rfl rfl AM_1)
theorem l_thread (g : G h) {a5 T P : Int32} {v : Int} (hT : T.toInt = 4096 * P.toInt + v) (v0 : 0 ≤ v) (v1 : v ≤ 4095) (P0 : -2000 ≤ P.toInt) (P1 : P.toInt ≤ 2000) (H : ∀ (r : Int32) (s : Nat), AM (CN v) 901 s → (a5.toInt = 0 → r.toInt = ((s % 900 + 100 : Nat) : Int)) → (a5.toInt ≠ 0 → r.toInt = P.toInt + ((s / 900 : Nat) : Int)) → Q (some (.int r)) h) : ∀ (j k : Nat) (a9 a10 a11 a12 : Int32) (o1 o2 o3 o4 o6 o13 : Option Value) (c z : Nat), j + k = 900 → a12.toInt = ((k + 100 : Nat) : Int) → ((k = 0 ∧ v < a11.toInt) ∨ ∃ s, AM (CN v) k s ∧ a9.toInt = ((s + 100 : Nat) : Int) ∧ a10.toInt = P.toInt ∧ a11.toInt = CN v s) → jB_X12_thread_132 X (d + 1) Q 81 o1 o2 o3 o4 a5 o6 T P a9 a10 a11 a12 o13 h c z := by
  have ap : ∀ (k : Nat) (x : Int32) (Q3 : JQ), k ≤ 900 → x.toInt = lgU k + 4096 * P.toInt → (∀ w : Int32, w.toInt = CN v k → Q3 (some (.int w)) h) → jex X (d + 1) 133 [.int x, .int T] h Q3 := fun k x Q3 hk hx H3 => by
    have hl := lgU_mono (show k ≤ 900 * 1 by omega)
    rw [lgU_900] at hl
    refine c_apart (by omega) (by omega) (H3 _ ?_)
    rw [zt (by omega) (by omega)]
    unfold CN
    omega
  intro j
  induction j with
  | zero =>
    intro k a9 a10 a11 a12 o1 o2 o3 o4 o6 o13 c z hj h12 hI
    have hk : k = 900 := by omega
    subst hk
    refine jT_X12_thread_132 (jif_n (by rw [ti_lt, h12, show (1000 : Int32).toInt = 1000 from rfl]; omega) ?_)
    simp (decide := true) only [jgI_ob, jgf_ob, jgL_ob, jpI_ob, jpL_ob, jpR_ob, jpN_ob, jrc_ob, obj_sV, obj_wF, obj_wG, obj_wR, arr_sV, arr_wF, arr_wG, arr_wR, arL_sV, arL_wF, arL_wG, arL_wR, arR_sV, arR_wF, arR_wG, arR_wR, fI_sV (c := 0), fI_sV (c := 1), fI_sV (c := 2), fI_sV (c := 4), fI_sV (c := 5), fI_sV (c := 7), fI_sV (c := 8), fI_sV (c := 9), fI_sV (c := 10), fI_sV (c := 11), fI_sV (c := 12), fI_sV (c := 6), fL_sV (c := 9), fL_sV (c := 12), fI_sV_k, fL_sV_k, fV_sV_k, fI_wF, fI_wG, fI_wR, fL_wF, fL_wG, fL_wR, fV_wF, fV_wG, fV_wR, aF_sV, aG_sV, aR_sV, aF_wG, aF_wR, aG_wF, aG_wR, aR_wF, aR_wG, gM g, gN g, ti_lt, tl, true_and]
    have eP : (P + 1).toInt = P.toInt + 1 := (by simp only [Int32.toInt_add, Int32.toInt_sub, Int32.toInt_mul, Int32.toInt_neg, Int.bmod_def, tl]; omega)
    refine c_mreach g (by decide) (by decide) (by omega) (by omega) (fun x hx => ?_)
    try dsimp only [jrI, jrN, jrA, jisr, jnul, jcat1]
    have hx2 : x.toInt = lgU 900 + 4096 * P.toInt := by
      have e9 : lgU 900 = 4096 := lgU_900 1
      rw [hx, eP, e9, show ((100 : Int32).toInt - 100).toNat = 0 from rfl, lgU_0]
      omega
    refine ap 900 x _ (by omega) hx2 (fun w hw => ?_)
    try dsimp only [jrI, jrN, jrA, jisr, jnul, jcat1]
    rcases hI with ⟨c1, -⟩ | ⟨s, hA, h9, h10, h11⟩
    · omega
    · have hs := hA.1
      simp only [hw, h11, ti_eq, ti_lt, tl]
      refine ⟨fun c1 => ?_, fun c1 => ?_⟩
      · have hA2 := AM_y hA c1
        refine ⟨fun c2 => H _ 900 hA2 (fun _ => rfl) (fun q => absurd c2 q), fun c2 => H _ 900 hA2 (fun q => absurd q c2) (fun _ => ?_)⟩
        rw [eP]; rfl
      · have hA2 := AM_n hA c1
        refine ⟨fun c2 => H _ s hA2 (fun _ => ?_) (fun q => absurd c2 q), fun c2 => H _ s hA2 (fun q => absurd q c2) (fun _ => ?_)⟩
        · rw [h9]; omega
        · rw [h10]; omega
  | succ j ih =>
    intro k a9 a10 a11 a12 o1 o2 o3 o4 o6 o13 c z hj h12 hI
    have h12' : (a12 + 1).toInt = ((k + 1 + 100 : Nat) : Int) := (by simp only [Int32.toInt_add, Int32.toInt_sub, Int32.toInt_mul, Int32.toInt_neg, Int.bmod_def, tl]; omega)
    refine jT_X12_thread_132 (jif_t (by rw [ti_lt, h12, show (1000 : Int32).toInt = 1000 from rfl]; omega) ?_)
    simp (decide := true) only [jgI_ob, jgf_ob, jgL_ob, jpI_ob, jpL_ob, jpR_ob, jpN_ob, jrc_ob, obj_sV, obj_wF, obj_wG, obj_wR, arr_sV, arr_wF, arr_wG, arr_wR, arL_sV, arL_wF, arL_wG, arL_wR, arR_sV, arR_wF, arR_wG, arR_wR, fI_sV (c := 0), fI_sV (c := 1), fI_sV (c := 2), fI_sV (c := 4), fI_sV (c := 5), fI_sV (c := 7), fI_sV (c := 8), fI_sV (c := 9), fI_sV (c := 10), fI_sV (c := 11), fI_sV (c := 12), fI_sV (c := 6), fL_sV (c := 9), fL_sV (c := 12), fI_sV_k, fL_sV_k, fV_sV_k, fI_wF, fI_wG, fI_wR, fL_wF, fL_wG, fL_wR, fV_wF, fV_wG, fV_wR, aF_sV, aG_sV, aR_sV, aF_wG, aF_wR, aG_wF, aG_wR, aR_wF, aR_wG, gM g, gN g, ti_lt, tl, true_and]
    refine c_mreach g (by omega) (by omega) (by omega) (by omega) (fun x hx => ?_)
    try dsimp only [jrI, jrN, jrA, jisr, jnul, jcat1]
    refine ap k x _ (by omega) (by rw [hx, show (a12.toInt - 100).toNat = k by omega]) (fun w hw => ?_)
    try dsimp only [jrI, jrN, jrA, jisr, jnul, jcat1]
    rcases hI with ⟨c1, c2⟩ | ⟨s, hA, h9, h10, h11⟩
    · subst c1
      have e0 : CN v 0 = v := by unfold CN; rw [lgU_0]; omega
      refine jif_t (by rw [hw, e0]; exact c2) (ih 1 _ _ _ _ _ _ _ _ _ _ _ _ (by omega) h12' (Or.inr ⟨0, AM_1, h12, rfl, hw⟩))
    · simp only [hw, h11]
      exact ⟨fun c => ih (k + 1) _ _ _ _ _ _ _ _ _ _ _ _ (by omega) h12' (Or.inr ⟨k, AM_y hA c, h12, rfl, hw⟩), fun c => ih (k + 1) _ _ _ _ _ _ _ _ _ _ _ _ (by omega) h12' (Or.inr ⟨s, AM_n hA c, h9, h10, h11⟩)⟩
theorem a_thread {X : JX} {h : JH} (g : G h) (ch : CH h) {a1 a2 a3 a4 a5 : Int32} : AGR X 263 266 [.int a1, .int a2, .int a3, .int a4, .int a5] h (fun h2 => fr [] [] h h2) := by
  obtain ⟨z70, z71, z72, z73, b0, b1, b2, b3, b4, b5, b6, b7⟩ := id ch
  intro Q K
  rw [jE_X11_thread]
  have bad : ¬ (100 ≤ a1.toInt ∧ a1.toInt ≤ 999 ∧ -99 ≤ a2.toInt ∧ a2.toInt ≤ 99 ∧ 100 ≤ a3.toInt ∧ a3.toInt ≤ 999 ∧ -99 ≤ a4.toInt ∧ a4.toInt ≤ 99 ∧ 0 ≤ a5.toInt ∧ a5.toInt ≤ 1) → Q (some (.int (-1000))) h := by
    intro cc
    refine K _ _ (fun Q2 H => ?_)
    have HH := H _ fr_rfl
    rw [jE_X12_thread]
    refine jT_X12_thread_0 (c_mNumber (fun _ => jif_t rfl HH) (fun c1 => jif_n (by decide) (c_mNumber (fun _ => jif_t rfl HH) (fun c2 => jif_n (by decide) ?_))))
    simp (decide := true) only [ti_lt, tl]
    exact ⟨fun _ => HH, fun _ => ⟨fun _ => HH, fun _ => absurd (by omega) cc⟩⟩
  refine jT_X11_thread_0 (c_cNumber (fun c => jif_t rfl (bad (by omega))) (fun c1 => jif_n (by decide) (c_cNumber (fun c => jif_t rfl (bad (by omega))) (fun c2 => jif_n (by decide) ?_))))
  simp (decide := true) only [jgI_ob, jgf_ob, jgL_ob, jpI_ob, jpL_ob, jpR_ob, jpN_ob, jrc_ob, obj_sV, obj_wF, obj_wG, obj_wR, arr_sV, arr_wF, arr_wG, arr_wR, arL_sV, arL_wF, arL_wG, arL_wR, arR_sV, arR_wF, arR_wG, arR_wR, fI_sV (c := 0), fI_sV (c := 1), fI_sV (c := 2), fI_sV (c := 4), fI_sV (c := 5), fI_sV (c := 7), fI_sV (c := 8), fI_sV (c := 9), fI_sV (c := 10), fI_sV (c := 11), fI_sV (c := 12), fI_sV (c := 6), fL_sV (c := 9), fL_sV (c := 12), fI_sV_k, fL_sV_k, fV_sV_k, fI_wF, fI_wG, fI_wR, fL_wF, fL_wG, fL_wR, fV_wF, fV_wG, fV_wR, aF_sV, aG_sV, aR_sV, aF_wG, aF_wR, aG_wF, aG_wR, aR_wF, aR_wG, gO g, gF g, ti_lt, tl]
  refine ⟨fun c => bad (by omega), fun c3 => ⟨fun c => bad (by omega), fun c4 => ?_⟩⟩
  have l1 := lgU_mono (show (a1.toInt - 100).toNat ≤ 900 * 1 by omega)
  have l2 := lgU_mono (show (a3.toInt - 100).toNat ≤ 900 * 1 by omega)
  rw [lgU_900] at l1 l2
  refine c_reachOf g (by omega) (by omega) (by omega) (by omega) (fun x hx => ?_)
  try dsimp only [jrI, jrN, jrA, jisr, jnul, jcat1]
  simp (decide := true) only [jgI_ob, jgf_ob, jgL_ob, jpI_ob, jpL_ob, jpR_ob, jpN_ob, jrc_ob, obj_sV, obj_wF, obj_wG, obj_wR, arr_sV, arr_wF, arr_wG, arr_wR, arL_sV, arL_wF, arL_wG, arL_wR, arR_sV, arR_wF, arR_wG, arR_wR, fI_sV (c := 0), fI_sV (c := 1), fI_sV (c := 2), fI_sV (c := 4), fI_sV (c := 5), fI_sV (c := 7), fI_sV (c := 8), fI_sV (c := 9), fI_sV (c := 10), fI_sV (c := 11), fI_sV (c := 12), fI_sV (c := 6), fL_sV (c := 9), fL_sV (c := 12), fI_sV_k, fL_sV_k, fV_sV_k, fI_wF, fI_wG, fI_wR, fL_wF, fL_wG, fL_wR, fV_wF, fV_wG, fV_wR, aF_sV, aG_sV, aR_sV, aF_wG, aF_wR, aG_wF, aG_wR, aR_wF, aR_wG, gO g, gF g, ti_lt, tl, true_and]
  refine c_reachOf g (by omega) (by omega) (by omega) (by omega) (fun y hy => ?_)
  try dsimp only [jrI, jrN, jrA, jisr, jnul, jcat1]
  simp (decide := true) only [jgI_ob, jgf_ob, jgL_ob, jpI_ob, jpL_ob, jpR_ob, jpN_ob, jrc_ob, obj_sV, obj_wF, obj_wG, obj_wR, arr_sV, arr_wF, arr_wG, arr_wR, arL_sV, arL_wF, arL_wG, arL_wR, arR_sV, arR_wF, arR_wG, arR_wR, fI_sV (c := 0), fI_sV (c := 1), fI_sV (c := 2), fI_sV (c := 4), fI_sV (c := 5), fI_sV (c := 7), fI_sV (c := 8), fI_sV (c := 9), fI_sV (c := 10), fI_sV (c := 11), fI_sV (c := 12), fI_sV (c := 6), fL_sV (c := 9), fL_sV (c := 12), fI_sV_k, fL_sV_k, fV_sV_k, fI_wF, fI_wG, fI_wR, fL_wF, fL_wG, fL_wR, fV_wF, fV_wG, fV_wR, aF_sV, aG_sV, aR_sV, aF_wG, aF_wR, aG_wF, aG_wR, aR_wF, aR_wG, gO g, gF g, ti_lt, tl, true_and]
  refine c_middleReach g ch (by omega) (by omega) (by omega) (by omega) (fun T hT t0 t1 => ?_)
  try dsimp only [jrI, jrN, jrA, jisr, jnul, jcat1]
  simp (decide := true) only [jgI_ob, jgf_ob, jgL_ob, jpI_ob, jpL_ob, jpR_ob, jpN_ob, jrc_ob, obj_sV, obj_wF, obj_wG, obj_wR, arr_sV, arr_wF, arr_wG, arr_wR, arL_sV, arL_wF, arL_wG, arL_wR, arR_sV, arR_wF, arR_wG, arR_wR, fI_sV (c := 0), fI_sV (c := 1), fI_sV (c := 2), fI_sV (c := 4), fI_sV (c := 5), fI_sV (c := 7), fI_sV (c := 8), fI_sV (c := 9), fI_sV (c := 10), fI_sV (c := 11), fI_sV (c := 12), fI_sV (c := 6), fL_sV (c := 9), fL_sV (c := 12), fI_sV_k, fL_sV_k, fV_sV_k, fI_wF, fI_wG, fI_wR, fL_wF, fL_wG, fL_wR, fV_wF, fV_wG, fV_wR, aF_sV, aG_sV, aR_sV, aF_wG, aF_wR, aG_wF, aG_wR, aR_wF, aR_wG, gO g, gF g, ti_lt, tl, true_and]
  refine c_floorMod (by decide) ?_
  try dsimp only [jrI, jrN, jrA, jisr, jnul, jcat1]
  have ev : (zI (T.toInt % (4096 : Int32).toInt)).toInt = T.toInt % 4096 := zt (by rw [show (4096 : Int32).toInt = 4096 from rfl]; omega) (by rw [show (4096 : Int32).toInt = 4096 from rfl]; omega)
  generalize zI (T.toInt % (4096 : Int32).toInt) = vm at ev
  simp (decide := true) only [jgI_ob, jgf_ob, jgL_ob, jpI_ob, jpL_ob, jpR_ob, jpN_ob, jrc_ob, obj_sV, obj_wF, obj_wG, obj_wR, arr_sV, arr_wF, arr_wG, arr_wR, arL_sV, arL_wF, arL_wG, arL_wR, arR_sV, arR_wF, arR_wG, arR_wR, fI_sV (c := 0), fI_sV (c := 1), fI_sV (c := 2), fI_sV (c := 4), fI_sV (c := 5), fI_sV (c := 7), fI_sV (c := 8), fI_sV (c := 9), fI_sV (c := 10), fI_sV (c := 11), fI_sV (c := 12), fI_sV (c := 6), fL_sV (c := 9), fL_sV (c := 12), fI_sV_k, fL_sV_k, fV_sV_k, fI_wF, fI_wG, fI_wR, fL_wF, fL_wG, fL_wR, fV_wF, fV_wG, fV_wR, aF_sV, aG_sV, aR_sV, aF_wG, aF_wR, aG_wF, aG_wR, aR_wF, aR_wG, gO g, gF g, ti_lt, tl, true_and]
  refine c_nearest g (by omega) (by omega) (fun r s hr hA => ?_)
  rw [ev] at hA
  have hs := hA.1
  try dsimp only [jrI, jrN, jrA, jisr, jnul, jcat1]
  -- the model's side, once
  have M : ∀ (w : Int32), (a5.toInt = 0 → w.toInt = ((s % 900 + 100 : Nat) : Int)) → (a5.toInt ≠ 0 → w.toInt = T.toInt / 4096 + ((s / 900 : Nat) : Int)) → ∀ Q2 : JQ, (∀ h2, fr [] [] h h2 → Q2 (some (.int w)) h2) → jex X 10 266 [.ref 81, .int a1, .int a2, .int a3, .int a4, .int a5] h Q2 := by
    intro w w0 w1 Q2 H
    rw [jE_X12_thread]
    refine jT_X12_thread_0 (c_mNumber (fun c => absurd c1 c) (fun _ => jif_n (by decide) (c_mNumber (fun c => absurd c2 c) (fun _ => jif_n (by decide) ?_))))
    simp (decide := true) only [jgI_ob, jgf_ob, jgL_ob, jpI_ob, jpL_ob, jpR_ob, jpN_ob, jrc_ob, obj_sV, obj_wF, obj_wG, obj_wR, arr_sV, arr_wF, arr_wG, arr_wR, arL_sV, arL_wF, arL_wG, arL_wR, arR_sV, arR_wF, arR_wG, arR_wR, fI_sV (c := 0), fI_sV (c := 1), fI_sV (c := 2), fI_sV (c := 4), fI_sV (c := 5), fI_sV (c := 7), fI_sV (c := 8), fI_sV (c := 9), fI_sV (c := 10), fI_sV (c := 11), fI_sV (c := 12), fI_sV (c := 6), fL_sV (c := 9), fL_sV (c := 12), fI_sV_k, fL_sV_k, fV_sV_k, fI_wF, fI_wG, fI_wR, fL_wF, fL_wG, fL_wR, fV_wF, fV_wG, fV_wR, aF_sV, aG_sV, aR_sV, aF_wG, aF_wR, aG_wF, aG_wR, aR_wF, aR_wG, gM g, ti_lt, tl]
    refine jif_n c3 (jif_n c4 ?_)
    refine c_mreach g (by omega) (by omega) (by omega) (by omega) (fun x' hx' => ?_)
    rw [show x' = x by rw [ti_eq, hx, hx']]
    try dsimp only [jrI, jrN, jrA, jisr, jnul, jcat1]
    simp (decide := true) only [jgI_ob, jgf_ob, jgL_ob, jpI_ob, jpL_ob, jpR_ob, jpN_ob, jrc_ob, obj_sV, obj_wF, obj_wG, obj_wR, arr_sV, arr_wF, arr_wG, arr_wR, arL_sV, arL_wF, arL_wG, arL_wR, arR_sV, arR_wF, arR_wG, arR_wR, fI_sV (c := 0), fI_sV (c := 1), fI_sV (c := 2), fI_sV (c := 4), fI_sV (c := 5), fI_sV (c := 7), fI_sV (c := 8), fI_sV (c := 9), fI_sV (c := 10), fI_sV (c := 11), fI_sV (c := 12), fI_sV (c := 6), fL_sV (c := 9), fL_sV (c := 12), fI_sV_k, fL_sV_k, fV_sV_k, fI_wF, fI_wG, fI_wR, fL_wF, fL_wG, fL_wR, fV_wF, fV_wG, fV_wR, aF_sV, aG_sV, aR_sV, aF_wG, aF_wR, aG_wF, aG_wR, aR_wF, aR_wG, gM g, z70]
    refine c_floored (by omega) ?_
    try dsimp only [jrI, jrN, jrA, jisr, jnul, jcat1]
    simp (decide := true) only [jgI_ob, jgf_ob, jgL_ob, jpI_ob, jpL_ob, jpR_ob, jpN_ob, jrc_ob, obj_sV, obj_wF, obj_wG, obj_wR, arr_sV, arr_wF, arr_wG, arr_wR, arL_sV, arL_wF, arL_wG, arL_wR, arR_sV, arR_wF, arR_wG, arR_wR, fI_sV (c := 0), fI_sV (c := 1), fI_sV (c := 2), fI_sV (c := 4), fI_sV (c := 5), fI_sV (c := 7), fI_sV (c := 8), fI_sV (c := 9), fI_sV (c := 10), fI_sV (c := 11), fI_sV (c := 12), fI_sV (c := 6), fL_sV (c := 9), fL_sV (c := 12), fI_sV_k, fL_sV_k, fV_sV_k, fI_wF, fI_wG, fI_wR, fL_wF, fL_wG, fL_wR, fV_wF, fV_wG, fV_wR, aF_sV, aG_sV, aR_sV, aF_wG, aF_wR, aG_wF, aG_wR, aR_wF, aR_wG, gM g, z72]
    refine c_mreach g (by omega) (by omega) (by omega) (by omega) (fun y' hy' => ?_)
    rw [show y' = y by rw [ti_eq, hy, hy']]
    try dsimp only [jrI, jrN, jrA, jisr, jnul, jcat1]
    simp (decide := true) only [jgI_ob, jgf_ob, jgL_ob, jpI_ob, jpL_ob, jpR_ob, jpN_ob, jrc_ob, obj_sV, obj_wF, obj_wG, obj_wR, arr_sV, arr_wF, arr_wG, arr_wR, arL_sV, arL_wF, arL_wG, arL_wR, arR_sV, arR_wF, arR_wG, arR_wR, fI_sV (c := 0), fI_sV (c := 1), fI_sV (c := 2), fI_sV (c := 4), fI_sV (c := 5), fI_sV (c := 7), fI_sV (c := 8), fI_sV (c := 9), fI_sV (c := 10), fI_sV (c := 11), fI_sV (c := 12), fI_sV (c := 6), fL_sV (c := 9), fL_sV (c := 12), fI_sV_k, fL_sV_k, fV_sV_k, fI_wF, fI_wG, fI_wR, fL_wF, fL_wG, fL_wR, fV_wF, fV_wG, fV_wR, aF_sV, aG_sV, aR_sV, aF_wG, aF_wR, aG_wF, aG_wR, aR_wF, aR_wG, gM g, z71]
    refine c_floored (by omega) ?_
    try dsimp only [jrI, jrN, jrA, jisr, jnul, jcat1]
    simp (decide := true) only [jgI_ob, jgf_ob, jgL_ob, jpI_ob, jpL_ob, jpR_ob, jpN_ob, jrc_ob, obj_sV, obj_wF, obj_wG, obj_wR, arr_sV, arr_wF, arr_wG, arr_wR, arL_sV, arL_wF, arL_wG, arL_wR, arR_sV, arR_wF, arR_wG, arR_wR, fI_sV (c := 0), fI_sV (c := 1), fI_sV (c := 2), fI_sV (c := 4), fI_sV (c := 5), fI_sV (c := 7), fI_sV (c := 8), fI_sV (c := 9), fI_sV (c := 10), fI_sV (c := 11), fI_sV (c := 12), fI_sV (c := 6), fL_sV (c := 9), fL_sV (c := 12), fI_sV_k, fL_sV_k, fV_sV_k, fI_wF, fI_wG, fI_wR, fL_wF, fL_wG, fL_wR, fV_wF, fV_wG, fV_wR, aF_sV, aG_sV, aR_sV, aF_wG, aF_wR, aG_wF, aG_wR, aR_wF, aR_wG, gM g, z72]
    have d1 := dv_bd (x := x.toInt) (M := 500000) b0 b1 (by omega) (by omega)
    have d2 := dv_bd (x := y.toInt) (M := 500000) b2 b3 (by omega) (by omega)
    have q1 : (zI (x.toInt / (fI h 70 0).toInt)).toInt = x.toInt / (fI h 70 0).toInt := zt (by omega) (by omega)
    have q2 : (zI (y.toInt / (fI h 70 1).toInt)).toInt = y.toInt / (fI h 70 1).toInt := zt (by omega) (by omega)
    have q3 : (8 - fI h 70 2).toInt = 8 - (fI h 70 2).toInt := (by simp only [Int32.toInt_add, Int32.toInt_sub, Int32.toInt_mul, Int32.toInt_neg, Int.bmod_def, tl]; omega)
    have p1 := ml_bd (x := x.toInt / (fI h 70 0).toInt) (y := 8 - (fI h 70 2).toInt) (M := 500001) (by omega) (by omega) (by omega) (by omega)
    have p2 := ml_bd (x := y.toInt / (fI h 70 1).toInt) (y := (fI h 70 2).toInt) (M := 500001) (by omega) (by omega) (by omega) (by omega)
    have q4 : (zI (x.toInt / (fI h 70 0).toInt) * (8 - fI h 70 2)).toInt = x.toInt / (fI h 70 0).toInt * (8 - (fI h 70 2).toInt) := by
      rw [ti_mul (by rw [q1, q3]; omega) (by rw [q1, q3]; omega), q1, q3]
    have q5 : (zI (y.toInt / (fI h 70 1).toInt) * fI h 70 2).toInt = y.toInt / (fI h 70 1).toInt * (fI h 70 2).toInt := by
      rw [ti_mul (by rw [q2]; omega) (by rw [q2]; omega), q2]
    have q6 : (zI (x.toInt / (fI h 70 0).toInt) * (8 - fI h 70 2) + zI (y.toInt / (fI h 70 1).toInt) * fI h 70 2).toInt = x.toInt / (fI h 70 0).toInt * (8 - (fI h 70 2).toInt) + y.toInt / (fI h 70 1).toInt * (fI h 70 2).toInt := by
      rw [ti_add (by omega) (by omega), q4, q5]
    refine c_floored (by decide) ?_
    try dsimp only [jrI, jrN, jrA, jisr, jnul, jcat1]
    simp (decide := true) only [jgI_ob, jgf_ob, jgL_ob, jpI_ob, jpL_ob, jpR_ob, jpN_ob, jrc_ob, obj_sV, obj_wF, obj_wG, obj_wR, arr_sV, arr_wF, arr_wG, arr_wR, arL_sV, arL_wF, arL_wG, arL_wR, arR_sV, arR_wF, arR_wG, arR_wR, fI_sV (c := 0), fI_sV (c := 1), fI_sV (c := 2), fI_sV (c := 4), fI_sV (c := 5), fI_sV (c := 7), fI_sV (c := 8), fI_sV (c := 9), fI_sV (c := 10), fI_sV (c := 11), fI_sV (c := 12), fI_sV (c := 6), fL_sV (c := 9), fL_sV (c := 12), fI_sV_k, fL_sV_k, fV_sV_k, fI_wF, fI_wG, fI_wR, fL_wF, fL_wG, fL_wR, fV_wF, fV_wG, fV_wR, aF_sV, aG_sV, aR_sV, aF_wG, aF_wR, aG_wF, aG_wR, aR_wF, aR_wG, gM g, z73]
    rw [q6, show (8 : Int32).toInt = 8 from rfl]
    have eT : zI ((x.toInt / (fI h 70 0).toInt * (8 - (fI h 70 2).toInt) + y.toInt / (fI h 70 1).toInt * (fI h 70 2).toInt) / 8) * fI h 70 3 = T := by
      have q7 : (zI ((x.toInt / (fI h 70 0).toInt * (8 - (fI h 70 2).toInt) + y.toInt / (fI h 70 1).toInt * (fI h 70 2).toInt) / 8)).toInt = (x.toInt / (fI h 70 0).toInt * (8 - (fI h 70 2).toInt) + y.toInt / (fI h 70 1).toInt * (fI h 70 2).toInt) / 8 := zt (by omega) (by omega)
      unfold MR at hT
      rw [ti_eq, ti_mul (by rw [q7, ← hT]; omega) (by rw [q7, ← hT]; omega), q7, hT]
    rw [eT]
    refine c_floored (by decide) ?_
    try dsimp only [jrI, jrN, jrA, jisr, jnul, jcat1]
    have eP : (zI (T.toInt / (4096 : Int32).toInt)).toInt = T.toInt / 4096 := zt (by rw [show (4096 : Int32).toInt = 4096 from rfl]; omega) (by rw [show (4096 : Int32).toInt = 4096 from rfl]; omega)
    generalize zI (T.toInt / (4096 : Int32).toInt) = P at eP
    simp (decide := true) only [jgI_ob, jgf_ob, jgL_ob, jpI_ob, jpL_ob, jpR_ob, jpN_ob, jrc_ob, obj_sV, obj_wF, obj_wG, obj_wR, arr_sV, arr_wF, arr_wG, arr_wR, arL_sV, arL_wF, arL_wG, arL_wR, arR_sV, arR_wF, arR_wG, arR_wR, fI_sV (c := 0), fI_sV (c := 1), fI_sV (c := 2), fI_sV (c := 4), fI_sV (c := 5), fI_sV (c := 7), fI_sV (c := 8), fI_sV (c := 9), fI_sV (c := 10), fI_sV (c := 11), fI_sV (c := 12), fI_sV (c := 6), fL_sV (c := 9), fL_sV (c := 12), fI_sV_k, fL_sV_k, fV_sV_k, fI_wF, fI_wG, fI_wR, fL_wF, fL_wG, fL_wR, fV_wF, fV_wG, fV_wR, aF_sV, aG_sV, aR_sV, aF_wG, aF_wR, aG_wF, aG_wR, aR_wF, aR_wG, gM g, gN g, ti_lt, tl, true_and]
    have eP1 : (P - 1).toInt = P.toInt - 1 := (by simp only [Int32.toInt_add, Int32.toInt_sub, Int32.toInt_mul, Int32.toInt_neg, Int.bmod_def, tl]; omega)
    refine c_mreach g (by decide) (by decide) (by omega) (by omega) (fun x9 hx9 => ?_)
    try dsimp only [jrI, jrN, jrA, jisr, jnul, jcat1]
    have hl9 := lgU_lt 899
    have hx99 : x9.toInt = lgU 899 + 4096 * (P.toInt - 1) := by rw [hx9, eP1]; rfl
    refine c_apart (by omega) (by omega) ?_
    try dsimp only [jrI, jrN, jrA, jisr, jnul, jcat1]
    refine l_thread (d := 8) g (v := T.toInt % 4096) (by omega) (by omega) (by omega) (by omega) (by omega) (fun r' s' hA' r0 r1 => ?_) 900 0 _ _ _ _ _ _ _ _ _ _ _ _ (by omega) (by rfl) (Or.inl ⟨rfl, ?_⟩)
    · have es := AM_un hA hA'
      subst es
      rw [show r' = w from ?_]
      · exact H _ fr_rfl
      · rw [ti_eq]
        by_cases c : a5.toInt = 0
        · rw [r0 c, w0 c]
        · rw [r1 c, w1 c, eP]
    · rw [zt (by omega) (by omega)]
      omega
  refine ⟨fun c5 => ?_, fun c5 => ?_⟩
  · rw [ti_eq] at c5
    refine c_digitsOf hr (fun w hw => ?_)
    try dsimp only [jrI, jrN, jrA, jisr, jnul, jcat1]
    exact K _ _ (M w (fun _ => hw) (fun q => absurd c5 q))
  · rw [ti_eq] at c5
    refine c_floorDiv (by decide) ?_
    try dsimp only [jrI, jrN, jrA, jisr, jnul, jcat1]
    have eP : (zI (T.toInt / (4096 : Int32).toInt)).toInt = T.toInt / 4096 := zt (by rw [show (4096 : Int32).toInt = 4096 from rfl]; omega) (by rw [show (4096 : Int32).toInt = 4096 from rfl]; omega)
    generalize zI (T.toInt / (4096 : Int32).toInt) = P at eP
    refine c_decadeOf hr (fun w hw => ?_)
    try dsimp only [jrI, jrN, jrA, jisr, jnul, jcat1]
    have ew : (P + w).toInt = T.toInt / 4096 + ((s / 900 : Nat) : Int) := (by simp only [Int32.toInt_add, Int32.toInt_sub, Int32.toInt_mul, Int32.toInt_neg, Int.bmod_def, tl]; omega)
    exact K _ _ (M _ (fun q => absurd q c5) (fun _ => ew))
end THR
