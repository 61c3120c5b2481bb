/-! A RUN: the class sets a value from what is seen -/
section CVC
variable {X : JX} {d : Nat} {Q : JQ} {h : JH} {p τ : Nat}
theorem c_setSighted (ob : obj h p 10) (ho : obj h τ 8) {a l u : Nat} (ha : (fI h τ 5).toInt = a) (hl : (fI h τ 6).toInt = l) (hu : (fI h τ 7).toInt = u) (a3 : a ≤ 2700) (l3 : l ≤ 2700) (u3 : u ≤ 2700) {e : Int32} {pl : Int} (epl : e.toInt = pl) (p0 : -1000000 ≤ pl) (p1 : pl ≤ 1000000) (H : ∀ h1, fr [] (vO p) h h1 → VBo h1 p (vsn (a, l, u) pl) → fI h1 p 0 = 1 → Q none h1) : jex X (d + 2) 178 [.ref p, .ref τ, .int e] h Q := by
  rw [jE_X10_setSighted]
  refine jT_X10_setSighted_0 ?_
  try dsimp only [jisr]
  rw [jrc_ob ho]
  refine c_sightedMark ho (fun r0 q0 _ _ => ?_)
  have q0 := q0 rfl
  subst q0
  try dsimp only [jrI, jrN, jrA, jisr, jnul, jcat1]
  rw [jrc_ob ho]
  refine c_sightedMark ho (fun r1 _ q1 _ => ?_)
  have q1 := q1 rfl
  subst q1
  try dsimp only [jrI, jrN, jrA, jisr, jnul, jcat1]
  rw [jrc_ob ho]
  refine c_sightedMark ho (fun r2 _ _ q2 => ?_)
  have q2 := q2 rfl
  subst q2
  try dsimp only [jrI, jrN, jrA, jisr, jnul, jcat1]
  refine ⟨by decide, ?_⟩
  simp (decide := true) only [jpI_ob (c := 10), obj_sV, ob, true_and]
  refine c_digitsOf (n := a) ha (fun x1 d1 => ?_)
  try dsimp only [jrI, jrN, jrA, jisr, jnul, jcat1]
  simp (decide := true) only [jpI_ob (c := 10), obj_sV, ob, true_and]
  refine c_decadeOf (n := a) ha (fun x2 d2 => ?_)
  try dsimp only [jrI, jrN, jrA, jisr, jnul, jcat1]
  simp (decide := true) only [jpI_ob (c := 10), obj_sV, ob, true_and]
  refine c_digitsOf (n := l) hl (fun x3 d3 => ?_)
  try dsimp only [jrI, jrN, jrA, jisr, jnul, jcat1]
  simp (decide := true) only [jpI_ob (c := 10), obj_sV, ob, true_and]
  refine c_decadeOf (n := l) hl (fun x4 d4 => ?_)
  try dsimp only [jrI, jrN, jrA, jisr, jnul, jcat1]
  simp (decide := true) only [jpI_ob (c := 10), obj_sV, ob, true_and]
  refine c_digitsOf (n := u) hu (fun x5 d5 => ?_)
  try dsimp only [jrI, jrN, jrA, jisr, jnul, jcat1]
  simp (decide := true) only [jpI_ob (c := 10), obj_sV, ob, true_and]
  refine c_decadeOf (n := u) hu (fun x6 d6 => ?_)
  try dsimp only [jrI, jrN, jrA, jisr, jnul, jcat1]
  simp (decide := true) only [jpI_ob (c := 10), obj_sV, ob, true_and]
  have s2 : (e + x2).toInt = pl + ((a / 900 : Nat) : Int) := (by simp only [Int32.toInt_add, Int32.toInt_sub, Int32.toInt_mul, Int32.toInt_neg, Int.bmod_def, tl, t4]; omega)
  have s4 : (e + x4).toInt = pl + ((l / 900 : Nat) : Int) := (by simp only [Int32.toInt_add, Int32.toInt_sub, Int32.toInt_mul, Int32.toInt_neg, Int.bmod_def, tl, t4]; omega)
  have s6 : (e + x6).toInt = pl + ((u / 900 : Nat) : Int) := (by simp only [Int32.toInt_add, Int32.toInt_sub, Int32.toInt_mul, Int32.toInt_neg, Int.bmod_def, tl, t4]; omega)
  generalize e + x2 = w2 at *
  generalize e + x4 = w4 at *
  generalize e + x6 = w6 at *
  refine (fun S : (∀ hh, hh = _ → Q none hh) => S _ rfl) (fun hh ee => ?_)
  have k1 : fr [] (vO p) h hh := by rw [ee]; exact fr_sV (vO_m (by decide)) (fr_sV (vO_m (by decide)) (fr_sV (vO_m (by decide)) (fr_sV (vO_m (by decide)) (fr_sV (vO_m (by decide)) (fr_sV (vO_m (by decide)) (fr_sV (vO_m (by decide)) fr_rfl))))))
  refine H hh k1 ⟨?_, fun w hw => ?_⟩ ?_
  · rw [ee]; simp only [obj_sV]; exact ob
  · rcases (show w = 0 ∨ w = 1 ∨ w = 2 ∨ w = 3 ∨ w = 4 ∨ w = 5 by omega) with z | z | z | z | z | z <;> subst z <;> rw [ee] <;> simp (decide := true) only [jgI_ob, jgf_ob, jgL_ob, jpI_ob, jpL_ob, jpR_ob, jpN_ob, jrc_ob, obj_sV, obj_wF, obj_wG, obj_wR, arr_sV, arr_wF, arr_wG, arr_wR, arL_sV, arL_wF, arL_wG, arL_wR, arR_sV, arR_wF, arR_wG, arR_wR, fI_sV (c := 0), fI_sV (c := 1), fI_sV (c := 2), fI_sV (c := 4), fI_sV (c := 5), fI_sV (c := 7), fI_sV (c := 8), fI_sV (c := 9), fI_sV (c := 10), fI_sV (c := 11), fI_sV (c := 12), fI_sV (c := 6), fL_sV (c := 9), fL_sV (c := 12), fI_sV_k, fL_sV_k, fV_sV_k, fI_wF, fI_wG, fI_wR, fL_wF, fL_wG, fL_wR, fV_wF, fV_wG, fV_wR, aF_sV, aG_sV, aR_sV, aF_wG, aF_wR, aG_wF, aG_wR, aR_wF, aR_wG, ob]
    · exact d1
    · exact s2
    · exact d3
    · exact s4
    · exact d5
    · exact s6
  · rw [ee]; simp (decide := true) only [jgI_ob, jgf_ob, jgL_ob, jpI_ob, jpL_ob, jpR_ob, jpN_ob, jrc_ob, obj_sV, obj_wF, obj_wG, obj_wR, arr_sV, arr_wF, arr_wG, arr_wR, arL_sV, arL_wF, arL_wG, arL_wR, arR_sV, arR_wF, arR_wG, arR_wR, fI_sV (c := 0), fI_sV (c := 1), fI_sV (c := 2), fI_sV (c := 4), fI_sV (c := 5), fI_sV (c := 7), fI_sV (c := 8), fI_sV (c := 9), fI_sV (c := 10), fI_sV (c := 11), fI_sV (c := 12), fI_sV (c := 6), fL_sV (c := 9), fL_sV (c := 12), fI_sV_k, fL_sV_k, fV_sV_k, fI_wF, fI_wG, fI_wR, fL_wF, fL_wG, fL_wR, fV_wF, fV_wG, fV_wR, aF_sV, aG_sV, aR_sV, aF_wG, aF_wR, aG_wF, aG_wR, aR_wF, aR_wG, ob]
end CVC
