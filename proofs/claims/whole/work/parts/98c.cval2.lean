/-! A RUN: the class's values, loose and beyond; a value set -/
def vO (p : Nat) : List (Nat × Nat) := [(p, 0), (p, 1), (p, 2), (p, 3), (p, 4), (p, 5), (p, 6)]
theorem vO_m {p k : Nat} (hk : k < 7) : (p, k) ∈ vO p := by
  rcases (show k = 0 ∨ k = 1 ∨ k = 2 ∨ k = 3 ∨ k = 4 ∨ k = 5 ∨ k = 6 by omega) with e | e | e | e | e | e | e <;> subst e <;> simp [vO]
section CVB
variable {X : JX} {d : Nat} {Q : JQ} {h : JH} {p f : Nat} {v : V6}
theorem c_looseBy (g : G h) (vp : VBo h p v) (gv : GV v) (f1 : 1 ≤ f) (f3 : f ≤ 3) (H : ∀ y : Int32, y.toInt = lse v f → Q (some (.int y)) h) : jex X (d + 3) 194 [.ref p, .ref 1, .int (nI f)] h Q := by
  obtain ⟨o1, w1⟩ := vp
  have a0 := gv.1 0 (by decide)
  have a1 := gv.1 1 (by decide)
  have a2 := gv.1 2 (by decide)
  have r0 := rch_b gv (i := 0) (by decide)
  have r1 := rch_b gv (i := 1) (by decide)
  have r2 := rch_b gv (i := 2) (by decide)
  have e0 := w1 0 (by decide)
  have e1 := w1 1 (by decide)
  have e2 := w1 2 (by decide)
  have e3 := w1 3 (by decide)
  have e4 := w1 4 (by decide)
  have e5 := w1 5 (by decide)
  simp only [Nat.mul_zero, Nat.zero_add, Nat.mul_one, Nat.reduceAdd, Nat.reduceMul] at a0 a1 a2 e0 e1 e2 e3 e4 e5
  have oL : obj h 1 3 := by simp only [gO g]
  rw [jE_X10_looseBy]
  refine jT_X10_looseBy_0 ?_
  try dsimp only [jisr]
  rw [jgI_ob (c := 10) o1 rfl, jgI_ob (c := 10) o1 rfl, jrc_ob oL]
  refine c_reachOf (d := d) g (by omega) (by omega) (by omega) (by omega) (fun y0 h0 => ?_)
  try dsimp only [jrI, jrN, jrA, jisr, jnul, jcat1]
  rw [jgI_ob (c := 10) o1 rfl, jgI_ob (c := 10) o1 rfl, jrc_ob oL]
  refine c_reachOf (d := d) g (by omega) (by omega) (by omega) (by omega) (fun y1 h1 => ?_)
  try dsimp only [jrI, jrN, jrA, jisr, jnul, jcat1]
  rw [jgI_ob (c := 10) o1 rfl, jgI_ob (c := 10) o1 rfl, jrc_ob oL]
  refine c_reachOf (d := d) g (by omega) (by omega) (by omega) (by omega) (fun y2 h2 => ?_)
  try dsimp only [jrI, jrN, jrA, jisr, jnul, jcat1]
  have q0 : y0.toInt = rch v 0 := by rw [h0, e0, e1]; rfl
  have q1 : y1.toInt = rch v 1 := by rw [h1, e2, e3]; rfl
  have q2 : y2.toInt = rch v 2 := by rw [h2, e4, e5]; rfl
  have d1 : (y0 - y1).toInt = rch v 0 - rch v 1 := (by simp only [Int32.toInt_add, Int32.toInt_sub, Int32.toInt_mul, Int32.toInt_neg, Int.bmod_def, tl, t4]; omega)
  have d2 : (y2 - y0).toInt = rch v 2 - rch v 0 := (by simp only [Int32.toInt_add, Int32.toInt_sub, Int32.toInt_mul, Int32.toInt_neg, Int.bmod_def, tl, t4]; omega)
  have ef : (nI f).toInt = (f : Int) := nI_toInt (by omega)
  have t1 : (1 : Int32).toInt = 1 := rfl
  refine c_max (d := d + 1) ?_
  try dsimp only [jrI, jrN, jrA, jisr, jnul, jcat1]
  refine c_max (d := d + 1) ?_
  try dsimp only [jrI, jrN, jrA, jisr, jnul, jcat1]
  rw [d1, d2, ef, t1]
  have em : max (rch v 0 - rch v 1) (rch v 2 - rch v 0) = lsm v := rfl
  have ex : max (1 : Int) (f : Int) = (f : Int) := by omega
  rw [em, ex]
  have lo := gv.2
  have l0 : 0 ≤ lsm v := by unfold lsm; omega
  have l1 : lsm v ≤ 900000 := by unfold lsm; omega
  have z1 : (zI (lsm v)).toInt = lsm v := zt (by omega) (by omega)
  have z2 : (zI (f : Int)).toInt = (f : Int) := zt (by omega) (by omega)
  generalize zI (lsm v) = u1 at *
  generalize zI (f : Int) = u2 at *
  refine ⟨fun e => ?_, H _ ?_⟩
  · rw [e] at z2
    have : (0 : Int32).toInt = 0 := rfl
    omega
  · have s1 : (u1 + nI f).toInt = lsm v + f := (by simp only [Int32.toInt_add, Int32.toInt_sub, Int32.toInt_mul, Int32.toInt_neg, Int.bmod_def, tl, t4]; omega)
    generalize u1 + nI f = u3 at s1
    have s2 : (u3 - 1).toInt = lsm v + f - 1 := (by simp only [Int32.toInt_add, Int32.toInt_sub, Int32.toInt_mul, Int32.toInt_neg, Int.bmod_def, tl, t4]; omega)
    generalize u3 - 1 = u4 at s2
    rw [ti_divp (by omega) (by omega), s2, z2]
    unfold lse
    by_cases c : lsm v ≤ 0
    · rw [if_pos c]
      rcases (show f = 1 ∨ f = 2 ∨ f = 3 by omega) with e | e | e <;> subst e <;> omega
    · rw [if_neg c]
theorem c_isBeyond (vp : VBo h p v) (b1 : -10000000 ≤ v 1 ∧ v 1 ≤ 10000000) (b3 : -10000000 ≤ v 3 ∧ v 3 ≤ 10000000) (b5 : -10000000 ≤ v 5 ∧ v 5 ≤ 10000000) (H1 : ¬ inP v → Q (some (.int 1)) h) (H0 : inP v → Q (some (.int 0)) h) : jex X (d + 2) 179 [.ref p] h Q := by
  obtain ⟨o1, w1⟩ := vp
  have e1 : (fI h p 2).toInt = v 1 := w1 1 (by decide)
  have e3 : (fI h p 4).toInt = v 3 := w1 3 (by decide)
  have e5 : (fI h p 6).toInt = v 5 := w1 5 (by decide)
  rw [jE_X10_isBeyond]
  refine jT_X10_isBeyond_0 ?_
  rw [jgI_ob (c := 10) o1 rfl, jgI_ob (c := 10) o1 rfl, jgI_ob (c := 10) o1 rfl]
  refine c_min ?_
  try dsimp only [jrI, jrN, jrA, jisr, jnul, jcat1]
  refine c_min ?_
  try dsimp only [jrI, jrN, jrA, jisr, jnul, jcat1]
  rw [jgI_ob (c := 10) o1 rfl, jgI_ob (c := 10) o1 rfl, jgI_ob (c := 10) o1 rfl]
  refine c_max ?_
  try dsimp only [jrI, jrN, jrA, jisr, jnul, jcat1]
  refine c_max ?_
  try dsimp only [jrI, jrN, jrA, jisr, jnul, jcat1]
  have t99 : (99 : Int32).toInt = 99 := rfl
  have m99 : (-99 : Int32).toInt = -99 := rfl
  have z1 : (zI (min (fI h p 4).toInt (fI h p 6).toInt)).toInt = min (v 3) (v 5) := by rw [e3, e5, zt (by omega) (by omega)]
  have z2 : (zI (max (fI h p 4).toInt (fI h p 6).toInt)).toInt = max (v 3) (v 5) := by rw [e3, e5, zt (by omega) (by omega)]
  rw [z1, z2, e1]
  have z3 : (zI (min (v 1) (min (v 3) (v 5)))).toInt = min (v 1) (min (v 3) (v 5)) := zt (by omega) (by omega)
  have z4 : (zI (max (v 1) (max (v 3) (v 5)))).toInt = max (v 1) (max (v 3) (v 5)) := zt (by omega) (by omega)
  refine ⟨fun c => ⟨by decide, H1 (fun i => ?_)⟩, fun c => ⟨fun c2 => ⟨by decide, H1 (fun i => ?_)⟩, fun c2 => ⟨by decide, H0 ?_⟩⟩⟩
  · unfold inP at i
    rw [ti_lt, z3, m99] at c
    omega
  · unfold inP at i
    rw [ti_lt, z4, t99] at c2
    omega
  · unfold inP
    rw [ti_lt, z3, m99] at c
    rw [ti_lt, z4, t99] at c2
    omega
theorem c_setAlike (ob : obj h p 10) {D E : Int32} (H : ∀ h1, fr [] (vO p) h h1 → VBo h1 p (fun w => if w % 2 = 0 then D.toInt else E.toInt) → fI h1 p 0 = 1 → Q none h1) : jex X (d + 1) 177 [.ref p, .int D, .int E] h Q := by
  rw [jE_X10_setAlike]
  refine jT_X10_setAlike_0 ⟨by decide, ?_⟩
  simp (decide := true) only [jgI_ob, jgf_ob, jgL_ob, jpI_ob, jpL_ob, jpR_ob, jpN_ob, jrc_ob, obj_sV, obj_wF, obj_wG, obj_wR, arr_sV, arr_wF, arr_wG, arr_wR, arL_sV, arL_wF, arL_wG, arL_wR, arR_sV, arR_wF, arR_wG, arR_wR, fI_sV (c := 0), fI_sV (c := 1), fI_sV (c := 2), fI_sV (c := 4), fI_sV (c := 5), fI_sV (c := 7), fI_sV (c := 8), fI_sV (c := 9), fI_sV (c := 10), fI_sV (c := 11), fI_sV (c := 12), fI_sV (c := 6), fL_sV (c := 9), fL_sV (c := 12), fI_sV_k, fL_sV_k, fV_sV_k, fI_wF, fI_wG, fI_wR, fL_wF, fL_wG, fL_wR, fV_wF, fV_wG, fV_wR, aF_sV, aG_sV, aR_sV, aF_wG, aF_wR, aG_wF, aG_wR, aR_wF, aR_wG, ob]
  refine (fun S : (∀ hh, hh = _ → Q none hh) => S _ rfl) (fun hh ee => ?_)
  have k1 : fr [] (vO p) h hh := by rw [ee]; exact fr_sV (vO_m (by decide)) (fr_sV (vO_m (by decide)) (fr_sV (vO_m (by decide)) (fr_sV (vO_m (by decide)) (fr_sV (vO_m (by decide)) (fr_sV (vO_m (by decide)) (fr_sV (vO_m (by decide)) fr_rfl))))))
  refine H hh k1 ⟨?_, fun w hw => ?_⟩ ?_
  · rw [ee]; simp only [obj_sV]; exact ob
  · rcases (show w = 0 ∨ w = 1 ∨ w = 2 ∨ w = 3 ∨ w = 4 ∨ w = 5 by omega) with e | e | e | e | e | e <;> subst e <;> rw [ee] <;> simp (decide := true) only [jgI_ob, jgf_ob, jgL_ob, jpI_ob, jpL_ob, jpR_ob, jpN_ob, jrc_ob, obj_sV, obj_wF, obj_wG, obj_wR, arr_sV, arr_wF, arr_wG, arr_wR, arL_sV, arL_wF, arL_wG, arL_wR, arR_sV, arR_wF, arR_wG, arR_wR, fI_sV (c := 0), fI_sV (c := 1), fI_sV (c := 2), fI_sV (c := 4), fI_sV (c := 5), fI_sV (c := 7), fI_sV (c := 8), fI_sV (c := 9), fI_sV (c := 10), fI_sV (c := 11), fI_sV (c := 12), fI_sV (c := 6), fL_sV (c := 9), fL_sV (c := 12), fI_sV_k, fL_sV_k, fV_sV_k, fI_wF, fI_wG, fI_wR, fL_wF, fL_wG, fL_wR, fV_wF, fV_wG, fV_wR, aF_sV, aG_sV, aR_sV, aF_wG, aF_wR, aG_wF, aG_wR, aR_wF, aR_wG, ob] <;> rfl
  · rw [ee]; simp (decide := true) only [jgI_ob, jgf_ob, jgL_ob, jpI_ob, jpL_ob, jpR_ob, jpN_ob, jrc_ob, obj_sV, obj_wF, obj_wG, obj_wR, arr_sV, arr_wF, arr_wG, arr_wR, arL_sV, arL_wF, arL_wG, arL_wR, arR_sV, arR_wF, arR_wG, arR_wR, fI_sV (c := 0), fI_sV (c := 1), fI_sV (c := 2), fI_sV (c := 4), fI_sV (c := 5), fI_sV (c := 7), fI_sV (c := 8), fI_sV (c := 9), fI_sV (c := 10), fI_sV (c := 11), fI_sV (c := 12), fI_sV (c := 6), fL_sV (c := 9), fL_sV (c := 12), fI_sV_k, fL_sV_k, fV_sV_k, fI_wF, fI_wG, fI_wR, fL_wF, fL_wG, fL_wR, fV_wF, fV_wG, fV_wR, aF_sV, aG_sV, aR_sV, aF_wG, aF_wR, aG_wF, aG_wR, aR_wF, aR_wG, ob]
end CVB
