/-! A RUN: the class looks across, where a scale lacks -/
section CAD
variable {X : JX} {d : Nat} {Q : JQ} {h : JH} {q τ1 τ2 f1 f2 : Nat} {b1 b2 t2 : Bool} {fl1 fl2 : Nat → Int} {x : S7} {hs ey pl : Int} {v : V6}
theorem c_lookAcross3 (g : G h) (hx : HS h 6 x) (be : BUn x) (e0 : (fI h 6 0).toInt = hs) (h0 : 0 ≤ hs) (h20 : hs ≤ 20) (e1 : (fI h 6 1).toInt = ey) (y0 : 0 ≤ ey) (y40 : ey ≤ 40) (vq : VBo h q v) (gv : GV v) (sc1 : SC h τ1 b1 f1 false fl1) (hp1 : 126 ≤ τ1) {e : Int32} (epl : e.toInt = pl) (p0 : -1000000 ≤ pl) (p1 : pl ≤ 1000000) {z : Int × S7 × V6} (ez : z = pw2 hs ey pl (some fl1) none b1 f1 b2 f2 t2 v x) (H : ∀ h1, fr [] lkF h h1 → (z.1 = 0 → HS h1 6 z.2.1 ∧ VBo h1 53 z.2.2) → ∀ r : Int32, r.toInt = z.1 → Q (some (.int r)) h1) : jex X (d + 4) 193 [.ref 24, .ref q, .ref τ1, .null, .int e] h Q := by
  obtain ⟨o1, w1⟩ := id vq
  have a0 := gv.1 0 (by decide)
  have v0 := w1 0 (by decide)
  have v1 := w1 1 (by decide)
  simp only [Nat.mul_zero, Nat.zero_add, Nat.reduceAdd] at a0 v0 v1
  have s1 := sc1.1
  have k1 := sc1.2.1
  have k3 := sc1.2.2.1
  have eF : fI h τ1 1 = nI f1 := sc1.2.2.2.2.1
  have o6 : obj h 6 2 := by simp only [gO g]
  have vm := vmk_e gv k1
  have lb := lse_b gv k1 k3
  obtain ⟨x1, x2, x3, x4, x5, x6, x7⟩ := id hx
  have be' := id be
  obtain ⟨z1, z2, z3, z4, z5, z6, z7, z8, z9, z10, z11, z12⟩ := be
  rw [jE_X7_lookAcross_n1]
  refine jT_X7_lookAcross_0 ?_
  try dsimp only [jisr, jnul]
  rw [jgI_ob (c := 10) o1 rfl, jgI_ob (c := 10) o1 rfl, jrc_ob s1]
  refine c_markOfNumber (d := d + 1) sc1 (by omega) (by omega) (fun r j hr hj hjf => ?_)
  have ej : j = vmk v f1 := by rw [v0, v1] at hj; omega
  subst ej
  try dsimp only [jrI, jrN, jrA, jisr, jnul, jcat1]
  rw [jgf_ob (c := 7) (by simp only [gO g]) rfl, jgf_ob (c := 7) (by simp only [gO g]) rfl, show fV h 24 0 = .ref 6 by simp only [gF g]]
  try dsimp only [jisr, jnul]
  rw [jgf_ob (c := 7) (by simp only [gO g]) rfl, show fV h 24 1 = .ref 1 by simp only [gF g]]
  try dsimp only [jisr, jnul]
  rw [jgI_ob (c := 8) s1 rfl, eF, jrc_ob o1]
  refine c_looseBy (d := d) g vq gv k1 k3 (fun lo hlo => ?_)
  try dsimp only [jrI, jrN, jrA, jisr, jnul, jcat1]
  rw [jrc_ob o6]
  have EZ : z = if (pset hs x (ct f1 false fl1 (vmk v f1)) b1 (lse v f1)).1 = 0 then pwT ey pl none b2 f2 t2 v (pset hs x (ct f1 false fl1 (vmk v f1)) b1 (lse v f1)).2 else ((pset hs x (ct f1 false fl1 (vmk v f1)) b1 (lse v f1)).1, x, v) := ez
  refine c_bringHair (d := d + 1) g o6 sc1 hr hjf (by omega) (by omega) (fun c => ?_) (fun y ya yb yc => ?_)
  · rw [x1] at c
    have eP : (pset hs x (ct f1 false fl1 (vmk v f1)) b1 (lse v f1)) = (5, x) := by unfold pset phair; rw [if_pos c]
    rw [eP, if_neg (show ¬ (5 : Int) = 0 by decide)] at EZ
    rw [EZ] at H
    try dsimp only [jrI, jrN, jrA, jisr, jnul, jcat1]
    rw [jrc_ob o6]
    refine c_judge (d := d + 2) o6 hx (fun _ => ?_) (fun c => absurd rfl c)
    try dsimp only [jrI, jrN, jrA, jisr, jnul, jcat1]
    exact jif_n (by decide) (H h fr_rfl (fun w => absurd w (show ¬ (5 : Int) = 0 by decide)) 5 rfl)
  · rw [x1] at yc
    have eP : (pset hs x (ct f1 false fl1 (vmk v f1)) b1 (lse v f1)) = (jd (s7 (zs x) (ct f1 false fl1 (vmk v f1) + if b1 then 0 else zs x) (zu x) (hs + ((if b1 then 0 else zu x) + lse v f1)) (zsl x) (zhm x + 1) (zpl x)), s7 (zs x) (ct f1 false fl1 (vmk v f1) + if b1 then 0 else zs x) (zu x) (hs + ((if b1 then 0 else zu x) + lse v f1)) (zsl x) (zhm x + 1) (zpl x)) := by unfold pset phair; rw [if_neg (by omega)]
    have e7 : (fI h 6 0 + ((if b1 then 0 else fI h 6 6) + lo)).toInt = hs + ((if b1 then 0 else zu x) + lse v f1) := by
      cases b1
      · simp only [Bool.false_eq_true, if_false]
        exact (by simp only [Int32.toInt_add, Int32.toInt_sub, Int32.toInt_mul, Int32.toInt_neg, Int.bmod_def, tl, t4]; omega)
      · simp only [if_true]
        have t0 : (0 : Int32).toInt = 0 := rfl
        exact (by simp only [Int32.toInt_add, Int32.toInt_sub, Int32.toInt_mul, Int32.toInt_neg, Int.bmod_def, tl, t4]; omega)
    have e9 : (fI h 6 9 + 1).toInt = zhm x + 1 := (by simp only [Int32.toInt_add, Int32.toInt_sub, Int32.toInt_mul, Int32.toInt_neg, Int.bmod_def, tl, t4]; omega)
    generalize fI h 6 0 + ((if b1 then 0 else fI h 6 6) + lo) = w7 at *
    generalize fI h 6 9 + 1 = w9 at *
    have kk : fr [] (hF 6) h (sV (sV (sV h 6 5 (.int y)) 6 7 (.int w7)) 6 9 (.int w9)) := fr_sV (by decide) (fr_sV (by decide) (fr_sV (by decide) fr_rfl))
    have hx2 : HS (sV (sV (sV h 6 5 (.int y)) 6 7 (.int w7)) 6 9 (.int w9)) 6 (pset hs x (ct f1 false fl1 (vmk v f1)) b1 (lse v f1)).2 := by
      rw [eP]
      unfold HS
      simp (decide := true) only [jgI_ob, jgf_ob, jgL_ob, jpI_ob, jpL_ob, jpR_ob, jpN_ob, jrc_ob, obj_sV, obj_wF, obj_wG, obj_wR, arr_sV, arr_wF, arr_wG, arr_wR, arL_sV, arL_wF, arL_wG, arL_wR, arR_sV, arR_wF, arR_wG, arR_wR, fI_sV (c := 0), fI_sV (c := 1), fI_sV (c := 2), fI_sV (c := 4), fI_sV (c := 5), fI_sV (c := 7), fI_sV (c := 8), fI_sV (c := 9), fI_sV (c := 10), fI_sV (c := 11), fI_sV (c := 12), fI_sV (c := 6), fL_sV (c := 9), fL_sV (c := 12), fI_sV_k, fL_sV_k, fV_sV_k, fI_wF, fI_wG, fI_wR, fL_wF, fL_wG, fL_wR, fV_wF, fV_wG, fV_wR, aF_sV, aG_sV, aR_sV, aF_wG, aF_wR, aG_wF, aG_wR, aR_wF, aR_wG, o6]
      exact ⟨x1, yc, x3, e7, x5, e9, x7⟩
    try dsimp only [jrI, jrN, jrA, jisr, jnul, jcat1]
    generalize sV (sV (sV h 6 5 (.int y)) 6 7 (.int w7)) 6 9 (.int w9) = h2 at *
    have g2 := G_fr g rfl kk
    have o62 : obj h2 6 2 := by simp only [gO g2]
    rw [jrc_ob o62]
    have eJ : jd (pset hs x (ct f1 false fl1 (vmk v f1)) b1 (lse v f1)).2 = (pset hs x (ct f1 false fl1 (vmk v f1)) b1 (lse v f1)).1 := by rw [eP]
    refine c_judge (d := d + 2) o62 hx2 (fun c => absurd c (by decide)) (fun _ r hr => ?_)
    rw [eJ] at hr
    try dsimp only [jrI, jrN, jrA, jisr, jnul, jcat1]
    have kL : fr [] lkF h h2 := fr_mono (fun _ w => w) (fun _ w => List.mem_append_left _ w) kk
    refine ⟨fun c => ?_, fun c => ?_⟩
    · have c0 : (pset hs x (ct f1 false fl1 (vmk v f1)) b1 (lse v f1)).1 = 0 := by rw [← hr, c]; rfl
      have bb := pset_b c0
      have q5 : 0 ≤ (if b1 then 0 else zu x) := by split <;> omega
      rw [if_pos c0] at EZ
      have EZ : z = (2, (pset hs x (ct f1 false fl1 (vmk v f1)) b1 (lse v f1)).2, v) := EZ
      rw [EZ] at H
      try dsimp only [jisr, jnul]
      exact H h2 kL (fun w => absurd w (show ¬ (2 : Int) = 0 by decide)) 2 rfl
    · have c0 : ¬ (pset hs x (ct f1 false fl1 (vmk v f1)) b1 (lse v f1)).1 = 0 := by
        intro w
        refine c ?_
        rw [ti_eq, hr, w]
        rfl
      rw [if_neg c0] at EZ
      rw [EZ] at H
      exact H h2 kL (fun w => absurd w c0) r hr
theorem c_lookAcross1 {w : Value} (hw : w = .null ∨ ∃ k, w = .ref k) {e : Int32} (H : Q (some (.int 2)) h) : jex X (d + 1) 193 [.ref 24, .ref q, .null, w, .int e] h Q := by
  rcases hw with c | ⟨k, c⟩ <;> subst c
  · rw [jE_X7_lookAcross_n3]
    refine jT_X7_lookAcross_0 ?_
    try dsimp only [jisr, jnul]
    exact H
  · rw [jE_X7_lookAcross_n2]
    refine jT_X7_lookAcross_0 ?_
    try dsimp only [jisr, jnul]
    exact H
end CAD
