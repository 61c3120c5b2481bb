/-! CALLS OF THE HAND -/
section HCA
variable {X : JX} {h : JH} {n : Nat} {m ρ τ f : Nat → Nat} {b t : Nat → Bool} {fl : Nat → Nat → Int} {B : Int}
theorem HD_mono (y : HD B h n ρ) : HD (B + 20) h n ρ := by
  obtain ⟨y1, y2, y3, y4, y5, s0, s1, h0, h1, u0, u1, v0, v1, y6⟩ := y
  exact ⟨y1, y2, y3, y4, y5, s0, s1, h0, h1, u0, by omega, v0, by omega, y6⟩
theorem a_hair (g : G h) (x : RB h n m ρ τ b f t fl) (st : ST h) (y : HD B h n ρ) (hB : B ≤ 1000000) {a1 a2 a3 : Int32} : AGR X 138 145 [.int a1, .int a2, .int a3] h (fun h2 => fr [] [(6, 5), (6, 7), (6, 9), (81, 15), (81, 17)] h h2 ∧ HD (B + 20) h2 n ρ) := by
  obtain ⟨y1, y2, y3, y4, y5, s0, s1, h0, h1, u0, u1, v0, v1, y6⟩ := id y
  obtain ⟨t1, t2, t3, t4, t5, t6⟩ := st
  have hmono := HD_mono y
  intro Q K
  rw [jE_X11_hair]
  refine jT_X11_hair_0 ?_
  simp (decide := true) only [jgI_ob, jgf_ob, jgL_ob, jpI_ob, jpL_ob, jpR_ob, jpN_ob, jrc_ob, obj_sV, obj_wF, obj_wG, obj_wR, arr_sV, arr_wF, arr_wG, arr_wR, arL_sV, arL_wF, arL_wG, arL_wR, arR_sV, arR_wF, arR_wG, arR_wR, fI_sV (c := 0), fI_sV (c := 1), fI_sV (c := 2), fI_sV (c := 4), fI_sV (c := 5), fI_sV (c := 7), fI_sV (c := 8), fI_sV (c := 9), fI_sV (c := 10), fI_sV (c := 11), fI_sV (c := 12), fI_sV (c := 6), fL_sV (c := 9), fL_sV (c := 12), fI_sV_k, fL_sV_k, fV_sV_k, fI_wF, fI_wG, fI_wR, fL_wF, fL_wG, fL_wR, fV_wF, fV_wG, fV_wR, aF_sV, aG_sV, aR_sV, aF_wG, aF_wR, aG_wF, aG_wR, aR_wF, aR_wG, gO g, gF g, ti_lt, tl, true_and]
  refine c_scaleInHand g x y (fun c => ?_) (fun r s hr hs er es => ?_)
  · dsimp only [jrI, jrN, jrA, jisr, jnul, jcat1]
    refine K _ _ (fun Q2 H => ?_)
    rw [jE_X12_hair]
    refine jT_X12_hair_0 ?_
    simp (decide := true) only [jgI_ob, jgf_ob, jgL_ob, jpI_ob, jpL_ob, jpR_ob, jpN_ob, jrc_ob, obj_sV, obj_wF, obj_wG, obj_wR, arr_sV, arr_wF, arr_wG, arr_wR, arL_sV, arL_wF, arL_wG, arL_wR, arR_sV, arR_wF, arR_wG, arR_wR, fI_sV (c := 0), fI_sV (c := 1), fI_sV (c := 2), fI_sV (c := 4), fI_sV (c := 5), fI_sV (c := 7), fI_sV (c := 8), fI_sV (c := 9), fI_sV (c := 10), fI_sV (c := 11), fI_sV (c := 12), fI_sV (c := 6), fL_sV (c := 9), fL_sV (c := 12), fI_sV_k, fL_sV_k, fV_sV_k, fI_wF, fI_wG, fI_wR, fL_wF, fL_wG, fL_wR, fV_wF, fV_wG, fV_wR, aF_sV, aG_sV, aR_sV, aF_wG, aF_wR, aG_wF, aG_wR, aR_wF, aR_wG, gM g, gN g, ti_lt, tl, true_and, y1]
    refine ⟨fun _ => H _ ⟨fr_rfl, hmono⟩, fun c1 => ?_⟩
    refine c_isScale g x (fun _ => ?_) (fun r s z1 z2 z3 z4 => absurd ⟨r, s, z1, z2, z3, z4⟩ c)
    dsimp only [jrI, jrN, jrA, jisr, jnul, jcat1]
    exact jif_t rfl (H _ ⟨fr_rfl, hmono⟩)
  · have nn := x.1
    obtain ⟨mm, -, -, -, -, -, -, -⟩ := x.2.2.2.1 r hr
    obtain ⟨w1, w2, sc, sm⟩ := x.2.2.2.2.1 r s hr hs
    have e8 := ix8 (by omega) (by omega) er es
    have iv : vp_in (8 * fI h 6 3 + a1) 32 := by rw [vp_inI, e8]; omega
    have f13 : 1 ≤ f (8 * r + s) ∧ f (8 * r + s) ≤ 3 := ⟨sc.2.1, sc.2.2.1⟩
    dsimp only [jrI, jrN, jrA, jisr, jnul, jcat1]
    refine c_cNumber (fun c => ?_) (fun c => ?_)
    · dsimp only [jrI, jrN, jrA, jisr, jnul, jcat1]
      refine jif_t rfl (K _ _ (fun Q2 H => ?_))
      rw [jE_X12_hair]
      refine jT_X12_hair_0 ?_
      simp (decide := true) only [jgI_ob, jgf_ob, jgL_ob, jpI_ob, jpL_ob, jpR_ob, jpN_ob, jrc_ob, obj_sV, obj_wF, obj_wG, obj_wR, arr_sV, arr_wF, arr_wG, arr_wR, arL_sV, arL_wF, arL_wG, arL_wR, arR_sV, arR_wF, arR_wG, arR_wR, fI_sV (c := 0), fI_sV (c := 1), fI_sV (c := 2), fI_sV (c := 4), fI_sV (c := 5), fI_sV (c := 7), fI_sV (c := 8), fI_sV (c := 9), fI_sV (c := 10), fI_sV (c := 11), fI_sV (c := 12), fI_sV (c := 6), fL_sV (c := 9), fL_sV (c := 12), fI_sV_k, fL_sV_k, fV_sV_k, fI_wF, fI_wG, fI_wR, fL_wF, fL_wG, fL_wR, fV_wF, fV_wG, fV_wR, aF_sV, aG_sV, aR_sV, aF_wG, aF_wR, aG_wF, aG_wR, aR_wF, aR_wG, gM g, gN g, ti_lt, tl, true_and, y1]
      refine jif_n (by omega) ?_
      refine c_isScale g x (fun c9 => absurd ⟨r, s, hr, hs, er, es⟩ c9) (fun _ _ _ _ _ _ => ?_)
      dsimp only [jrI, jrN, jrA, jisr, jnul, jcat1]
      refine jif_n (by decide) ?_
      refine c_mNumber (fun _ => ?_) (fun c9 => absurd c9 c)
      dsimp only [jrI, jrN, jrA, jisr, jnul, jcat1]
      exact jif_t rfl (H _ ⟨fr_rfl, hmono⟩)
    · dsimp only [jrI, jrN, jrA, jisr, jnul, jcat1]
      refine jif_n (by decide) ?_
      simp (decide := true) only [jgI_ob, jgf_ob, jgL_ob, jpI_ob, jpL_ob, jpR_ob, jpN_ob, jrc_ob, obj_sV, obj_wF, obj_wG, obj_wR, arr_sV, arr_wF, arr_wG, arr_wR, arL_sV, arL_wF, arL_wG, arL_wR, arR_sV, arR_wF, arR_wG, arR_wR, fI_sV (c := 0), fI_sV (c := 1), fI_sV (c := 2), fI_sV (c := 4), fI_sV (c := 5), fI_sV (c := 7), fI_sV (c := 8), fI_sV (c := 9), fI_sV (c := 10), fI_sV (c := 11), fI_sV (c := 12), fI_sV (c := 6), fL_sV (c := 9), fL_sV (c := 12), fI_sV_k, fL_sV_k, fV_sV_k, fI_wF, fI_wG, fI_wR, fL_wF, fL_wG, fL_wR, fV_wF, fV_wG, fV_wR, aF_sV, aG_sV, aR_sV, aF_wG, aF_wR, aG_wF, aG_wR, aR_wF, aR_wG, gO g, gF g, ti_lt, tl, true_and]
      rw [jrc_ob sc.1]
      refine c_markOfNumber (m := a2) (e := a3) sc (by omega) (by omega) (fun mk j hmk hj hJ => ?_)
      dsimp only [jrI, jrN, jrA, jisr, jnul, jcat1]
      simp (decide := true) only [jgI_ob, jgf_ob, jgL_ob, jpI_ob, jpL_ob, jpR_ob, jpN_ob, jrc_ob, obj_sV, obj_wF, obj_wG, obj_wR, arr_sV, arr_wF, arr_wG, arr_wR, arL_sV, arL_wF, arL_wG, arL_wR, arR_sV, arR_wF, arR_wG, arR_wR, fI_sV (c := 0), fI_sV (c := 1), fI_sV (c := 2), fI_sV (c := 4), fI_sV (c := 5), fI_sV (c := 7), fI_sV (c := 8), fI_sV (c := 9), fI_sV (c := 10), fI_sV (c := 11), fI_sV (c := 12), fI_sV (c := 6), fL_sV (c := 9), fL_sV (c := 12), fI_sV_k, fL_sV_k, fV_sV_k, fI_wF, fI_wG, fI_wR, fL_wF, fL_wG, fL_wR, fV_wF, fV_wG, fV_wR, aF_sV, aG_sV, aR_sV, aF_wG, aF_wR, aG_wF, aG_wR, aR_wF, aR_wG, gO g, gF g, ti_lt, tl, true_and]
      have r0 := Int.emod_nonneg a3.toInt (show (f (8 * r + s) : Int) ≠ 0 by omega)
      have r1 := Int.emod_lt_of_pos a3.toInt (show (0 : Int) < f (8 * r + s) by omega)
      have ez := zI_nat r0 (show a3.toInt % (f (8 * r + s) : Int) < 2147483648 by omega)
      have eg2 := sm.2.2.2.2.1
      have efn : (nI (f (8 * r + s))).toInt = f (8 * r + s) := nI_toInt (by omega)
      refine c_bringHair (n := j) g (by simp only [gO g]) sc hmk hJ s0 s1 (fun c1 => ?_) (fun z z0 z1 z2 => ?_)
      · dsimp only [jrI, jrN, jrA, jisr, jnul, jcat1]
        refine jif_t rfl (K _ _ (fun Q2 H => ?_))
        rw [jE_X12_hair]
        refine jT_X12_hair_0 ?_
        simp (decide := true) only [jgI_ob, jgf_ob, jgL_ob, jpI_ob, jpL_ob, jpR_ob, jpN_ob, jrc_ob, obj_sV, obj_wF, obj_wG, obj_wR, arr_sV, arr_wF, arr_wG, arr_wR, arL_sV, arL_wF, arL_wG, arL_wR, arR_sV, arR_wF, arR_wG, arR_wR, fI_sV (c := 0), fI_sV (c := 1), fI_sV (c := 2), fI_sV (c := 4), fI_sV (c := 5), fI_sV (c := 7), fI_sV (c := 8), fI_sV (c := 9), fI_sV (c := 10), fI_sV (c := 11), fI_sV (c := 12), fI_sV (c := 6), fL_sV (c := 9), fL_sV (c := 12), fI_sV_k, fL_sV_k, fV_sV_k, fI_wF, fI_wG, fI_wR, fL_wF, fL_wG, fL_wR, fV_wF, fV_wG, fV_wR, aF_sV, aG_sV, aR_sV, aF_wG, aF_wR, aG_wF, aG_wR, aR_wF, aR_wG, gM g, gN g, ti_lt, tl, true_and, y1]
        refine jif_n (by omega) ?_
        refine c_isScale g x (fun c9 => absurd ⟨r, s, hr, hs, er, es⟩ c9) (fun _ _ _ _ _ _ => ?_)
        dsimp only [jrI, jrN, jrA, jisr, jnul, jcat1]
        refine jif_n (by decide) ?_
        refine c_mNumber (fun c9 => absurd c c9) (fun _ => ?_)
        dsimp only [jrI, jrN, jrA, jisr, jnul, jcat1]
        refine jif_n (by decide) ?_
        simp (decide := true) only [jgI_ob, jgf_ob, jgL_ob, jpI_ob, jpL_ob, jpR_ob, jpN_ob, jrc_ob, obj_sV, obj_wF, obj_wG, obj_wR, arr_sV, arr_wF, arr_wG, arr_wR, arL_sV, arL_wF, arL_wG, arL_wR, arR_sV, arR_wF, arR_wG, arR_wR, fI_sV (c := 0), fI_sV (c := 1), fI_sV (c := 2), fI_sV (c := 4), fI_sV (c := 5), fI_sV (c := 7), fI_sV (c := 8), fI_sV (c := 9), fI_sV (c := 10), fI_sV (c := 11), fI_sV (c := 12), fI_sV (c := 6), fL_sV (c := 9), fL_sV (c := 12), fI_sV_k, fL_sV_k, fV_sV_k, fI_wF, fI_wG, fI_wR, fL_wF, fL_wG, fL_wR, fV_wF, fV_wG, fV_wR, aF_sV, aG_sV, aR_sV, aF_wG, aF_wR, aG_wF, aG_wR, aR_wF, aR_wG, kC, kM, gM g, gN g, true_and, y1, iv, ti_clamp, e8, Int.toNat_natCast, eg2]
        refine c_decade (by rw [efn]; omega) ?_
        dsimp only [jrI, jrN, jrA, jisr, jnul, jcat1]
        rw [efn]
        simp (decide := true) only [jgI_ob, jgf_ob, jgL_ob, jpI_ob, jpL_ob, jpR_ob, jpN_ob, jrc_ob, obj_sV, obj_wF, obj_wG, obj_wR, arr_sV, arr_wF, arr_wG, arr_wR, arL_sV, arL_wF, arL_wG, arL_wR, arR_sV, arR_wF, arR_wG, arR_wR, fI_sV (c := 0), fI_sV (c := 1), fI_sV (c := 2), fI_sV (c := 4), fI_sV (c := 5), fI_sV (c := 7), fI_sV (c := 8), fI_sV (c := 9), fI_sV (c := 10), fI_sV (c := 11), fI_sV (c := 12), fI_sV (c := 6), fL_sV (c := 9), fL_sV (c := 12), fI_sV_k, fL_sV_k, fV_sV_k, fI_wF, fI_wG, fI_wR, fL_wF, fL_wG, fL_wR, fV_wF, fV_wG, fV_wR, aF_sV, aG_sV, aR_sV, aF_wG, aF_wR, aG_wF, aG_wR, aR_wF, aR_wG, gM g]
        refine c_hairTo (n := j) (m := a2.toInt.toNat) g sm e8 ez (by omega) (by omega) (by omega) (by omega) hJ (by rw [y2]; exact s0) (by rw [y2]; exact s1) (fun _ => ?_) (fun w q0 q1 q2 => ?_)
        · exact jif_t rfl (H _ ⟨fr_rfl, hmono⟩)
        · rw [y2] at q2; omega
      · dsimp only [jrI, jrN, jrA, jisr, jnul, jcat1]
        refine jif_n (by decide) ?_
        have a1' : fr [] [(6, 5), (6, 7), (6, 9), (81, 15), (81, 17)] h (sV (sV (sV h 6 5 (.int z)) 6 7 (.int (fI h 6 0 + ((if b (8 * r + s) then 0 else fI h 6 6) + 0)))) 6 9 (.int (fI h 6 9 + 1))) := fr_sV (by decide) (fr_sV (by decide) (fr_sV (by decide) fr_rfl))
        have g1 := G_fr g rfl a1'
        have x1 := RB_fr x a1' rfl
        have sm1 := SM_fr sm rfl a1'
        simp (decide := true) only [jgI_ob, jgf_ob, jgL_ob, jpI_ob, jpL_ob, jpR_ob, jpN_ob, jrc_ob, obj_sV, obj_wF, obj_wG, obj_wR, arr_sV, arr_wF, arr_wG, arr_wR, arL_sV, arL_wF, arL_wG, arL_wR, arR_sV, arR_wF, arR_wG, arR_wR, fI_sV (c := 0), fI_sV (c := 1), fI_sV (c := 2), fI_sV (c := 4), fI_sV (c := 5), fI_sV (c := 7), fI_sV (c := 8), fI_sV (c := 9), fI_sV (c := 10), fI_sV (c := 11), fI_sV (c := 12), fI_sV (c := 6), fL_sV (c := 9), fL_sV (c := 12), fI_sV_k, fL_sV_k, fV_sV_k, fI_wF, fI_wG, fI_wR, fL_wF, fL_wG, fL_wR, fV_wF, fV_wG, fV_wR, aF_sV, aG_sV, aR_sV, aF_wG, aF_wR, aG_wF, aG_wR, aR_wF, aR_wG, gO g, gF g, fV_sV_ne]
        refine K _ _ (fun Q2 H => ?_)
        have e13 := frI a1' (p := 81) (k := 13) (by decide) (by decide)
        have e14 := frI a1' (p := 81) (k := 14) (by decide) (by decide)
        have e10 := frI a1' (p := 81) (k := 10) (by decide) (by decide)
        have e16 := frI a1' (p := 81) (k := 16) (by decide) (by decide)
        have eg3 := sm1.2.2.2.2.1
        rw [jE_X12_hair]
        refine jT_X12_hair_0 ?_
        simp (decide := true) only [jgI_ob, jgf_ob, jgL_ob, jpI_ob, jpL_ob, jpR_ob, jpN_ob, jrc_ob, obj_sV, obj_wF, obj_wG, obj_wR, arr_sV, arr_wF, arr_wG, arr_wR, arL_sV, arL_wF, arL_wG, arL_wR, arR_sV, arR_wF, arR_wG, arR_wR, fI_sV (c := 0), fI_sV (c := 1), fI_sV (c := 2), fI_sV (c := 4), fI_sV (c := 5), fI_sV (c := 7), fI_sV (c := 8), fI_sV (c := 9), fI_sV (c := 10), fI_sV (c := 11), fI_sV (c := 12), fI_sV (c := 6), fL_sV (c := 9), fL_sV (c := 12), fI_sV_k, fL_sV_k, fV_sV_k, fI_wF, fI_wG, fI_wR, fL_wF, fL_wG, fL_wR, fV_wF, fV_wG, fV_wR, aF_sV, aG_sV, aR_sV, aF_wG, aF_wR, aG_wF, aG_wR, aR_wF, aR_wG, gM g, gN g, fI_sV_ne, ti_lt, tl, true_and, y1]
        refine jif_n (by omega) ?_
        refine c_isScale g1 x1 (fun c9 => absurd ⟨r, s, hr, hs, er, es⟩ c9) (fun _ _ _ _ _ _ => ?_)
        dsimp only [jrI, jrN, jrA, jisr, jnul, jcat1]
        refine jif_n (by decide) ?_
        refine c_mNumber (fun c9 => absurd c c9) (fun _ => ?_)
        dsimp only [jrI, jrN, jrA, jisr, jnul, jcat1]
        refine jif_n (by decide) ?_
        simp (decide := true) only [jgI_ob, jgf_ob, jgL_ob, jpI_ob, jpL_ob, jpR_ob, jpN_ob, jrc_ob, obj_sV, obj_wF, obj_wG, obj_wR, arr_sV, arr_wF, arr_wG, arr_wR, arL_sV, arL_wF, arL_wG, arL_wR, arR_sV, arR_wF, arR_wG, arR_wR, fI_sV (c := 0), fI_sV (c := 1), fI_sV (c := 2), fI_sV (c := 4), fI_sV (c := 5), fI_sV (c := 7), fI_sV (c := 8), fI_sV (c := 9), fI_sV (c := 10), fI_sV (c := 11), fI_sV (c := 12), fI_sV (c := 6), fL_sV (c := 9), fL_sV (c := 12), fI_sV_k, fL_sV_k, fV_sV_k, fI_wF, fI_wG, fI_wR, fL_wF, fL_wG, fL_wR, fV_wF, fV_wG, fV_wR, aF_sV, aG_sV, aR_sV, aF_wG, aF_wR, aG_wF, aG_wR, aR_wF, aR_wG, kC, kM, gM g1, gN g1, true_and, e13, y1, iv, ti_clamp, e8, Int.toNat_natCast, eg3, eg2]
        refine c_decade (by rw [efn]; omega) ?_
        dsimp only [jrI, jrN, jrA, jisr, jnul, jcat1]
        rw [efn]
        simp (decide := true) only [jgI_ob, jgf_ob, jgL_ob, jpI_ob, jpL_ob, jpR_ob, jpN_ob, jrc_ob, obj_sV, obj_wF, obj_wG, obj_wR, arr_sV, arr_wF, arr_wG, arr_wR, arL_sV, arL_wF, arL_wG, arL_wR, arR_sV, arR_wF, arR_wG, arR_wR, fI_sV (c := 0), fI_sV (c := 1), fI_sV (c := 2), fI_sV (c := 4), fI_sV (c := 5), fI_sV (c := 7), fI_sV (c := 8), fI_sV (c := 9), fI_sV (c := 10), fI_sV (c := 11), fI_sV (c := 12), fI_sV (c := 6), fL_sV (c := 9), fL_sV (c := 12), fI_sV_k, fL_sV_k, fV_sV_k, fI_wF, fI_wG, fI_wR, fL_wF, fL_wG, fL_wR, fV_wF, fV_wG, fV_wR, aF_sV, aG_sV, aR_sV, aF_wG, aF_wR, aG_wF, aG_wR, aR_wF, aR_wG, gM g1]
        refine c_hairTo (n := j) (m := a2.toInt.toNat) g1 sm1 e8 ez (by omega) (by omega) (by omega) (by omega) hJ (by rw [e14, y2]; exact s0) (by rw [e14, y2]; exact s1) (fun q => ?_) (fun w q0 q1 q2 => ?_)
        · rw [e14, y2] at q; omega
        · refine jif_n (by decide) ?_
          rw [e14, y2] at q2
          have ew : w = z := by rw [ti_eq, z2, q2]
          subst ew
          simp (decide := true) only [jgI_ob, jgf_ob, jgL_ob, jpI_ob, jpL_ob, jpR_ob, jpN_ob, jrc_ob, obj_sV, obj_wF, obj_wG, obj_wR, arr_sV, arr_wF, arr_wG, arr_wR, arL_sV, arL_wF, arL_wG, arL_wR, arR_sV, arR_wF, arR_wG, arR_wR, fI_sV (c := 0), fI_sV (c := 1), fI_sV (c := 2), fI_sV (c := 4), fI_sV (c := 5), fI_sV (c := 7), fI_sV (c := 8), fI_sV (c := 9), fI_sV (c := 10), fI_sV (c := 11), fI_sV (c := 12), fI_sV (c := 6), fL_sV (c := 9), fL_sV (c := 12), fI_sV_k, fL_sV_k, fV_sV_k, fI_wF, fI_wG, fI_wR, fL_wF, fL_wG, fL_wR, fV_wF, fV_wG, fV_wR, aF_sV, aG_sV, aR_sV, aF_wG, aF_wR, aG_wF, aG_wR, aR_wF, aR_wG, gM g1]
          refine H _ ⟨fr_sV (by decide) (fr_sV (by decide) a1'), ?_⟩
          rw [t1, y4]
          have ev : fI h 6 0 + 0 + (if b (8 * r + s) then 0 else fI h 6 6) = fI h 6 0 + ((if b (8 * r + s) then 0 else fI h 6 6) + 0) := by rw [Int32.add_zero, Int32.add_zero]
          rw [ev]
          have eb : 0 ≤ (fI h 6 0 + ((if b (8 * r + s) then 0 else fI h 6 6) + 0)).toInt ∧ (fI h 6 0 + ((if b (8 * r + s) then 0 else fI h 6 6) + 0)).toInt ≤ B + 20 := by
            cases b (8 * r + s)
            · have : (fI h 6 0 + ((if false = true then 0 else fI h 6 6) + 0)).toInt = (fI h 6 0).toInt + (fI h 6 6).toInt := by
                simp only [Bool.false_eq_true, if_false]; exact (by simp only [Int32.toInt_add, Int32.toInt_sub, Int32.toInt_mul, Int32.toInt_neg, Int.bmod_def, tl]; omega)
              omega
            · have : (fI h 6 0 + ((if true = true then 0 else fI h 6 6) + 0)).toInt = (fI h 6 0).toInt := by
                simp only [if_true]; exact (by simp only [Int32.toInt_add, Int32.toInt_sub, Int32.toInt_mul, Int32.toInt_neg, Int.bmod_def, tl]; omega)
              omega
          generalize fI h 6 0 + ((if b (8 * r + s) then 0 else fI h 6 6) + 0) = vv at eb
          unfold HD
          simp (decide := true) only [jgI_ob, jgf_ob, jgL_ob, jpI_ob, jpL_ob, jpR_ob, jpN_ob, jrc_ob, obj_sV, obj_wF, obj_wG, obj_wR, arr_sV, arr_wF, arr_wG, arr_wR, arL_sV, arL_wF, arL_wG, arL_wR, arR_sV, arR_wF, arR_wG, arR_wR, fI_sV (c := 0), fI_sV (c := 1), fI_sV (c := 2), fI_sV (c := 4), fI_sV (c := 5), fI_sV (c := 7), fI_sV (c := 8), fI_sV (c := 9), fI_sV (c := 10), fI_sV (c := 11), fI_sV (c := 12), fI_sV (c := 6), fL_sV (c := 9), fL_sV (c := 12), fI_sV_k, fL_sV_k, fV_sV_k, fI_wF, fI_wG, fI_wR, fL_wF, fL_wG, fL_wR, fV_wF, fV_wG, fV_wR, aF_sV, aG_sV, aR_sV, aF_wG, aF_wR, aG_wF, aG_wR, aR_wF, aR_wG, gM g, gO g, fI_sV_ne, fV_sV_ne, tl]
          exact ⟨y1, y2, trivial, y4, trivial, s0, s1, z0, z1, u0, by omega, by omega, by omega, y6⟩
theorem a_look (g : G h) (x : RB h n m ρ τ b f t fl) (st : ST h) (y : HD B h n ρ) (hB : B ≤ 1000000) {a1 a2 : Int32} : AGR X 156 158 [.int a1, .int a2] h (fun h2 => fr [89] [] h h2) := by
  obtain ⟨y1, y2, y3, y4, y5, s0, s1, h0, h1, u0, u1, v0, v1, y6⟩ := id y
  obtain ⟨t1, t2, t3, t4, t5, t6⟩ := st
  intro Q K
  rw [jE_X11_look]
  refine jT_X11_look_0 ?_
  simp (decide := true) only [jgI_ob, jgf_ob, jgL_ob, jpI_ob, jpL_ob, jpR_ob, jpN_ob, jrc_ob, obj_sV, obj_wF, obj_wG, obj_wR, arr_sV, arr_wF, arr_wG, arr_wR, arL_sV, arL_wF, arL_wG, arL_wR, arR_sV, arR_wF, arR_wG, arR_wR, fI_sV (c := 0), fI_sV (c := 1), fI_sV (c := 2), fI_sV (c := 4), fI_sV (c := 5), fI_sV (c := 7), fI_sV (c := 8), fI_sV (c := 9), fI_sV (c := 10), fI_sV (c := 11), fI_sV (c := 12), fI_sV (c := 6), fL_sV (c := 9), fL_sV (c := 12), fI_sV_k, fL_sV_k, fV_sV_k, fI_wF, fI_wG, fI_wR, fL_wF, fL_wG, fL_wR, fV_wF, fV_wG, fV_wR, aF_sV, aG_sV, aR_sV, aF_wG, aF_wR, aG_wF, aG_wR, aR_wF, aR_wG, gO g, gF g, ti_lt, tl, true_and]
  refine c_scaleInHand g x y (fun c => ?_) (fun r s hr hs er es => ?_)
  · dsimp only [jrI, jrN, jrA, jisr, jnul, jcat1]
    refine K _ _ (fun Q2 H => ?_)
    rw [jE_X12_look]
    refine jT_X12_look_0 ?_
    simp (decide := true) only [jgI_ob, jgf_ob, jgL_ob, jpI_ob, jpL_ob, jpR_ob, jpN_ob, jrc_ob, obj_sV, obj_wF, obj_wG, obj_wR, arr_sV, arr_wF, arr_wG, arr_wR, arL_sV, arL_wF, arL_wG, arL_wR, arR_sV, arR_wF, arR_wG, arR_wR, fI_sV (c := 0), fI_sV (c := 1), fI_sV (c := 2), fI_sV (c := 4), fI_sV (c := 5), fI_sV (c := 7), fI_sV (c := 8), fI_sV (c := 9), fI_sV (c := 10), fI_sV (c := 11), fI_sV (c := 12), fI_sV (c := 6), fL_sV (c := 9), fL_sV (c := 12), fI_sV_k, fL_sV_k, fV_sV_k, fI_wF, fI_wG, fI_wR, fL_wF, fL_wG, fL_wR, fV_wF, fV_wG, fV_wR, aF_sV, aG_sV, aR_sV, aF_wG, aF_wR, aG_wF, aG_wR, aR_wF, aR_wG, gM g, gN g, ti_lt, tl, true_and, y1]
    refine ⟨fun _ => H _ fr_rfl, fun c1 => ?_⟩
    refine c_isScale g x (fun _ => ?_) (fun r s z1 z2 z3 z4 => absurd ⟨r, s, z1, z2, z3, z4⟩ c)
    dsimp only [jrI, jrN, jrA, jisr, jnul, jcat1]
    exact jif_t rfl (H _ fr_rfl)
  · have nn := x.1
    obtain ⟨mm, -, -, -, -, -, -, -⟩ := x.2.2.2.1 r hr
    obtain ⟨w1, w2, sc, sm⟩ := x.2.2.2.2.1 r s hr hs
    have e8 := ix8 (by omega) (by omega) er es
    have f13 : 1 ≤ f (8 * r + s) ∧ f (8 * r + s) ≤ 3 := ⟨sc.2.1, sc.2.2.1⟩
    dsimp only [jrI, jrN, jrA, jisr, jnul, jcat1]
    refine ⟨fun c => ?_, fun c0 => ⟨fun c => ?_, fun c2 => ?_⟩⟩
    · refine K _ _ (fun Q2 H => ?_)
      rw [jE_X12_look]
      refine jT_X12_look_0 ?_
      simp (decide := true) only [jgI_ob, jgf_ob, jgL_ob, jpI_ob, jpL_ob, jpR_ob, jpN_ob, jrc_ob, obj_sV, obj_wF, obj_wG, obj_wR, arr_sV, arr_wF, arr_wG, arr_wR, arL_sV, arL_wF, arL_wG, arL_wR, arR_sV, arR_wF, arR_wG, arR_wR, fI_sV (c := 0), fI_sV (c := 1), fI_sV (c := 2), fI_sV (c := 4), fI_sV (c := 5), fI_sV (c := 7), fI_sV (c := 8), fI_sV (c := 9), fI_sV (c := 10), fI_sV (c := 11), fI_sV (c := 12), fI_sV (c := 6), fL_sV (c := 9), fL_sV (c := 12), fI_sV_k, fL_sV_k, fV_sV_k, fI_wF, fI_wG, fI_wR, fL_wF, fL_wG, fL_wR, fV_wF, fV_wG, fV_wR, aF_sV, aG_sV, aR_sV, aF_wG, aF_wR, aG_wF, aG_wR, aR_wF, aR_wG, gM g, gN g, ti_lt, tl, true_and, y1]
      refine jif_n (by omega) ?_
      refine c_isScale g x (fun c9 => absurd ⟨r, s, hr, hs, er, es⟩ c9) (fun _ _ _ _ _ _ => ?_)
      dsimp only [jrI, jrN, jrA, jisr, jnul, jcat1]
      refine jif_n (by decide) ?_
      repeat (first | refine jif_t (by omega) ?_ | refine jif_n (by omega) ?_ | refine ⟨by omega, ?_⟩)
      exact H _ fr_rfl
    · refine K _ _ (fun Q2 H => ?_)
      rw [jE_X12_look]
      refine jT_X12_look_0 ?_
      simp (decide := true) only [jgI_ob, jgf_ob, jgL_ob, jpI_ob, jpL_ob, jpR_ob, jpN_ob, jrc_ob, obj_sV, obj_wF, obj_wG, obj_wR, arr_sV, arr_wF, arr_wG, arr_wR, arL_sV, arL_wF, arL_wG, arL_wR, arR_sV, arR_wF, arR_wG, arR_wR, fI_sV (c := 0), fI_sV (c := 1), fI_sV (c := 2), fI_sV (c := 4), fI_sV (c := 5), fI_sV (c := 7), fI_sV (c := 8), fI_sV (c := 9), fI_sV (c := 10), fI_sV (c := 11), fI_sV (c := 12), fI_sV (c := 6), fL_sV (c := 9), fL_sV (c := 12), fI_sV_k, fL_sV_k, fV_sV_k, fI_wF, fI_wG, fI_wR, fL_wF, fL_wG, fL_wR, fV_wF, fV_wG, fV_wR, aF_sV, aG_sV, aR_sV, aF_wG, aF_wR, aG_wF, aG_wR, aR_wF, aR_wG, gM g, gN g, ti_lt, tl, true_and, y1]
      refine jif_n (by omega) ?_
      refine c_isScale g x (fun c9 => absurd ⟨r, s, hr, hs, er, es⟩ c9) (fun _ _ _ _ _ _ => ?_)
      dsimp only [jrI, jrN, jrA, jisr, jnul, jcat1]
      refine jif_n (by decide) ?_
      repeat (first | refine jif_t (by omega) ?_ | refine jif_n (by omega) ?_ | refine ⟨by omega, ?_⟩)
      exact H _ fr_rfl
    · have ex : mkx h (b (8 * r + s)) = lkx h 6 (b (8 * r + s)) := by unfold mkx lkx; rw [y3, y2]
      have eq : mkq h (b (8 * r + s)) = lkq h 6 (b (8 * r + s)) := by unfold mkq lkq; rw [t2, y5, y4]
      simp (decide := true) only [jgI_ob, jgf_ob, jgL_ob, jpI_ob, jpL_ob, jpR_ob, jpN_ob, jrc_ob, obj_sV, obj_wF, obj_wG, obj_wR, arr_sV, arr_wF, arr_wG, arr_wR, arL_sV, arL_wF, arL_wG, arL_wR, arR_sV, arR_wF, arR_wG, arR_wR, fI_sV (c := 0), fI_sV (c := 1), fI_sV (c := 2), fI_sV (c := 4), fI_sV (c := 5), fI_sV (c := 7), fI_sV (c := 8), fI_sV (c := 9), fI_sV (c := 10), fI_sV (c := 11), fI_sV (c := 12), fI_sV (c := 6), fL_sV (c := 9), fL_sV (c := 12), fI_sV_k, fL_sV_k, fV_sV_k, fI_wF, fI_wG, fI_wR, fL_wF, fL_wG, fL_wR, fV_wF, fV_wG, fV_wR, aF_sV, aG_sV, aR_sV, aF_wG, aF_wR, aG_wF, aG_wR, aR_wF, aR_wG, gO g, gF g, ti_lt, tl, true_and]
      refine c_shows g (by simp only [gO g]) sc w2 s0 s1 h0 h1 (by omega) (by omega) u0 (by omega) v0 (by omega) (fun c3 => ?_) (fun h2 a l u k1 l0 l1 hS i5 i6 i7 => ?_)
      · dsimp only [jrI, jrN, jrA, jisr, jnul, jcat1]
        refine jif_t rfl (K _ _ (fun Q2 H => ?_))
        rw [jE_X12_look]
        refine jT_X12_look_0 ?_
        simp (decide := true) only [jgI_ob, jgf_ob, jgL_ob, jpI_ob, jpL_ob, jpR_ob, jpN_ob, jrc_ob, obj_sV, obj_wF, obj_wG, obj_wR, arr_sV, arr_wF, arr_wG, arr_wR, arL_sV, arL_wF, arL_wG, arL_wR, arR_sV, arR_wF, arR_wG, arR_wR, fI_sV (c := 0), fI_sV (c := 1), fI_sV (c := 2), fI_sV (c := 4), fI_sV (c := 5), fI_sV (c := 7), fI_sV (c := 8), fI_sV (c := 9), fI_sV (c := 10), fI_sV (c := 11), fI_sV (c := 12), fI_sV (c := 6), fL_sV (c := 9), fL_sV (c := 12), fI_sV_k, fL_sV_k, fV_sV_k, fI_wF, fI_wG, fI_wR, fL_wF, fL_wG, fL_wR, fV_wF, fV_wG, fV_wR, aF_sV, aG_sV, aR_sV, aF_wG, aF_wR, aG_wF, aG_wR, aR_wF, aR_wG, gM g, gN g, ti_lt, tl, true_and, y1]
        refine jif_n (by omega) ?_
        refine c_isScale g x (fun c9 => absurd ⟨r, s, hr, hs, er, es⟩ c9) (fun _ _ _ _ _ _ => ?_)
        dsimp only [jrI, jrN, jrA, jisr, jnul, jcat1]
        refine jif_n (by decide) ?_
        repeat (first | refine jif_t (by omega) ?_ | refine jif_n (by omega) ?_ | refine ⟨by omega, ?_⟩)
        simp (decide := true) only [jgI_ob, jgf_ob, jgL_ob, jpI_ob, jpL_ob, jpR_ob, jpN_ob, jrc_ob, obj_sV, obj_wF, obj_wG, obj_wR, arr_sV, arr_wF, arr_wG, arr_wR, arL_sV, arL_wF, arL_wG, arL_wR, arR_sV, arR_wF, arR_wG, arR_wR, fI_sV (c := 0), fI_sV (c := 1), fI_sV (c := 2), fI_sV (c := 4), fI_sV (c := 5), fI_sV (c := 7), fI_sV (c := 8), fI_sV (c := 9), fI_sV (c := 10), fI_sV (c := 11), fI_sV (c := 12), fI_sV (c := 6), fL_sV (c := 9), fL_sV (c := 12), fI_sV_k, fL_sV_k, fV_sV_k, fI_wF, fI_wG, fI_wR, fL_wF, fL_wG, fL_wR, fV_wF, fV_wG, fV_wR, aF_sV, aG_sV, aR_sV, aF_wG, aF_wR, aG_wF, aG_wR, aR_wF, aR_wG, gM g, y1]
        refine c_looks g sm e8 (by rw [y2]; exact s0) (by rw [y2]; exact s1) (by rw [y3]; exact h0) (by rw [y3]; exact h1) (by rw [t2]; omega) (by rw [t2]; omega) (by rw [y4]; exact u0) (by rw [y4]; omega) (by rw [y5]; exact v0) (by rw [y5]; omega) (fun _ => ?_) (fun h3 a' l' u' k2 l2 l3 _ _ _ _ => by rw [ex] at l2 l3; omega)
        dsimp only [jrI, jrN, jrA, jisr, jnul, jcat1]
        exact jif_t rfl (H _ fr_rfl)
      · dsimp only [jrI, jrN, jrA, jisr, jnul, jcat1]
        refine jif_n (by decide) ?_
        have hord := SEEN_ord hS
        rw [jrc_ob (by rw [frO k1]; exact sc.1)]
        refine c_sighted (by rw [frO k1]; exact sc.1) i5 i6 i7 (by omega) (by omega) (by omega) (by omega) (by omega) (fun z j0 j1 j2 => ?_)
        dsimp only [jrI, jrN, jrA, jisr, jnul, jcat1]
        refine K _ _ (fun Q2 H => ?_)
        have g1 := G_fr g rfl k1
        have x1 := RB_fr x k1 rfl
        have sm1 := SM_fr sm rfl k1
        have e11 := frI k1 (p := 81) (k := 11) (by decide) (by decide)
        have e13 := frI k1 (p := 81) (k := 13) (by decide) (by decide)
        have e14 := frI k1 (p := 81) (k := 14) (by decide) (by decide)
        have e15 := frI k1 (p := 81) (k := 15) (by decide) (by decide)
        have e16 := frI k1 (p := 81) (k := 16) (by decide) (by decide)
        have e17 := frI k1 (p := 81) (k := 17) (by decide) (by decide)
        have ex2 : mkx h2 (b (8 * r + s)) = lkx h 6 (b (8 * r + s)) := by rw [← ex]; unfold mkx; rw [e15, e14]
        have eq2 : mkq h2 (b (8 * r + s)) = lkq h 6 (b (8 * r + s)) := by rw [← eq]; unfold mkq; rw [e11, e17, e16]
        rw [jE_X12_look]
        refine jT_X12_look_0 ?_
        simp (decide := true) only [jgI_ob, jgf_ob, jgL_ob, jpI_ob, jpL_ob, jpR_ob, jpN_ob, jrc_ob, obj_sV, obj_wF, obj_wG, obj_wR, arr_sV, arr_wF, arr_wG, arr_wR, arL_sV, arL_wF, arL_wG, arL_wR, arR_sV, arR_wF, arR_wG, arR_wR, fI_sV (c := 0), fI_sV (c := 1), fI_sV (c := 2), fI_sV (c := 4), fI_sV (c := 5), fI_sV (c := 7), fI_sV (c := 8), fI_sV (c := 9), fI_sV (c := 10), fI_sV (c := 11), fI_sV (c := 12), fI_sV (c := 6), fL_sV (c := 9), fL_sV (c := 12), fI_sV_k, fL_sV_k, fV_sV_k, fI_wF, fI_wG, fI_wR, fL_wF, fL_wG, fL_wR, fV_wF, fV_wG, fV_wR, aF_sV, aG_sV, aR_sV, aF_wG, aF_wR, aG_wF, aG_wR, aR_wF, aR_wG, gM g1, gN g1, ti_lt, tl, true_and, e13, y1]
        refine jif_n (by omega) ?_
        refine c_isScale g1 x1 (fun c9 => absurd ⟨r, s, hr, hs, er, es⟩ c9) (fun _ _ _ _ _ _ => ?_)
        dsimp only [jrI, jrN, jrA, jisr, jnul, jcat1]
        refine jif_n (by decide) ?_
        repeat (first | refine jif_t (by omega) ?_ | refine jif_n (by omega) ?_ | refine ⟨by omega, ?_⟩)
        simp (decide := true) only [jgI_ob, jgf_ob, jgL_ob, jpI_ob, jpL_ob, jpR_ob, jpN_ob, jrc_ob, obj_sV, obj_wF, obj_wG, obj_wR, arr_sV, arr_wF, arr_wG, arr_wR, arL_sV, arL_wF, arL_wG, arL_wR, arR_sV, arR_wF, arR_wG, arR_wR, fI_sV (c := 0), fI_sV (c := 1), fI_sV (c := 2), fI_sV (c := 4), fI_sV (c := 5), fI_sV (c := 7), fI_sV (c := 8), fI_sV (c := 9), fI_sV (c := 10), fI_sV (c := 11), fI_sV (c := 12), fI_sV (c := 6), fL_sV (c := 9), fL_sV (c := 12), fI_sV_k, fL_sV_k, fV_sV_k, fI_wF, fI_wG, fI_wR, fL_wF, fL_wG, fL_wR, fV_wF, fV_wG, fV_wR, aF_sV, aG_sV, aR_sV, aF_wG, aF_wR, aG_wF, aG_wR, aR_wF, aR_wG, gM g1, e13, y1]
        refine c_looks g1 sm1 e8 (by rw [e14, y2]; exact s0) (by rw [e14, y2]; exact s1) (by rw [e15, y3]; exact h0) (by rw [e15, y3]; exact h1) (by rw [e11, t2]; omega) (by rw [e11, t2]; omega) (by rw [e16, y4]; exact u0) (by rw [e16, y4]; omega) (by rw [e17, y5]; exact v0) (by rw [e17, y5]; omega) (fun c9 => by rw [ex2] at c9; omega) (fun h3 a' l' u' k2 l2 l3 hS' q0 q1 q2 => ?_)
        dsimp only [jrI, jrN, jrA, jisr, jnul, jcat1]
        refine jif_n (by decide) ?_
        rw [ex2, eq2] at hS'
        obtain ⟨p1, p2, p3⟩ := SEEN_un hS hS'
        subst p1 p2 p3
        have g2 := G_fr g1 rfl k2
        simp (decide := true) only [jgI_ob, jgf_ob, jgL_ob, jpI_ob, jpL_ob, jpR_ob, jpN_ob, jrc_ob, obj_sV, obj_wF, obj_wG, obj_wR, arr_sV, arr_wF, arr_wG, arr_wR, arL_sV, arL_wF, arL_wG, arL_wR, arR_sV, arR_wF, arR_wG, arR_wR, fI_sV (c := 0), fI_sV (c := 1), fI_sV (c := 2), fI_sV (c := 4), fI_sV (c := 5), fI_sV (c := 7), fI_sV (c := 8), fI_sV (c := 9), fI_sV (c := 10), fI_sV (c := 11), fI_sV (c := 12), fI_sV (c := 6), fL_sV (c := 9), fL_sV (c := 12), fI_sV_k, fL_sV_k, fV_sV_k, fI_wF, fI_wG, fI_wR, fL_wF, fL_wG, fL_wR, fV_wF, fV_wG, fV_wR, aF_sV, aG_sV, aR_sV, aF_wG, aF_wR, aG_wF, aG_wR, aR_wF, aR_wG, kC, kM, gM g2, gN g2, ti_clamp, vp_inI]
        refine ⟨by omega, ?_⟩
        have ey : aF h3 89 a2.toInt.toNat = z := by
          rw [ti_eq]
          rcases (show a2.toInt = 0 ∨ a2.toInt = 1 ∨ a2.toInt = 2 by omega) with c | c | c
          · rw [j0 c, c]; exact q0
          · rw [j1 c, c]; exact q1
          · rw [j2 c, c]; exact q2
        rw [ey]
        exact H _ (fr_trans (fr_mono (by decide) (by decide) k1) k2)
end HCA
