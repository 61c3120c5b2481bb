/-! SLIDE, FEED, FACTORS -/
section CA2
variable {X : JX} {h : JH} {n : Nat} {m ρ τ f : Nat → Nat} {b t : Nat → Bool} {fl : Nat → Nat → Int} {B : Int}
theorem a_slide (g : G h) (x : RB h n m ρ τ b f t fl) (st : ST h) (y : HD B h n ρ) (hB : B ≤ 1000000) {a1 a2 a3 : Int32} : AGR X 149 152 [.int a1, .int a2, .int a3] h (fun h2 => fr [] [(6, 4), (6, 6), (6, 8), (81, 14), (81, 16)] h h2 ∧ HD (B + 20) h2 n ρ) := by
  obtain ⟨y1, y2, y3, y4, y5, s0, s1, h0, h1, u0, u1, v0, v1, y6⟩ := id y
  obtain ⟨t1, t2, t3, t4, t5, t6⟩ := st
  have hmono := HD_mono y
  intro Q K
  rw [jE_X11_slide]
  refine jT_X11_slide_0 ?_
  simp (decide := true) only [jgI_ob, jgf_ob, jgL_ob, jpI_ob, jpL_ob, jpR_ob, jpN_ob, jrc_ob, obj_sV, obj_wF, obj_wG, obj_wR, arr_sV, arr_wF, arr_wG, arr_wR, arL_sV, arL_wF, arL_wG, arL_wR, arR_sV, arR_wF, arR_wG, arR_wR, fI_sV (c := 0), fI_sV (c := 1), fI_sV (c := 2), fI_sV (c := 4), fI_sV (c := 5), fI_sV (c := 7), fI_sV (c := 8), fI_sV (c := 9), fI_sV (c := 10), fI_sV (c := 11), fI_sV (c := 12), fI_sV (c := 6), fL_sV (c := 9), fL_sV (c := 12), fI_sV_k, fL_sV_k, fV_sV_k, fI_wF, fI_wG, fI_wR, fL_wF, fL_wG, fL_wR, fV_wF, fV_wG, fV_wR, aF_sV, aG_sV, aR_sV, aF_wG, aF_wR, aG_wF, aG_wR, aR_wF, aR_wG, gO g, gF g, ti_lt, tl, true_and]
  refine c_scaleInHand g x y (fun c => ?_) (fun r s hr hs er es => ?_)
  · try dsimp only [jrI, jrN, jrA, jisr, jnul, jcat1]
    refine K _ _ (fun Q2 H => ?_)
    rw [jE_X12_slide]
    refine jT_X12_slide_0 ?_
    simp (decide := true) only [jgI_ob, jgf_ob, jgL_ob, jpI_ob, jpL_ob, jpR_ob, jpN_ob, jrc_ob, obj_sV, obj_wF, obj_wG, obj_wR, arr_sV, arr_wF, arr_wG, arr_wR, arL_sV, arL_wF, arL_wG, arL_wR, arR_sV, arR_wF, arR_wG, arR_wR, fI_sV (c := 0), fI_sV (c := 1), fI_sV (c := 2), fI_sV (c := 4), fI_sV (c := 5), fI_sV (c := 7), fI_sV (c := 8), fI_sV (c := 9), fI_sV (c := 10), fI_sV (c := 11), fI_sV (c := 12), fI_sV (c := 6), fL_sV (c := 9), fL_sV (c := 12), fI_sV_k, fL_sV_k, fV_sV_k, fI_wF, fI_wG, fI_wR, fL_wF, fL_wG, fL_wR, fV_wF, fV_wG, fV_wR, aF_sV, aG_sV, aR_sV, aF_wG, aF_wR, aG_wF, aG_wR, aR_wF, aR_wG, gM g, gN g, ti_lt, tl, true_and, y1]
    refine ⟨fun _ => H _ ⟨fr_rfl, hmono⟩, fun c1 => ?_⟩
    refine c_isScale g x (fun _ => ?_) (fun r s z1 z2 z3 z4 => absurd ⟨r, s, z1, z2, z3, z4⟩ c)
    try dsimp only [jrI, jrN, jrA, jisr, jnul, jcat1]
    exact jif_t rfl (H _ ⟨fr_rfl, hmono⟩)
  · have nn := x.1
    obtain ⟨mm, -, -, -, -, -, -, -⟩ := x.2.2.2.1 r hr
    obtain ⟨w1, w2, sc, sm⟩ := x.2.2.2.2.1 r s hr hs
    have e8 := ix8 (by omega) (by omega) er es
    have iv : vp_in (8 * fI h 6 3 + a1) 32 := by rw [vp_inI, e8]; omega
    have f13 : 1 ≤ f (8 * r + s) ∧ f (8 * r + s) ≤ 3 := ⟨sc.2.1, sc.2.2.1⟩
    have eb1 := sc.2.2.2.1
    have eb2 := sm.2.2.2.1
    try dsimp only [jrI, jrN, jrA, jisr, jnul, jcat1]
    rw [jgI_ob sc.1 rfl, eb1]
    refine ⟨fun cb => ?_, fun cb => ?_⟩
    · refine c_cNumber (fun c => ?_) (fun c => ?_)
      · try dsimp only [jrI, jrN, jrA, jisr, jnul, jcat1]
        refine jif_t rfl (K _ _ (fun Q2 H => ?_))
        rw [jE_X12_slide]
        refine jT_X12_slide_0 ?_
        simp (decide := true) only [jgI_ob, jgf_ob, jgL_ob, jpI_ob, jpL_ob, jpR_ob, jpN_ob, jrc_ob, obj_sV, obj_wF, obj_wG, obj_wR, arr_sV, arr_wF, arr_wG, arr_wR, arL_sV, arL_wF, arL_wG, arL_wR, arR_sV, arR_wF, arR_wG, arR_wR, fI_sV (c := 0), fI_sV (c := 1), fI_sV (c := 2), fI_sV (c := 4), fI_sV (c := 5), fI_sV (c := 7), fI_sV (c := 8), fI_sV (c := 9), fI_sV (c := 10), fI_sV (c := 11), fI_sV (c := 12), fI_sV (c := 6), fL_sV (c := 9), fL_sV (c := 12), fI_sV_k, fL_sV_k, fV_sV_k, fI_wF, fI_wG, fI_wR, fL_wF, fL_wG, fL_wR, fV_wF, fV_wG, fV_wR, aF_sV, aG_sV, aR_sV, aF_wG, aF_wR, aG_wF, aG_wR, aR_wF, aR_wG, gM g, gN g, ti_lt, tl, true_and, y1]
        refine jif_n (by omega) ?_
        refine c_isScale g x (fun c9 => absurd ⟨r, s, hr, hs, er, es⟩ c9) (fun _ _ _ _ _ _ => ?_)
        try dsimp only [jrI, jrN, jrA, jisr, jnul, jcat1]
        refine jif_n (by decide) ?_
        simp (decide := true) only [jgI_ob, jgf_ob, jgL_ob, jpI_ob, jpL_ob, jpR_ob, jpN_ob, jrc_ob, obj_sV, obj_wF, obj_wG, obj_wR, arr_sV, arr_wF, arr_wG, arr_wR, arL_sV, arL_wF, arL_wG, arL_wR, arR_sV, arR_wF, arR_wG, arR_wR, fI_sV (c := 0), fI_sV (c := 1), fI_sV (c := 2), fI_sV (c := 4), fI_sV (c := 5), fI_sV (c := 7), fI_sV (c := 8), fI_sV (c := 9), fI_sV (c := 10), fI_sV (c := 11), fI_sV (c := 12), fI_sV (c := 6), fL_sV (c := 9), fL_sV (c := 12), fI_sV_k, fL_sV_k, fV_sV_k, fI_wF, fI_wG, fI_wR, fL_wF, fL_wG, fL_wR, fV_wF, fV_wG, fV_wR, aF_sV, aG_sV, aR_sV, aF_wG, aF_wR, aG_wF, aG_wR, aR_wF, aR_wG, kC, kM, gM g, gN g, true_and, y1, iv, ti_clamp, e8, Int.toNat_natCast, eb2]
        refine jif_t cb ?_
        refine c_mNumber (fun _ => ?_) (fun c9 => absurd c9 c)
        try dsimp only [jrI, jrN, jrA, jisr, jnul, jcat1]
        exact jif_t rfl (H _ ⟨fr_rfl, hmono⟩)
      · try dsimp only [jrI, jrN, jrA, jisr, jnul, jcat1]
        refine jif_n (by decide) ?_
        simp (decide := true) only [jgI_ob, jgf_ob, jgL_ob, jpI_ob, jpL_ob, jpR_ob, jpN_ob, jrc_ob, obj_sV, obj_wF, obj_wG, obj_wR, arr_sV, arr_wF, arr_wG, arr_wR, arL_sV, arL_wF, arL_wG, arL_wR, arR_sV, arR_wF, arR_wG, arR_wR, fI_sV (c := 0), fI_sV (c := 1), fI_sV (c := 2), fI_sV (c := 4), fI_sV (c := 5), fI_sV (c := 7), fI_sV (c := 8), fI_sV (c := 9), fI_sV (c := 10), fI_sV (c := 11), fI_sV (c := 12), fI_sV (c := 6), fL_sV (c := 9), fL_sV (c := 12), fI_sV_k, fL_sV_k, fV_sV_k, fI_wF, fI_wG, fI_wR, fL_wF, fL_wG, fL_wR, fV_wF, fV_wG, fV_wR, aF_sV, aG_sV, aR_sV, aF_wG, aF_wR, aG_wF, aG_wR, aR_wF, aR_wG, gO g, gF g, ti_lt, tl, true_and]
        rw [jrc_ob sc.1]
        refine c_markOfNumber (m := a2) (e := a3) sc (by omega) (by omega) (fun mk j hmk hj hJ => ?_)
        try dsimp only [jrI, jrN, jrA, jisr, jnul, jcat1]
        rw [jrc_ob sc.1]
        have r0 := Int.emod_nonneg a3.toInt (show (f (8 * r + s) : Int) ≠ 0 by omega)
        have r1 := Int.emod_lt_of_pos a3.toInt (show (0 : Int) < f (8 * r + s) by omega)
        have ez := zI_nat r0 (show a3.toInt % (f (8 * r + s) : Int) < 2147483648 by omega)
        have eg2 := sm.2.2.2.2.1
        have efn : (nI (f (8 * r + s))).toInt = f (8 * r + s) := nI_toInt (by omega)
        refine c_cutPlace (n := j) (m := mk) g sc hmk hJ (fun z hz => ?_)
        try dsimp only [jrI, jrN, jrA, jisr, jnul, jcat1]
        simp (decide := true) only [jgI_ob, jgf_ob, jgL_ob, jpI_ob, jpL_ob, jpR_ob, jpN_ob, jrc_ob, obj_sV, obj_wF, obj_wG, obj_wR, arr_sV, arr_wF, arr_wG, arr_wR, arL_sV, arL_wF, arL_wG, arL_wR, arR_sV, arR_wF, arR_wG, arR_wR, fI_sV (c := 0), fI_sV (c := 1), fI_sV (c := 2), fI_sV (c := 4), fI_sV (c := 5), fI_sV (c := 7), fI_sV (c := 8), fI_sV (c := 9), fI_sV (c := 10), fI_sV (c := 11), fI_sV (c := 12), fI_sV (c := 6), fL_sV (c := 9), fL_sV (c := 12), fI_sV_k, fL_sV_k, fV_sV_k, fI_wF, fI_wG, fI_wR, fL_wF, fL_wG, fL_wR, fV_wF, fV_wG, fV_wR, aF_sV, aG_sV, aR_sV, aF_wG, aF_wR, aG_wF, aG_wR, aR_wF, aR_wG, gO g, gF g, ti_lt, tl, true_and]
        have zr := ct_rg (t := t (8 * r + s)) sc.2.2.2.2.2.2.2.2.2.2 f13.1 hJ
        have zq := tp_rg (t := t (8 * r + s)) f13.1 hJ
        refine c_bringSlide (by simp only [gO g]) (fun c1 => ?_) (fun c1 c2 => ?_)
        · try dsimp only [jrI, jrN, jrA, jisr, jnul, jcat1]
          refine jif_t rfl (K _ _ (fun Q2 H => ?_))
          rw [jE_X12_slide]
          refine jT_X12_slide_0 ?_
          simp (decide := true) only [jgI_ob, jgf_ob, jgL_ob, jpI_ob, jpL_ob, jpR_ob, jpN_ob, jrc_ob, obj_sV, obj_wF, obj_wG, obj_wR, arr_sV, arr_wF, arr_wG, arr_wR, arL_sV, arL_wF, arL_wG, arL_wR, arR_sV, arR_wF, arR_wG, arR_wR, fI_sV (c := 0), fI_sV (c := 1), fI_sV (c := 2), fI_sV (c := 4), fI_sV (c := 5), fI_sV (c := 7), fI_sV (c := 8), fI_sV (c := 9), fI_sV (c := 10), fI_sV (c := 11), fI_sV (c := 12), fI_sV (c := 6), fL_sV (c := 9), fL_sV (c := 12), fI_sV_k, fL_sV_k, fV_sV_k, fI_wF, fI_wG, fI_wR, fL_wF, fL_wG, fL_wR, fV_wF, fV_wG, fV_wR, aF_sV, aG_sV, aR_sV, aF_wG, aF_wR, aG_wF, aG_wR, aR_wF, aR_wG, gM g, gN g, ti_lt, tl, true_and, y1]
          refine jif_n (by omega) ?_
          refine c_isScale g x (fun c9 => absurd ⟨r, s, hr, hs, er, es⟩ c9) (fun _ _ _ _ _ _ => ?_)
          try dsimp only [jrI, jrN, jrA, jisr, jnul, jcat1]
          refine jif_n (by decide) ?_
          simp (decide := true) only [jgI_ob, jgf_ob, jgL_ob, jpI_ob, jpL_ob, jpR_ob, jpN_ob, jrc_ob, obj_sV, obj_wF, obj_wG, obj_wR, arr_sV, arr_wF, arr_wG, arr_wR, arL_sV, arL_wF, arL_wG, arL_wR, arR_sV, arR_wF, arR_wG, arR_wR, fI_sV (c := 0), fI_sV (c := 1), fI_sV (c := 2), fI_sV (c := 4), fI_sV (c := 5), fI_sV (c := 7), fI_sV (c := 8), fI_sV (c := 9), fI_sV (c := 10), fI_sV (c := 11), fI_sV (c := 12), fI_sV (c := 6), fL_sV (c := 9), fL_sV (c := 12), fI_sV_k, fL_sV_k, fV_sV_k, fI_wF, fI_wG, fI_wR, fL_wF, fL_wG, fL_wR, fV_wF, fV_wG, fV_wR, aF_sV, aG_sV, aR_sV, aF_wG, aF_wR, aG_wF, aG_wR, aR_wF, aR_wG, kC, kM, gM g, gN g, true_and, y1, iv, ti_clamp, e8, Int.toNat_natCast, eb2]
          refine jif_t cb ?_
          refine c_mNumber (fun c9 => absurd c c9) (fun _ => ?_)
          try dsimp only [jrI, jrN, jrA, jisr, jnul, jcat1]
          refine jif_n (by decide) ?_
          simp (decide := true) only [jgI_ob, jgf_ob, jgL_ob, jpI_ob, jpL_ob, jpR_ob, jpN_ob, jrc_ob, obj_sV, obj_wF, obj_wG, obj_wR, arr_sV, arr_wF, arr_wG, arr_wR, arL_sV, arL_wF, arL_wG, arL_wR, arR_sV, arR_wF, arR_wG, arR_wR, fI_sV (c := 0), fI_sV (c := 1), fI_sV (c := 2), fI_sV (c := 4), fI_sV (c := 5), fI_sV (c := 7), fI_sV (c := 8), fI_sV (c := 9), fI_sV (c := 10), fI_sV (c := 11), fI_sV (c := 12), fI_sV (c := 6), fL_sV (c := 9), fL_sV (c := 12), fI_sV_k, fL_sV_k, fV_sV_k, fI_wF, fI_wG, fI_wR, fL_wF, fL_wG, fL_wR, fV_wF, fV_wG, fV_wR, aF_sV, aG_sV, aR_sV, aF_wG, aF_wR, aG_wF, aG_wR, aR_wF, aR_wG, kC, kM, gM g, gN g, true_and, y1, iv, ti_clamp, e8, Int.toNat_natCast, eg2]
          refine c_decade (by rw [efn]; omega) ?_
          try dsimp only [jrI, jrN, jrA, jisr, jnul, jcat1]
          rw [efn]
          simp (decide := true) only [jgI_ob, jgf_ob, jgL_ob, jpI_ob, jpL_ob, jpR_ob, jpN_ob, jrc_ob, obj_sV, obj_wF, obj_wG, obj_wR, arr_sV, arr_wF, arr_wG, arr_wR, arL_sV, arL_wF, arL_wG, arL_wR, arR_sV, arR_wF, arR_wG, arR_wR, fI_sV (c := 0), fI_sV (c := 1), fI_sV (c := 2), fI_sV (c := 4), fI_sV (c := 5), fI_sV (c := 7), fI_sV (c := 8), fI_sV (c := 9), fI_sV (c := 10), fI_sV (c := 11), fI_sV (c := 12), fI_sV (c := 6), fL_sV (c := 9), fL_sV (c := 12), fI_sV_k, fL_sV_k, fV_sV_k, fI_wF, fI_wG, fI_wR, fL_wF, fL_wG, fL_wR, fV_wF, fV_wG, fV_wR, aF_sV, aG_sV, aR_sV, aF_wG, aF_wR, aG_wF, aG_wR, aR_wF, aR_wG, gM g]
          refine c_cutOf (n := j) (m := a2.toInt.toNat) g sm e8 ez (by omega) (by omega) (by omega) (by omega) hJ (fun w hw => ?_)
          rw [show w = z by rw [ti_eq, hz, hw]]
          try dsimp only [jrI, jrN, jrA, jisr, jnul, jcat1]
          simp (decide := true) only [jgI_ob, jgf_ob, jgL_ob, jpI_ob, jpL_ob, jpR_ob, jpN_ob, jrc_ob, obj_sV, obj_wF, obj_wG, obj_wR, arr_sV, arr_wF, arr_wG, arr_wR, arL_sV, arL_wF, arL_wG, arL_wR, arR_sV, arR_wF, arR_wG, arR_wR, fI_sV (c := 0), fI_sV (c := 1), fI_sV (c := 2), fI_sV (c := 4), fI_sV (c := 5), fI_sV (c := 7), fI_sV (c := 8), fI_sV (c := 9), fI_sV (c := 10), fI_sV (c := 11), fI_sV (c := 12), fI_sV (c := 6), fL_sV (c := 9), fL_sV (c := 12), fI_sV_k, fL_sV_k, fV_sV_k, fI_wF, fI_wG, fI_wR, fL_wF, fL_wG, fL_wR, fV_wF, fV_wG, fV_wR, aF_sV, aG_sV, aR_sV, aF_wG, aF_wR, aG_wF, aG_wR, aR_wF, aR_wG, gM g, y3]
          refine c_slideTo g (fun _ => ?_) (fun q0 q1 => by omega)
          exact jif_t rfl (H _ ⟨fr_rfl, hmono⟩)
        · try dsimp only [jrI, jrN, jrA, jisr, jnul, jcat1]
          refine jif_n (by decide) ?_
          have a1' : fr [] [(6, 4), (6, 6), (6, 8), (81, 14), (81, 16)] h (sV (sV (sV h 6 4 (.int (fI h 6 5 - z))) 6 6 (.int (fI h 6 7 + fI h 6 0 + 0))) 6 8 (.int (fI h 6 8 + 1))) := fr_sV (by decide) (fr_sV (by decide) (fr_sV (by decide) fr_rfl))
          have g1 := G_fr g rfl a1'
          have x1 := RB_fr x a1' rfl
          have sm1 := SM_fr sm rfl a1'
          simp (decide := true) only [jgI_ob, jgf_ob, jgL_ob, jpI_ob, jpL_ob, jpR_ob, jpN_ob, jrc_ob, obj_sV, obj_wF, obj_wG, obj_wR, arr_sV, arr_wF, arr_wG, arr_wR, arL_sV, arL_wF, arL_wG, arL_wR, arR_sV, arR_wF, arR_wG, arR_wR, fI_sV (c := 0), fI_sV (c := 1), fI_sV (c := 2), fI_sV (c := 4), fI_sV (c := 5), fI_sV (c := 7), fI_sV (c := 8), fI_sV (c := 9), fI_sV (c := 10), fI_sV (c := 11), fI_sV (c := 12), fI_sV (c := 6), fL_sV (c := 9), fL_sV (c := 12), fI_sV_k, fL_sV_k, fV_sV_k, fI_wF, fI_wG, fI_wR, fL_wF, fL_wG, fL_wR, fV_wF, fV_wG, fV_wR, aF_sV, aG_sV, aR_sV, aF_wG, aF_wR, aG_wF, aG_wR, aR_wF, aR_wG, gO g, gF g, fV_sV_ne]
          refine K _ _ (fun Q2 H => ?_)
          rw [jE_X12_slide]
          refine jT_X12_slide_0 ?_
          simp (decide := true) only [jgI_ob, jgf_ob, jgL_ob, jpI_ob, jpL_ob, jpR_ob, jpN_ob, jrc_ob, obj_sV, obj_wF, obj_wG, obj_wR, arr_sV, arr_wF, arr_wG, arr_wR, arL_sV, arL_wF, arL_wG, arL_wR, arR_sV, arR_wF, arR_wG, arR_wR, fI_sV (c := 0), fI_sV (c := 1), fI_sV (c := 2), fI_sV (c := 4), fI_sV (c := 5), fI_sV (c := 7), fI_sV (c := 8), fI_sV (c := 9), fI_sV (c := 10), fI_sV (c := 11), fI_sV (c := 12), fI_sV (c := 6), fL_sV (c := 9), fL_sV (c := 12), fI_sV_k, fL_sV_k, fV_sV_k, fI_wF, fI_wG, fI_wR, fL_wF, fL_wG, fL_wR, fV_wF, fV_wG, fV_wR, aF_sV, aG_sV, aR_sV, aF_wG, aF_wR, aG_wF, aG_wR, aR_wF, aR_wG, gM g, gN g, fI_sV_ne, ti_lt, tl, true_and, y1]
          refine jif_n (by omega) ?_
          refine c_isScale g1 x1 (fun c9 => absurd ⟨r, s, hr, hs, er, es⟩ c9) (fun _ _ _ _ _ _ => ?_)
          try dsimp only [jrI, jrN, jrA, jisr, jnul, jcat1]
          refine jif_n (by decide) ?_
          simp (decide := true) only [jgI_ob, jgf_ob, jgL_ob, jpI_ob, jpL_ob, jpR_ob, jpN_ob, jrc_ob, obj_sV, obj_wF, obj_wG, obj_wR, arr_sV, arr_wF, arr_wG, arr_wR, arL_sV, arL_wF, arL_wG, arL_wR, arR_sV, arR_wF, arR_wG, arR_wR, fI_sV (c := 0), fI_sV (c := 1), fI_sV (c := 2), fI_sV (c := 4), fI_sV (c := 5), fI_sV (c := 7), fI_sV (c := 8), fI_sV (c := 9), fI_sV (c := 10), fI_sV (c := 11), fI_sV (c := 12), fI_sV (c := 6), fL_sV (c := 9), fL_sV (c := 12), fI_sV_k, fL_sV_k, fV_sV_k, fI_wF, fI_wG, fI_wR, fL_wF, fL_wG, fL_wR, fV_wF, fV_wG, fV_wR, aF_sV, aG_sV, aR_sV, aF_wG, aF_wR, aG_wF, aG_wR, aR_wF, aR_wG, kC, kM, gM g1, gN g1, fI_sV_ne, true_and, y1, iv, ti_clamp, e8, Int.toNat_natCast, eb2]
          refine jif_t cb ?_
          refine c_mNumber (fun c9 => absurd c c9) (fun _ => ?_)
          try dsimp only [jrI, jrN, jrA, jisr, jnul, jcat1]
          refine jif_n (by decide) ?_
          simp (decide := true) only [jgI_ob, jgf_ob, jgL_ob, jpI_ob, jpL_ob, jpR_ob, jpN_ob, jrc_ob, obj_sV, obj_wF, obj_wG, obj_wR, arr_sV, arr_wF, arr_wG, arr_wR, arL_sV, arL_wF, arL_wG, arL_wR, arR_sV, arR_wF, arR_wG, arR_wR, fI_sV (c := 0), fI_sV (c := 1), fI_sV (c := 2), fI_sV (c := 4), fI_sV (c := 5), fI_sV (c := 7), fI_sV (c := 8), fI_sV (c := 9), fI_sV (c := 10), fI_sV (c := 11), fI_sV (c := 12), fI_sV (c := 6), fL_sV (c := 9), fL_sV (c := 12), fI_sV_k, fL_sV_k, fV_sV_k, fI_wF, fI_wG, fI_wR, fL_wF, fL_wG, fL_wR, fV_wF, fV_wG, fV_wR, aF_sV, aG_sV, aR_sV, aF_wG, aF_wR, aG_wF, aG_wR, aR_wF, aR_wG, kC, kM, gM g1, gN g1, fI_sV_ne, true_and, y1, iv, ti_clamp, e8, Int.toNat_natCast, eg2]
          refine c_decade (by rw [efn]; omega) ?_
          try dsimp only [jrI, jrN, jrA, jisr, jnul, jcat1]
          rw [efn]
          simp (decide := true) only [jgI_ob, jgf_ob, jgL_ob, jpI_ob, jpL_ob, jpR_ob, jpN_ob, jrc_ob, obj_sV, obj_wF, obj_wG, obj_wR, arr_sV, arr_wF, arr_wG, arr_wR, arL_sV, arL_wF, arL_wG, arL_wR, arR_sV, arR_wF, arR_wG, arR_wR, fI_sV (c := 0), fI_sV (c := 1), fI_sV (c := 2), fI_sV (c := 4), fI_sV (c := 5), fI_sV (c := 7), fI_sV (c := 8), fI_sV (c := 9), fI_sV (c := 10), fI_sV (c := 11), fI_sV (c := 12), fI_sV (c := 6), fL_sV (c := 9), fL_sV (c := 12), fI_sV_k, fL_sV_k, fV_sV_k, fI_wF, fI_wG, fI_wR, fL_wF, fL_wG, fL_wR, fV_wF, fV_wG, fV_wR, aF_sV, aG_sV, aR_sV, aF_wG, aF_wR, aG_wF, aG_wR, aR_wF, aR_wG, gM g1]
          refine c_cutOf (n := j) (m := a2.toInt.toNat) g1 sm1 e8 ez (by omega) (by omega) (by omega) (by omega) hJ (fun w hw => ?_)
          rw [show w = z by rw [ti_eq, hz, hw]]
          try dsimp only [jrI, jrN, jrA, jisr, jnul, jcat1]
          simp (decide := true) only [jgI_ob, jgf_ob, jgL_ob, jpI_ob, jpL_ob, jpR_ob, jpN_ob, jrc_ob, obj_sV, obj_wF, obj_wG, obj_wR, arr_sV, arr_wF, arr_wG, arr_wR, arL_sV, arL_wF, arL_wG, arL_wR, arR_sV, arR_wF, arR_wG, arR_wR, fI_sV (c := 0), fI_sV (c := 1), fI_sV (c := 2), fI_sV (c := 4), fI_sV (c := 5), fI_sV (c := 7), fI_sV (c := 8), fI_sV (c := 9), fI_sV (c := 10), fI_sV (c := 11), fI_sV (c := 12), fI_sV (c := 6), fL_sV (c := 9), fL_sV (c := 12), fI_sV_k, fL_sV_k, fV_sV_k, fI_wF, fI_wG, fI_wR, fL_wF, fL_wG, fL_wR, fV_wF, fV_wG, fV_wR, aF_sV, aG_sV, aR_sV, aF_wG, aF_wR, aG_wF, aG_wR, aR_wF, aR_wG, gM g, fI_sV_ne, y3, y5, t1]
          refine c_slideTo g1 (fun q => by omega) (fun q0 q1 => ?_)
          refine jif_n (by decide) ?_
          simp (decide := true) only [jgI_ob, jgf_ob, jgL_ob, jpI_ob, jpL_ob, jpR_ob, jpN_ob, jrc_ob, obj_sV, obj_wF, obj_wG, obj_wR, arr_sV, arr_wF, arr_wG, arr_wR, arL_sV, arL_wF, arL_wG, arL_wR, arR_sV, arR_wF, arR_wG, arR_wR, fI_sV (c := 0), fI_sV (c := 1), fI_sV (c := 2), fI_sV (c := 4), fI_sV (c := 5), fI_sV (c := 7), fI_sV (c := 8), fI_sV (c := 9), fI_sV (c := 10), fI_sV (c := 11), fI_sV (c := 12), fI_sV (c := 6), fL_sV (c := 9), fL_sV (c := 12), fI_sV_k, fL_sV_k, fV_sV_k, fI_wF, fI_wG, fI_wR, fL_wF, fL_wG, fL_wR, fV_wF, fV_wG, fV_wR, aF_sV, aG_sV, aR_sV, aF_wG, aF_wR, aG_wF, aG_wR, aR_wF, aR_wG, gM g]
          refine H _ ⟨fr_sV (by decide) (fr_sV (by decide) a1'), ?_⟩
          have eu : (fI h 6 7 + fI h 6 0).toInt = (fI h 6 7).toInt + (fI h 6 0).toInt := (by simp only [Int32.toInt_add, Int32.toInt_sub, Int32.toInt_mul, Int32.toInt_neg, Int.bmod_def, tl]; omega)
          have ev : fI h 6 7 + fI h 6 0 + 0 = fI h 6 7 + fI h 6 0 := Int32.add_zero _
          rw [ev]
          generalize fI h 6 7 + fI h 6 0 = uu at eu
          generalize fI h 6 5 - z = zz at c1 c2
          unfold HD
          simp (decide := true) only [jgI_ob, jgf_ob, jgL_ob, jpI_ob, jpL_ob, jpR_ob, jpN_ob, jrc_ob, obj_sV, obj_wF, obj_wG, obj_wR, arr_sV, arr_wF, arr_wG, arr_wR, arL_sV, arL_wF, arL_wG, arL_wR, arR_sV, arR_wF, arR_wG, arR_wR, fI_sV (c := 0), fI_sV (c := 1), fI_sV (c := 2), fI_sV (c := 4), fI_sV (c := 5), fI_sV (c := 7), fI_sV (c := 8), fI_sV (c := 9), fI_sV (c := 10), fI_sV (c := 11), fI_sV (c := 12), fI_sV (c := 6), fL_sV (c := 9), fL_sV (c := 12), fI_sV_k, fL_sV_k, fV_sV_k, fI_wF, fI_wG, fI_wR, fL_wF, fL_wG, fL_wR, fV_wF, fV_wG, fV_wR, aF_sV, aG_sV, aR_sV, aF_wG, aF_wR, aG_wF, aG_wR, aR_wF, aR_wG, gM g, gO g, fI_sV_ne, fV_sV_ne, tl]
          exact ⟨y1, trivial, y3, trivial, y5, c1, c2, h0, h1, by omega, by omega, v0, by omega, y6⟩
    · refine K _ _ (fun Q2 H => ?_)
      rw [jE_X12_slide]
      refine jT_X12_slide_0 ?_
      simp (decide := true) only [jgI_ob, jgf_ob, jgL_ob, jpI_ob, jpL_ob, jpR_ob, jpN_ob, jrc_ob, obj_sV, obj_wF, obj_wG, obj_wR, arr_sV, arr_wF, arr_wG, arr_wR, arL_sV, arL_wF, arL_wG, arL_wR, arR_sV, arR_wF, arR_wG, arR_wR, fI_sV (c := 0), fI_sV (c := 1), fI_sV (c := 2), fI_sV (c := 4), fI_sV (c := 5), fI_sV (c := 7), fI_sV (c := 8), fI_sV (c := 9), fI_sV (c := 10), fI_sV (c := 11), fI_sV (c := 12), fI_sV (c := 6), fL_sV (c := 9), fL_sV (c := 12), fI_sV_k, fL_sV_k, fV_sV_k, fI_wF, fI_wG, fI_wR, fL_wF, fL_wG, fL_wR, fV_wF, fV_wG, fV_wR, aF_sV, aG_sV, aR_sV, aF_wG, aF_wR, aG_wF, aG_wR, aR_wF, aR_wG, gM g, gN g, ti_lt, tl, true_and, y1]
      refine jif_n (by omega) ?_
      refine c_isScale g x (fun c9 => absurd ⟨r, s, hr, hs, er, es⟩ c9) (fun _ _ _ _ _ _ => ?_)
      try dsimp only [jrI, jrN, jrA, jisr, jnul, jcat1]
      refine jif_n (by decide) ?_
      simp (decide := true) only [jgI_ob, jgf_ob, jgL_ob, jpI_ob, jpL_ob, jpR_ob, jpN_ob, jrc_ob, obj_sV, obj_wF, obj_wG, obj_wR, arr_sV, arr_wF, arr_wG, arr_wR, arL_sV, arL_wF, arL_wG, arL_wR, arR_sV, arR_wF, arR_wG, arR_wR, fI_sV (c := 0), fI_sV (c := 1), fI_sV (c := 2), fI_sV (c := 4), fI_sV (c := 5), fI_sV (c := 7), fI_sV (c := 8), fI_sV (c := 9), fI_sV (c := 10), fI_sV (c := 11), fI_sV (c := 12), fI_sV (c := 6), fL_sV (c := 9), fL_sV (c := 12), fI_sV_k, fL_sV_k, fV_sV_k, fI_wF, fI_wG, fI_wR, fL_wF, fL_wG, fL_wR, fV_wF, fV_wG, fV_wR, aF_sV, aG_sV, aR_sV, aF_wG, aF_wR, aG_wF, aG_wR, aR_wF, aR_wG, kC, kM, gM g, gN g, true_and, y1, iv, ti_clamp, e8, Int.toNat_natCast, eb2]
      exact jif_n cb (H _ ⟨fr_rfl, hmono⟩)
/-! factors -/
theorem a_factor (g : G h) (x : FC h) {a1 a2 a3 : Int32} (h3 : a3 = 0 ∨ a3 = 1) : AGR X 227 229 [.int a1, .int a2, .int a3] h (fun h2 => fr [60, 61, 62, 113, 114, 115] [(59, 3), (59, 9), (81, 58)] h h2 ∧ FC h2 ∧ (h2 = h ∨ fI h2 59 9 = 0)) := by
  obtain ⟨e, x0, x1, x2⟩ := id x
  have hz := nar_z h3
  intro Q K
  rw [jE_X11_factor]
  refine jT_X11_factor_0 (c_cNumber (fun c => ?_) (fun c => ?_))
  · try dsimp only [jrI, jrN, jrA, jisr, jnul, jcat1]
    refine jif_t rfl (K _ _ (fun Q2 H => ?_))
    rw [jE_X12_factor]
    refine jT_X12_factor_0 ?_
    simp (decide := true) only [jgI_ob, jgf_ob, jgL_ob, jpI_ob, jpL_ob, jpR_ob, jpN_ob, jrc_ob, obj_sV, obj_wF, obj_wG, obj_wR, arr_sV, arr_wF, arr_wG, arr_wR, arL_sV, arL_wF, arL_wG, arL_wR, arR_sV, arR_wF, arR_wG, arR_wR, fI_sV (c := 0), fI_sV (c := 1), fI_sV (c := 2), fI_sV (c := 4), fI_sV (c := 5), fI_sV (c := 7), fI_sV (c := 8), fI_sV (c := 9), fI_sV (c := 10), fI_sV (c := 11), fI_sV (c := 12), fI_sV (c := 6), fL_sV (c := 9), fL_sV (c := 12), fI_sV_k, fL_sV_k, fV_sV_k, fI_wF, fI_wG, fI_wR, fL_wF, fL_wG, fL_wR, fV_wF, fV_wG, fV_wR, aF_sV, aG_sV, aR_sV, aF_wG, aF_wR, aG_wF, aG_wR, aR_wF, aR_wG, gM g, ti_eq, tl, e]
    refine ⟨fun _ => H _ ⟨fr_rfl, x, Or.inl rfl⟩, fun c1 => c_mNumber (fun _ => ?_) (fun c9 => absurd c9 c)⟩
    try dsimp only [jrI, jrN, jrA, jisr, jnul, jcat1]
    exact jif_t rfl (H _ ⟨fr_rfl, x, Or.inl rfl⟩)
  · try dsimp only [jrI, jrN, jrA, jisr, jnul, jcat1]
    refine jif_n (by decide) ?_
    simp (decide := true) only [jgI_ob, jgf_ob, jgL_ob, jpI_ob, jpL_ob, jpR_ob, jpN_ob, jrc_ob, obj_sV, obj_wF, obj_wG, obj_wR, arr_sV, arr_wF, arr_wG, arr_wR, arL_sV, arL_wF, arL_wG, arL_wR, arR_sV, arR_wF, arR_wG, arR_wR, fI_sV (c := 0), fI_sV (c := 1), fI_sV (c := 2), fI_sV (c := 4), fI_sV (c := 5), fI_sV (c := 7), fI_sV (c := 8), fI_sV (c := 9), fI_sV (c := 10), fI_sV (c := 11), fI_sV (c := 12), fI_sV (c := 6), fL_sV (c := 9), fL_sV (c := 12), fI_sV_k, fL_sV_k, fV_sV_k, fI_wF, fI_wG, fI_wR, fL_wF, fL_wG, fL_wR, fV_wF, fV_wG, fV_wR, aF_sV, aG_sV, aR_sV, aF_wG, aF_wR, aG_wF, aG_wR, aR_wF, aR_wG, gO g, gF g, ti_lt, tl, true_and]
    rw [jE_X4_addFactor]
    refine jT_X4_addFactor_0 ?_
    simp (decide := true) only [jgI_ob, jgf_ob, jgL_ob, jpI_ob, jpL_ob, jpR_ob, jpN_ob, jrc_ob, obj_sV, obj_wF, obj_wG, obj_wR, arr_sV, arr_wF, arr_wG, arr_wR, arL_sV, arL_wF, arL_wG, arL_wR, arR_sV, arR_wF, arR_wG, arR_wR, fI_sV (c := 0), fI_sV (c := 1), fI_sV (c := 2), fI_sV (c := 4), fI_sV (c := 5), fI_sV (c := 7), fI_sV (c := 8), fI_sV (c := 9), fI_sV (c := 10), fI_sV (c := 11), fI_sV (c := 12), fI_sV (c := 6), fL_sV (c := 9), fL_sV (c := 12), fI_sV_k, fL_sV_k, fV_sV_k, fI_wF, fI_wG, fI_wR, fL_wF, fL_wG, fL_wR, fV_wF, fV_wG, fV_wR, aF_sV, aG_sV, aR_sV, aF_wG, aF_wR, aG_wF, aG_wR, aR_wF, aR_wG, kC, kM, gO g, gF g, ti_lt, tl, true_and, hz]
    refine ⟨fun c1 => ?_, fun c1 => ?_⟩
    · have iv : vp_in (fI h 59 3) 7 := by rw [vp_inI]; omega
      refine ⟨iv, iv, iv, ?_⟩
      try dsimp only [jrI, jrN, jrA, jisr, jnul, jcat1]
      refine K _ _ (fun Q2 H => ?_)
      rw [jE_X12_factor]
      refine jT_X12_factor_0 ?_
      simp (decide := true) only [jgI_ob, jgf_ob, jgL_ob, jpI_ob, jpL_ob, jpR_ob, jpN_ob, jrc_ob, obj_sV, obj_wF, obj_wG, obj_wR, arr_sV, arr_wF, arr_wG, arr_wR, arL_sV, arL_wF, arL_wG, arL_wR, arR_sV, arR_wF, arR_wG, arR_wR, fI_sV (c := 0), fI_sV (c := 1), fI_sV (c := 2), fI_sV (c := 4), fI_sV (c := 5), fI_sV (c := 7), fI_sV (c := 8), fI_sV (c := 9), fI_sV (c := 10), fI_sV (c := 11), fI_sV (c := 12), fI_sV (c := 6), fL_sV (c := 9), fL_sV (c := 12), fI_sV_k, fL_sV_k, fV_sV_k, fI_wF, fI_wG, fI_wR, fL_wF, fL_wG, fL_wR, fV_wF, fV_wG, fV_wR, aF_sV, aG_sV, aR_sV, aF_wG, aF_wR, aG_wF, aG_wR, aR_wF, aR_wG, gM g, fI_sV_ne, ti_eq, tl, e]
      refine jif_n (by omega) (c_mNumber (fun c9 => absurd c c9) (fun _ => ?_))
      try dsimp only [jrI, jrN, jrA, jisr, jnul, jcat1]
      refine jif_n (by decide) ?_
      simp (decide := true) only [jgI_ob, jgf_ob, jgL_ob, jpI_ob, jpL_ob, jpR_ob, jpN_ob, jrc_ob, obj_sV, obj_wF, obj_wG, obj_wR, arr_sV, arr_wF, arr_wG, arr_wR, arL_sV, arL_wF, arL_wG, arL_wR, arR_sV, arR_wF, arR_wG, arR_wR, fI_sV (c := 0), fI_sV (c := 1), fI_sV (c := 2), fI_sV (c := 4), fI_sV (c := 5), fI_sV (c := 7), fI_sV (c := 8), fI_sV (c := 9), fI_sV (c := 10), fI_sV (c := 11), fI_sV (c := 12), fI_sV (c := 6), fL_sV (c := 9), fL_sV (c := 12), fI_sV_k, fL_sV_k, fV_sV_k, fI_wF, fI_wG, fI_wR, fL_wF, fL_wG, fL_wR, fV_wF, fV_wG, fV_wR, aF_sV, aG_sV, aR_sV, aF_wG, aF_wR, aG_wF, aG_wR, aR_wF, aR_wG, kC, kM, gM g, gN g, fI_sV_ne, fV_sV_ne, true_and, hz, e]
      refine ⟨iv, iv, iv, ?_⟩
      have es : (fI h 59 3 + 1).toInt = (fI h 59 3).toInt + 1 := (by simp only [Int32.toInt_add, Int32.toInt_sub, Int32.toInt_mul, Int32.toInt_neg, Int.bmod_def, tl]; omega)
      refine H _ ⟨fr_sV (by decide) (fr_wF (by decide) (fr_wF (by decide) (fr_wF (by decide) (fr_sV (by decide) (fr_sV (by decide) (fr_wF (by decide) (fr_wF (by decide) (fr_wF (by decide) fr_rfl)))))))), ?_, Or.inr ?_⟩
      · unfold FC
        simp (decide := true) only [jgI_ob, jgf_ob, jgL_ob, jpI_ob, jpL_ob, jpR_ob, jpN_ob, jrc_ob, obj_sV, obj_wF, obj_wG, obj_wR, arr_sV, arr_wF, arr_wG, arr_wR, arL_sV, arL_wF, arL_wG, arL_wR, arR_sV, arR_wF, arR_wG, arR_wR, fI_sV (c := 0), fI_sV (c := 1), fI_sV (c := 2), fI_sV (c := 4), fI_sV (c := 5), fI_sV (c := 7), fI_sV (c := 8), fI_sV (c := 9), fI_sV (c := 10), fI_sV (c := 11), fI_sV (c := 12), fI_sV (c := 6), fL_sV (c := 9), fL_sV (c := 12), fI_sV_k, fL_sV_k, fV_sV_k, fI_wF, fI_wG, fI_wR, fL_wF, fL_wG, fL_wR, fV_wF, fV_wG, fV_wR, aF_sV, aG_sV, aR_sV, aF_wG, aF_wR, aG_wF, aG_wR, aR_wF, aR_wG, kC, kM, gM g, gO g, fI_sV_ne, aF_wF_ne, es, ti_clamp]
        refine ⟨trivial, by omega, by omega, fun i hi => ?_⟩
        by_cases ci : i = (fI h 59 3).toInt.toNat
        · subst ci
          simp only [upd_s]
          exact ⟨trivial, trivial, trivial, c.1, c.2.1, c.2.2.1, c.2.2.2, h3⟩
        · simp only [upd_n ci]
          exact x2 i (by omega)
      · simp (decide := true) only [jgI_ob, jgf_ob, jgL_ob, jpI_ob, jpL_ob, jpR_ob, jpN_ob, jrc_ob, obj_sV, obj_wF, obj_wG, obj_wR, arr_sV, arr_wF, arr_wG, arr_wR, arL_sV, arL_wF, arL_wG, arL_wR, arR_sV, arR_wF, arR_wG, arR_wR, fI_sV (c := 0), fI_sV (c := 1), fI_sV (c := 2), fI_sV (c := 4), fI_sV (c := 5), fI_sV (c := 7), fI_sV (c := 8), fI_sV (c := 9), fI_sV (c := 10), fI_sV (c := 11), fI_sV (c := 12), fI_sV (c := 6), fL_sV (c := 9), fL_sV (c := 12), fI_sV_k, fL_sV_k, fV_sV_k, fI_wF, fI_wG, fI_wR, fL_wF, fL_wG, fL_wR, fV_wF, fV_wG, fV_wR, aF_sV, aG_sV, aR_sV, aF_wG, aF_wR, aG_wF, aG_wR, aR_wF, aR_wG, gM g, gO g, fI_sV_ne]
    · try dsimp only [jrI, jrN, jrA, jisr, jnul, jcat1]
      refine K _ _ (fun Q2 H => ?_)
      rw [jE_X12_factor]
      refine jT_X12_factor_0 ?_
      simp (decide := true) only [jgI_ob, jgf_ob, jgL_ob, jpI_ob, jpL_ob, jpR_ob, jpN_ob, jrc_ob, obj_sV, obj_wF, obj_wG, obj_wR, arr_sV, arr_wF, arr_wG, arr_wR, arL_sV, arL_wF, arL_wG, arL_wR, arR_sV, arR_wF, arR_wG, arR_wR, fI_sV (c := 0), fI_sV (c := 1), fI_sV (c := 2), fI_sV (c := 4), fI_sV (c := 5), fI_sV (c := 7), fI_sV (c := 8), fI_sV (c := 9), fI_sV (c := 10), fI_sV (c := 11), fI_sV (c := 12), fI_sV (c := 6), fL_sV (c := 9), fL_sV (c := 12), fI_sV_k, fL_sV_k, fV_sV_k, fI_wF, fI_wG, fI_wR, fL_wF, fL_wG, fL_wR, fV_wF, fV_wG, fV_wR, aF_sV, aG_sV, aR_sV, aF_wG, aF_wR, aG_wF, aG_wR, aR_wF, aR_wG, gM g, ti_eq, tl, e]
      refine jif_t (by omega) (H _ ⟨fr_rfl, x, Or.inl rfl⟩)
theorem a_clear (g : G h) (x : FC h) : AGR X 230 232 [] h (fun h2 => fr [] [(59, 3), (59, 9), (81, 58)] h h2 ∧ FC h2 ∧ fI h2 59 9 = 0) := by
  obtain ⟨e, x0, x1, x2⟩ := id x
  intro Q K
  rw [jE_X11_clear]
  refine jT_X11_clear_0 ?_
  simp (decide := true) only [jgI_ob, jgf_ob, jgL_ob, jpI_ob, jpL_ob, jpR_ob, jpN_ob, jrc_ob, obj_sV, obj_wF, obj_wG, obj_wR, arr_sV, arr_wF, arr_wG, arr_wR, arL_sV, arL_wF, arL_wG, arL_wR, arR_sV, arR_wF, arR_wG, arR_wR, fI_sV (c := 0), fI_sV (c := 1), fI_sV (c := 2), fI_sV (c := 4), fI_sV (c := 5), fI_sV (c := 7), fI_sV (c := 8), fI_sV (c := 9), fI_sV (c := 10), fI_sV (c := 11), fI_sV (c := 12), fI_sV (c := 6), fL_sV (c := 9), fL_sV (c := 12), fI_sV_k, fL_sV_k, fV_sV_k, fI_wF, fI_wG, fI_wR, fL_wF, fL_wG, fL_wR, fV_wF, fV_wG, fV_wR, aF_sV, aG_sV, aR_sV, aF_wG, aF_wR, aG_wF, aG_wR, aR_wF, aR_wG, gO g, gF g, ti_lt, tl, true_and]
  rw [jE_X4_removeAll]
  refine jT_X4_removeAll_0 ?_
  simp (decide := true) only [jgI_ob, jgf_ob, jgL_ob, jpI_ob, jpL_ob, jpR_ob, jpN_ob, jrc_ob, obj_sV, obj_wF, obj_wG, obj_wR, arr_sV, arr_wF, arr_wG, arr_wR, arL_sV, arL_wF, arL_wG, arL_wR, arR_sV, arR_wF, arR_wG, arR_wR, fI_sV (c := 0), fI_sV (c := 1), fI_sV (c := 2), fI_sV (c := 4), fI_sV (c := 5), fI_sV (c := 7), fI_sV (c := 8), fI_sV (c := 9), fI_sV (c := 10), fI_sV (c := 11), fI_sV (c := 12), fI_sV (c := 6), fL_sV (c := 9), fL_sV (c := 12), fI_sV_k, fL_sV_k, fV_sV_k, fI_wF, fI_wG, fI_wR, fL_wF, fL_wG, fL_wR, fV_wF, fV_wG, fV_wR, aF_sV, aG_sV, aR_sV, aF_wG, aF_wR, aG_wF, aG_wR, aR_wF, aR_wG, gO g, gF g, ti_lt, tl, true_and]
  try dsimp only [jrI, jrN, jrA, jisr, jnul, jcat1]
  refine K _ _ (fun Q2 H => ?_)
  rw [jE_X12_clear]
  refine jT_X12_clear_0 ?_
  simp (decide := true) only [jgI_ob, jgf_ob, jgL_ob, jpI_ob, jpL_ob, jpR_ob, jpN_ob, jrc_ob, obj_sV, obj_wF, obj_wG, obj_wR, arr_sV, arr_wF, arr_wG, arr_wR, arL_sV, arL_wF, arL_wG, arL_wR, arR_sV, arR_wF, arR_wG, arR_wR, fI_sV (c := 0), fI_sV (c := 1), fI_sV (c := 2), fI_sV (c := 4), fI_sV (c := 5), fI_sV (c := 7), fI_sV (c := 8), fI_sV (c := 9), fI_sV (c := 10), fI_sV (c := 11), fI_sV (c := 12), fI_sV (c := 6), fL_sV (c := 9), fL_sV (c := 12), fI_sV_k, fL_sV_k, fV_sV_k, fI_wF, fI_wG, fI_wR, fL_wF, fL_wG, fL_wR, fV_wF, fV_wG, fV_wR, aF_sV, aG_sV, aR_sV, aF_wG, aF_wR, aG_wF, aG_wR, aR_wF, aR_wG, gM g, fI_sV_ne, e]
  refine H _ ⟨fr_sV (by decide) (fr_sV (by decide) (fr_sV (by decide) fr_rfl)), ?_, ?_⟩
  · unfold FC
    simp (decide := true) only [jgI_ob, jgf_ob, jgL_ob, jpI_ob, jpL_ob, jpR_ob, jpN_ob, jrc_ob, obj_sV, obj_wF, obj_wG, obj_wR, arr_sV, arr_wF, arr_wG, arr_wR, arL_sV, arL_wF, arL_wG, arL_wR, arR_sV, arR_wF, arR_wG, arR_wR, fI_sV (c := 0), fI_sV (c := 1), fI_sV (c := 2), fI_sV (c := 4), fI_sV (c := 5), fI_sV (c := 7), fI_sV (c := 8), fI_sV (c := 9), fI_sV (c := 10), fI_sV (c := 11), fI_sV (c := 12), fI_sV (c := 6), fL_sV (c := 9), fL_sV (c := 12), fI_sV_k, fL_sV_k, fV_sV_k, fI_wF, fI_wG, fI_wR, fL_wF, fL_wG, fL_wR, fV_wF, fV_wG, fV_wR, aF_sV, aG_sV, aR_sV, aF_wG, aF_wR, aG_wF, aG_wR, aR_wF, aR_wG, gM g, gO g, fI_sV_ne, tl]
    exact ⟨trivial, trivial, trivial, fun i hi => by omega⟩
  · simp (decide := true) only [jgI_ob, jgf_ob, jgL_ob, jpI_ob, jpL_ob, jpR_ob, jpN_ob, jrc_ob, obj_sV, obj_wF, obj_wG, obj_wR, arr_sV, arr_wF, arr_wG, arr_wR, arL_sV, arL_wF, arL_wG, arL_wR, arR_sV, arR_wF, arR_wG, arR_wR, fI_sV (c := 0), fI_sV (c := 1), fI_sV (c := 2), fI_sV (c := 4), fI_sV (c := 5), fI_sV (c := 7), fI_sV (c := 8), fI_sV (c := 9), fI_sV (c := 10), fI_sV (c := 11), fI_sV (c := 12), fI_sV (c := 6), fL_sV (c := 9), fL_sV (c := 12), fI_sV_k, fL_sV_k, fV_sV_k, fI_wF, fI_wG, fI_wR, fL_wF, fL_wG, fL_wR, fV_wF, fV_wG, fV_wR, aF_sV, aG_sV, aR_sV, aF_wG, aF_wR, aG_wF, aG_wR, aR_wF, aR_wG, gM g, gO g, fI_sV_ne]
/-! feeding -/
def BY (a : Int32) (r : Nat) : Int32 := (a >>> (Int32.ofNat (8 * (r - 1)) &&& 31)) &&& 255
def MB (a : Int32) (r : Nat) : Int32 := vp_nar .byte (Int8.toInt32 (Int32.toInt8 ((Int32.toUInt32 a >>> (Int32.toUInt32 (8 * Int32.ofNat (r - 1)) &&& Int32.toUInt32 31)).toInt32)))
def ByR (x y : Int32) : Prop := 0 ≤ x.toInt ∧ x.toInt ≤ 255 ∧ y.toInt = sg x.toInt
theorem by8 : ∀ b : BitVec 8, 0 ≤ (b.setWidth 32).toInt ∧ (b.setWidth 32).toInt ≤ 255 ∧ (b.signExtend 32).toInt = sg (b.setWidth 32).toInt := by decide +kernel
theorem by_c {a : BitVec 32} {s : Nat} (hs : s ≤ 24) : a.sshiftRight s &&& 255#32 = (a.extractLsb' s 8).setWidth 32 := by
  apply BitVec.eq_of_getLsbD_eq
  intro i hi
  have h255 : (255#32).getLsbD i = decide (i < 8) := by
    revert i
    decide
  rw [BitVec.getLsbD_and, h255, BitVec.getLsbD_setWidth, BitVec.getLsbD_extractLsb', BitVec.getLsbD_sshiftRight]
  by_cases c : i < 8
  · rw [if_pos (by omega)]
    simp [c, hi]
  · simp [c]
theorem by_m {a : BitVec 32} {s : Nat} : (a >>> s).setWidth 8 = a.extractLsb' s 8 := by
  apply BitVec.eq_of_getLsbD_eq
  intro i hi
  rw [BitVec.getLsbD_setWidth, BitVec.getLsbD_extractLsb', BitVec.getLsbD_ushiftRight]
theorem sx8 (x : BitVec 32) : x.signExtend 8 = x.setWidth 8 := by
  apply BitVec.eq_of_getLsbD_eq
  intro i hi
  rw [BitVec.getLsbD_setWidth, BitVec.getLsbD_signExtend, if_pos (by omega)]
theorem ByR_by (a : Int32) {r : Nat} (h1 : 1 ≤ r) (h4 : r ≤ 4) : ByR (BY a r) (MB a r) := by
  have h8 := by8 (a.toBitVec.extractLsb' (8 * (r - 1)) 8)
  have e1 : (BY a r).toBitVec = (a.toBitVec.extractLsb' (8 * (r - 1)) 8).setWidth 32 := by
    rw [← by_c (by omega)]
    rcases (show r = 1 ∨ r = 2 ∨ r = 3 ∨ r = 4 by omega) with e | e | e | e <;> subst e <;> rfl
  have e2 : (MB a r).toBitVec = (a.toBitVec.extractLsb' (8 * (r - 1)) 8).signExtend 32 := by
    have hn : ∀ v : Int8, vp_nar .byte (Int8.toInt32 v) = Int8.toInt32 v := fun v => by
      show Int8.toInt32 (Int32.toInt8 (Int8.toInt32 v)) = Int8.toInt32 v
      simp
    unfold MB
    rw [hn, Int8.toBitVec_toInt32, Int32.toBitVec_toInt8, sx8]
    rw [← by_m]
    rcases (show r = 1 ∨ r = 2 ∨ r = 3 ∨ r = 4 by omega) with e | e | e | e <;> subst e <;> rfl
  unfold ByR
  have t1 : (BY a r).toInt = ((a.toBitVec.extractLsb' (8 * (r - 1)) 8).setWidth 32).toInt := by rw [← e1]; rfl
  have t2 : (MB a r).toInt = ((a.toBitVec.extractLsb' (8 * (r - 1)) 8).signExtend 32).toInt := by rw [← e2]; rfl
  rw [t1, t2]
  exact h8
def apW (F : Int32 → Nat → Int32) (g : Nat → Int32) (s : Nat) (a : Int32) : Nat → Int32 := fun i => if s ≤ i ∧ i < s + 4 then F a (4 - (i - s)) else g i
theorem apW_R {g g' : Nat → Int32} {s : Nat} {a : Int32} (H : ∀ i, i < s → ByR (g i) (g' i)) : ∀ i, i < s + 4 → ByR (apW BY g s a i) (apW MB g' s a i) := by
  intro i hi
  unfold apW
  by_cases c : s ≤ i
  · rw [if_pos ⟨c, hi⟩, if_pos ⟨c, hi⟩]
    exact ByR_by a (by omega) (by omega)
  · rw [if_neg (fun q => c q.1), if_neg (fun q => c q.1)]
    exact H i (by omega)
theorem c_append {d : Nat} {Q : JQ} (g : G h) {s : Nat} (hs : (fI h 7 1).toInt = s) (hl : s + 4 ≤ 2000) {a : Int32} (H : ∀ h1, fr [8] [(7, 1)] h h1 → (fI h1 7 1).toInt = ((s + 4 : Nat) : Int) → aF h1 8 = apW BY (aF h 8) s a → Q none h1) : jex X (d + 1) 31 [.ref 7, .int a] h Q := by
  have L : ∀ (r : Nat) (h1 : JH) (a2 : Int32) (c z : Nat), r ≤ 4 → a2.toInt = 8 * (r : Int) - 8 → fr [8] [(7, 1)] h h1 → (fI h1 7 1).toInt = ((s + (4 - r) : Nat) : Int) → (∀ i, aF h1 8 i = if s ≤ i ∧ i < s + (4 - r) then BY a (4 - (i - s)) else aF h 8 i) → jB_X9_append_3 X d Q 7 a a2 h1 c z := by
    intro r
    induction r with
    | zero =>
      intro h1 a2 c z hr h2 k e1 e2
      refine jT_X9_append_3 (jif_t (by rw [ti_lt, tl.1]; omega) ?_)
      refine H h1 k e1 ?_
      funext i
      rw [e2 i]
      rfl
    | succ r ih =>
      intro h1 a2 c z hr h2 k e1 e2
      have g1 := G_fr g rfl k
      have ho : obj h1 7 9 := by simp only [gO g1]
      have h2' : (a2 + (-8)).toInt = 8 * (r : Int) - 8 := by
        rw [ti_add (by rw [show (-8 : Int32).toInt = -8 from rfl]; omega) (by rw [show (-8 : Int32).toInt = -8 from rfl]; omega), show (-8 : Int32).toInt = -8 from rfl]; omega
      refine jT_X9_append_3 (jif_n (by rw [ti_lt, tl.1]; omega) ?_)
      simp (decide := true) only [jgI_ob, jgf_ob, jgL_ob, jpI_ob, jpL_ob, jpR_ob, jpN_ob, jrc_ob, obj_sV, obj_wF, obj_wG, obj_wR, arr_sV, arr_wF, arr_wG, arr_wR, arL_sV, arL_wF, arL_wG, arL_wR, arR_sV, arR_wF, arR_wG, arR_wR, fI_sV (c := 0), fI_sV (c := 1), fI_sV (c := 2), fI_sV (c := 4), fI_sV (c := 5), fI_sV (c := 7), fI_sV (c := 8), fI_sV (c := 9), fI_sV (c := 10), fI_sV (c := 11), fI_sV (c := 12), fI_sV (c := 6), fL_sV (c := 9), fL_sV (c := 12), fI_sV_k, fL_sV_k, fV_sV_k, fI_wF, fI_wG, fI_wR, fL_wF, fL_wG, fL_wR, fV_wF, fV_wG, fV_wR, aF_sV, aG_sV, aR_sV, aF_wG, aF_wR, aG_wF, aG_wR, aR_wF, aR_wG, kC, kM, gO g1, gF g1, ti_lt, tl, tn]
      have iv : vp_in (fI h1 7 1) 2000 := by rw [vp_inI]; omega
      refine jif_n (by omega) (jif_t (by omega) ⟨iv, ?_⟩)
      have e3 : (fI h1 7 1 + 1).toInt = ((s + (4 - r) : Nat) : Int) := (by simp only [Int32.toInt_add, Int32.toInt_sub, Int32.toInt_mul, Int32.toInt_neg, Int.bmod_def, tl]; omega)
      refine ih _ _ _ _ (by omega) h2' (fr_sV (by decide) (fr_wF (by decide) k)) ?_ (fun i => ?_)
      · simp (decide := true) only [jgI_ob, jgf_ob, jgL_ob, jpI_ob, jpL_ob, jpR_ob, jpN_ob, jrc_ob, obj_sV, obj_wF, obj_wG, obj_wR, arr_sV, arr_wF, arr_wG, arr_wR, arL_sV, arL_wF, arL_wG, arL_wR, arR_sV, arR_wF, arR_wG, arR_wR, fI_sV (c := 0), fI_sV (c := 1), fI_sV (c := 2), fI_sV (c := 4), fI_sV (c := 5), fI_sV (c := 7), fI_sV (c := 8), fI_sV (c := 9), fI_sV (c := 10), fI_sV (c := 11), fI_sV (c := 12), fI_sV (c := 6), fL_sV (c := 9), fL_sV (c := 12), fI_sV_k, fL_sV_k, fV_sV_k, fI_wF, fI_wG, fI_wR, fL_wF, fL_wG, fL_wR, fV_wF, fV_wG, fV_wR, aF_sV, aG_sV, aR_sV, aF_wG, aF_wR, aG_wF, aG_wR, aR_wF, aR_wG, gO g1]
        exact e3
      · simp (decide := true) only [jgI_ob, jgf_ob, jgL_ob, jpI_ob, jpL_ob, jpR_ob, jpN_ob, jrc_ob, obj_sV, obj_wF, obj_wG, obj_wR, arr_sV, arr_wF, arr_wG, arr_wR, arL_sV, arL_wF, arL_wG, arL_wR, arR_sV, arR_wF, arR_wG, arR_wR, fI_sV (c := 0), fI_sV (c := 1), fI_sV (c := 2), fI_sV (c := 4), fI_sV (c := 5), fI_sV (c := 7), fI_sV (c := 8), fI_sV (c := 9), fI_sV (c := 10), fI_sV (c := 11), fI_sV (c := 12), fI_sV (c := 6), fL_sV (c := 9), fL_sV (c := 12), fI_sV_k, fL_sV_k, fV_sV_k, fI_wF, fI_wG, fI_wR, fL_wF, fL_wG, fL_wR, fV_wF, fV_wG, fV_wR, aF_sV, aG_sV, aR_sV, aF_wG, aF_wR, aG_wF, aG_wR, aR_wF, aR_wG, kC, kM, gO g1]
        rw [ti_clamp, e1, Int.toNat_natCast]
        have ea : a2 = Int32.ofNat (8 * (r + 1 - 1)) := by
          rw [ti_eq, zN (by omega), h2]; omega
        by_cases ci : i = s + (4 - (r + 1))
        · subst ci
          rw [upd_s, if_pos (by omega), ea]
          unfold BY
          rw [show 4 - (s + (4 - (r + 1)) - s) = r + 1 by omega]
        · rw [upd_n ci, e2 i]
          by_cases c2 : s ≤ i ∧ i < s + (4 - (r + 1))
          · rw [if_pos c2, if_pos (by omega)]
          · rw [if_neg c2, if_neg (by omega)]
  rw [jE_X9_append]
  refine jT_X9_append_0 (L 4 h 24 _ _ (by omega) (by rfl) fr_rfl (by omega) (fun i => ?_))
  rw [if_neg (by omega)]
theorem c_byteRow {d : Nat} {Q : JQ} (g : G h) {s : Nat} (hs : (fI h 81 1).toInt = s) (hl : s + 4 ≤ 2000) {a : Int32} (H : ∀ h1, fr [82] [(81, 1)] h h1 → (fI h1 81 1).toInt = ((s + 4 : Nat) : Int) → aF h1 82 = apW MB (aF h 82) s a → Q none h1) : jex X (d + 1) 33 [.ref 81, .int a] h Q := by
  have L : ∀ (r : Nat) (h1 : JH) (a2 : Int32) (c z : Nat), r ≤ 4 → a2.toInt = (r : Int) - 1 → fr [82] [(81, 1)] h h1 → (fI h1 81 1).toInt = ((s + (4 - r) : Nat) : Int) → (∀ i, aF h1 82 i = if s ≤ i ∧ i < s + (4 - r) then MB a (4 - (i - s)) else aF h 82 i) → jB_X12_byteRow_2 X d Q 81 a a2 h1 c z := by
    intro r
    induction r with
    | zero =>
      intro h1 a2 c z hr h2 k e1 e2
      refine jT_X12_byteRow_2 (jif_t (by rw [ti_lt, tl.1]; omega) ?_)
      refine H h1 k e1 ?_
      funext i
      rw [e2 i]
      rfl
    | succ r ih =>
      intro h1 a2 c z hr h2 k e1 e2
      have g1 := G_fr g rfl k
      have h2' : (a2 + (-1)).toInt = (r : Int) - 1 := (by simp only [Int32.toInt_add, Int32.toInt_sub, Int32.toInt_mul, Int32.toInt_neg, Int.bmod_def, tl]; omega)
      refine jT_X12_byteRow_2 (jif_n (by rw [ti_lt, tl.1]; omega) ?_)
      simp (decide := true) only [jgI_ob, jgf_ob, jgL_ob, jpI_ob, jpL_ob, jpR_ob, jpN_ob, jrc_ob, obj_sV, obj_wF, obj_wG, obj_wR, arr_sV, arr_wF, arr_wG, arr_wR, arL_sV, arL_wF, arL_wG, arL_wR, arR_sV, arR_wF, arR_wG, arR_wR, fI_sV (c := 0), fI_sV (c := 1), fI_sV (c := 2), fI_sV (c := 4), fI_sV (c := 5), fI_sV (c := 7), fI_sV (c := 8), fI_sV (c := 9), fI_sV (c := 10), fI_sV (c := 11), fI_sV (c := 12), fI_sV (c := 6), fL_sV (c := 9), fL_sV (c := 12), fI_sV_k, fL_sV_k, fV_sV_k, fI_wF, fI_wG, fI_wR, fL_wF, fL_wG, fL_wR, fV_wF, fV_wG, fV_wR, aF_sV, aG_sV, aR_sV, aF_wG, aF_wR, aG_wF, aG_wR, aR_wF, aR_wG, kC, kM, gM g1, gN g1]
      have iv : vp_in (fI h1 81 1) 2000 := by rw [vp_inI]; omega
      refine ⟨iv, ?_⟩
      have e3 : (fI h1 81 1 + 1).toInt = ((s + (4 - r) : Nat) : Int) := (by simp only [Int32.toInt_add, Int32.toInt_sub, Int32.toInt_mul, Int32.toInt_neg, Int.bmod_def, tl]; omega)
      refine ih _ _ _ _ (by omega) h2' (fr_sV (by decide) (fr_wF (by decide) k)) ?_ (fun i => ?_)
      · simp (decide := true) only [jgI_ob, jgf_ob, jgL_ob, jpI_ob, jpL_ob, jpR_ob, jpN_ob, jrc_ob, obj_sV, obj_wF, obj_wG, obj_wR, arr_sV, arr_wF, arr_wG, arr_wR, arL_sV, arL_wF, arL_wG, arL_wR, arR_sV, arR_wF, arR_wG, arR_wR, fI_sV (c := 0), fI_sV (c := 1), fI_sV (c := 2), fI_sV (c := 4), fI_sV (c := 5), fI_sV (c := 7), fI_sV (c := 8), fI_sV (c := 9), fI_sV (c := 10), fI_sV (c := 11), fI_sV (c := 12), fI_sV (c := 6), fL_sV (c := 9), fL_sV (c := 12), fI_sV_k, fL_sV_k, fV_sV_k, fI_wF, fI_wG, fI_wR, fL_wF, fL_wG, fL_wR, fV_wF, fV_wG, fV_wR, aF_sV, aG_sV, aR_sV, aF_wG, aF_wR, aG_wF, aG_wR, aR_wF, aR_wG, gM g1]
        exact e3
      · simp (decide := true) only [jgI_ob, jgf_ob, jgL_ob, jpI_ob, jpL_ob, jpR_ob, jpN_ob, jrc_ob, obj_sV, obj_wF, obj_wG, obj_wR, arr_sV, arr_wF, arr_wG, arr_wR, arL_sV, arL_wF, arL_wG, arL_wR, arR_sV, arR_wF, arR_wG, arR_wR, fI_sV (c := 0), fI_sV (c := 1), fI_sV (c := 2), fI_sV (c := 4), fI_sV (c := 5), fI_sV (c := 7), fI_sV (c := 8), fI_sV (c := 9), fI_sV (c := 10), fI_sV (c := 11), fI_sV (c := 12), fI_sV (c := 6), fL_sV (c := 9), fL_sV (c := 12), fI_sV_k, fL_sV_k, fV_sV_k, fI_wF, fI_wG, fI_wR, fL_wF, fL_wG, fL_wR, fV_wF, fV_wG, fV_wR, aF_sV, aG_sV, aR_sV, aF_wG, aF_wR, aG_wF, aG_wR, aR_wF, aR_wG, kC, kM, gM g1]
        rw [ti_clamp, e1, Int.toNat_natCast]
        have ea : a2 = Int32.ofNat (r + 1 - 1) := by
          rw [ti_eq, zN (by omega), h2]; omega
        by_cases ci : i = s + (4 - (r + 1))
        · subst ci
          rw [upd_s, if_pos (by omega), ea]
          unfold MB
          rw [show 4 - (s + (4 - (r + 1)) - s) = r + 1 by omega]
        · rw [upd_n ci, e2 i]
          by_cases c2 : s ≤ i ∧ i < s + (4 - (r + 1))
          · rw [if_pos c2, if_pos (by omega)]
          · rw [if_neg c2, if_neg (by omega)]
  rw [jE_X12_byteRow]
  refine jT_X12_byteRow_0 (L 4 h 3 _ _ (by omega) (by rfl) fr_rfl (by omega) (fun i => ?_))
  rw [if_neg (by omega)]
theorem a_feed (g : G h) (x : TP h) {a1 a2 a3 a4 a5 : Int32} : AGR X 29 32 [.int a1, .int a2, .int a3, .int a4, .int a5] h (fun h2 => fr [8, 82] [(7, 1), (81, 1)] h h2 ∧ TP h2) := by
  obtain ⟨e, x0, x1, x2⟩ := id x
  have es : (fI h 7 1 + 20).toInt = (fI h 7 1).toInt + 20 := (by simp only [Int32.toInt_add, Int32.toInt_sub, Int32.toInt_mul, Int32.toInt_neg, Int.bmod_def, tl]; omega)
  intro Q K
  rw [jE_X11_feed]
  refine jT_X11_feed_0 ?_
  simp (decide := true) only [jgI_ob, jgf_ob, jgL_ob, jpI_ob, jpL_ob, jpR_ob, jpN_ob, jrc_ob, obj_sV, obj_wF, obj_wG, obj_wR, arr_sV, arr_wF, arr_wG, arr_wR, arL_sV, arL_wF, arL_wG, arL_wR, arR_sV, arR_wF, arR_wG, arR_wR, fI_sV (c := 0), fI_sV (c := 1), fI_sV (c := 2), fI_sV (c := 4), fI_sV (c := 5), fI_sV (c := 7), fI_sV (c := 8), fI_sV (c := 9), fI_sV (c := 10), fI_sV (c := 11), fI_sV (c := 12), fI_sV (c := 6), fL_sV (c := 9), fL_sV (c := 12), fI_sV_k, fL_sV_k, fV_sV_k, fI_wF, fI_wG, fI_wR, fL_wF, fL_wG, fL_wR, fV_wF, fV_wG, fV_wR, aF_sV, aG_sV, aR_sV, aF_wG, aF_wR, aG_wF, aG_wR, aR_wF, aR_wG, gO g, gF g, ti_lt, tl, true_and]
  rw [jE_X9_hasRoomFor]
  refine jT_X9_hasRoomFor_0 ?_
  simp (decide := true) only [jgI_ob, jgf_ob, jgL_ob, jpI_ob, jpL_ob, jpR_ob, jpN_ob, jrc_ob, obj_sV, obj_wF, obj_wG, obj_wR, arr_sV, arr_wF, arr_wG, arr_wR, arL_sV, arL_wF, arL_wG, arL_wR, arR_sV, arR_wF, arR_wG, arR_wR, fI_sV (c := 0), fI_sV (c := 1), fI_sV (c := 2), fI_sV (c := 4), fI_sV (c := 5), fI_sV (c := 7), fI_sV (c := 8), fI_sV (c := 9), fI_sV (c := 10), fI_sV (c := 11), fI_sV (c := 12), fI_sV (c := 6), fL_sV (c := 9), fL_sV (c := 12), fI_sV_k, fL_sV_k, fV_sV_k, fI_wF, fI_wG, fI_wR, fL_wF, fL_wG, fL_wR, fV_wF, fV_wG, fV_wR, aF_sV, aG_sV, aR_sV, aF_wG, aF_wR, aG_wF, aG_wR, aR_wF, aR_wG, gO g, ti_lt, tl, true_and, es]
  refine ⟨fun c => ?_, fun c => ?_⟩
  · try dsimp only [jrI, jrN, jrA, jisr, jnul, jcat1]
    refine jif_t rfl (K _ _ (fun Q2 H => ?_))
    rw [jE_X12_feed]
    refine jT_X12_feed_0 ?_
    simp (decide := true) only [jgI_ob, jgf_ob, jgL_ob, jpI_ob, jpL_ob, jpR_ob, jpN_ob, jrc_ob, obj_sV, obj_wF, obj_wG, obj_wR, arr_sV, arr_wF, arr_wG, arr_wR, arL_sV, arL_wF, arL_wG, arL_wR, arR_sV, arR_wF, arR_wG, arR_wR, fI_sV (c := 0), fI_sV (c := 1), fI_sV (c := 2), fI_sV (c := 4), fI_sV (c := 5), fI_sV (c := 7), fI_sV (c := 8), fI_sV (c := 9), fI_sV (c := 10), fI_sV (c := 11), fI_sV (c := 12), fI_sV (c := 6), fL_sV (c := 9), fL_sV (c := 12), fI_sV_k, fL_sV_k, fV_sV_k, fI_wF, fI_wG, fI_wR, fL_wF, fL_wG, fL_wR, fV_wF, fV_wG, fV_wR, aF_sV, aG_sV, aR_sV, aF_wG, aF_wR, aG_wF, aG_wR, aR_wF, aR_wG, gM g, ti_lt, tl, e, es]
    exact jif_t c (H _ ⟨fr_rfl, x⟩)
  · try dsimp only [jrI, jrN, jrA, jisr, jnul, jcat1]
    refine jif_n (by decide) ?_
    have hs : (fI h 7 1).toInt = ((fI h 7 1).toInt.toNat : Nat) := by omega
    generalize hsn : (fI h 7 1).toInt.toNat = s at hs
    simp (decide := true) only [jgI_ob, jgf_ob, jgL_ob, jpI_ob, jpL_ob, jpR_ob, jpN_ob, jrc_ob, obj_sV, obj_wF, obj_wG, obj_wR, arr_sV, arr_wF, arr_wG, arr_wR, arL_sV, arL_wF, arL_wG, arL_wR, arR_sV, arR_wF, arR_wG, arR_wR, fI_sV (c := 0), fI_sV (c := 1), fI_sV (c := 2), fI_sV (c := 4), fI_sV (c := 5), fI_sV (c := 7), fI_sV (c := 8), fI_sV (c := 9), fI_sV (c := 10), fI_sV (c := 11), fI_sV (c := 12), fI_sV (c := 6), fL_sV (c := 9), fL_sV (c := 12), fI_sV_k, fL_sV_k, fV_sV_k, fI_wF, fI_wG, fI_wR, fL_wF, fL_wG, fL_wR, fV_wF, fV_wG, fV_wR, aF_sV, aG_sV, aR_sV, aF_wG, aF_wR, aG_wF, aG_wR, aR_wF, aR_wG, gO g, gF g, ti_lt, tl, true_and]
    refine c_append g hs (by omega) (fun h1 k1 f1 z1 => ?_)
    have g1 := G_fr g rfl k1
    try dsimp only [jrI, jrN, jrA, jisr, jnul, jcat1]
    simp (decide := true) only [jgI_ob, jgf_ob, jgL_ob, jpI_ob, jpL_ob, jpR_ob, jpN_ob, jrc_ob, obj_sV, obj_wF, obj_wG, obj_wR, arr_sV, arr_wF, arr_wG, arr_wR, arL_sV, arL_wF, arL_wG, arL_wR, arR_sV, arR_wF, arR_wG, arR_wR, fI_sV (c := 0), fI_sV (c := 1), fI_sV (c := 2), fI_sV (c := 4), fI_sV (c := 5), fI_sV (c := 7), fI_sV (c := 8), fI_sV (c := 9), fI_sV (c := 10), fI_sV (c := 11), fI_sV (c := 12), fI_sV (c := 6), fL_sV (c := 9), fL_sV (c := 12), fI_sV_k, fL_sV_k, fV_sV_k, fI_wF, fI_wG, fI_wR, fL_wF, fL_wG, fL_wR, fV_wF, fV_wG, fV_wR, aF_sV, aG_sV, aR_sV, aF_wG, aF_wR, aG_wF, aG_wR, aR_wF, aR_wG, gO g1, gF g1, ti_lt, tl, true_and]
    refine c_append g1 f1 (by omega) (fun h2 k2 f2 z2 => ?_)
    have g2 := G_fr g1 rfl k2
    try dsimp only [jrI, jrN, jrA, jisr, jnul, jcat1]
    simp (decide := true) only [jgI_ob, jgf_ob, jgL_ob, jpI_ob, jpL_ob, jpR_ob, jpN_ob, jrc_ob, obj_sV, obj_wF, obj_wG, obj_wR, arr_sV, arr_wF, arr_wG, arr_wR, arL_sV, arL_wF, arL_wG, arL_wR, arR_sV, arR_wF, arR_wG, arR_wR, fI_sV (c := 0), fI_sV (c := 1), fI_sV (c := 2), fI_sV (c := 4), fI_sV (c := 5), fI_sV (c := 7), fI_sV (c := 8), fI_sV (c := 9), fI_sV (c := 10), fI_sV (c := 11), fI_sV (c := 12), fI_sV (c := 6), fL_sV (c := 9), fL_sV (c := 12), fI_sV_k, fL_sV_k, fV_sV_k, fI_wF, fI_wG, fI_wR, fL_wF, fL_wG, fL_wR, fV_wF, fV_wG, fV_wR, aF_sV, aG_sV, aR_sV, aF_wG, aF_wR, aG_wF, aG_wR, aR_wF, aR_wG, gO g2, gF g2, ti_lt, tl, true_and]
    refine c_append g2 f2 (by omega) (fun h3 k3 f3 z3 => ?_)
    have g3 := G_fr g2 rfl k3
    try dsimp only [jrI, jrN, jrA, jisr, jnul, jcat1]
    simp (decide := true) only [jgI_ob, jgf_ob, jgL_ob, jpI_ob, jpL_ob, jpR_ob, jpN_ob, jrc_ob, obj_sV, obj_wF, obj_wG, obj_wR, arr_sV, arr_wF, arr_wG, arr_wR, arL_sV, arL_wF, arL_wG, arL_wR, arR_sV, arR_wF, arR_wG, arR_wR, fI_sV (c := 0), fI_sV (c := 1), fI_sV (c := 2), fI_sV (c := 4), fI_sV (c := 5), fI_sV (c := 7), fI_sV (c := 8), fI_sV (c := 9), fI_sV (c := 10), fI_sV (c := 11), fI_sV (c := 12), fI_sV (c := 6), fL_sV (c := 9), fL_sV (c := 12), fI_sV_k, fL_sV_k, fV_sV_k, fI_wF, fI_wG, fI_wR, fL_wF, fL_wG, fL_wR, fV_wF, fV_wG, fV_wR, aF_sV, aG_sV, aR_sV, aF_wG, aF_wR, aG_wF, aG_wR, aR_wF, aR_wG, gO g3, gF g3, ti_lt, tl, true_and]
    refine c_append g3 f3 (by omega) (fun h4 k4 f4 z4 => ?_)
    have g4 := G_fr g3 rfl k4
    try dsimp only [jrI, jrN, jrA, jisr, jnul, jcat1]
    simp (decide := true) only [jgI_ob, jgf_ob, jgL_ob, jpI_ob, jpL_ob, jpR_ob, jpN_ob, jrc_ob, obj_sV, obj_wF, obj_wG, obj_wR, arr_sV, arr_wF, arr_wG, arr_wR, arL_sV, arL_wF, arL_wG, arL_wR, arR_sV, arR_wF, arR_wG, arR_wR, fI_sV (c := 0), fI_sV (c := 1), fI_sV (c := 2), fI_sV (c := 4), fI_sV (c := 5), fI_sV (c := 7), fI_sV (c := 8), fI_sV (c := 9), fI_sV (c := 10), fI_sV (c := 11), fI_sV (c := 12), fI_sV (c := 6), fL_sV (c := 9), fL_sV (c := 12), fI_sV_k, fL_sV_k, fV_sV_k, fI_wF, fI_wG, fI_wR, fL_wF, fL_wG, fL_wR, fV_wF, fV_wG, fV_wR, aF_sV, aG_sV, aR_sV, aF_wG, aF_wR, aG_wF, aG_wR, aR_wF, aR_wG, gO g4, gF g4, ti_lt, tl, true_and]
    refine c_append g4 f4 (by omega) (fun h5 k5 f5 z5 => ?_)
    have g5 := G_fr g4 rfl k5
    try dsimp only [jrI, jrN, jrA, jisr, jnul, jcat1]
    simp (decide := true) only [jgI_ob, jgf_ob, jgL_ob, jpI_ob, jpL_ob, jpR_ob, jpN_ob, jrc_ob, obj_sV, obj_wF, obj_wG, obj_wR, arr_sV, arr_wF, arr_wG, arr_wR, arL_sV, arL_wF, arL_wG, arL_wR, arR_sV, arR_wF, arR_wG, arR_wR, fI_sV (c := 0), fI_sV (c := 1), fI_sV (c := 2), fI_sV (c := 4), fI_sV (c := 5), fI_sV (c := 7), fI_sV (c := 8), fI_sV (c := 9), fI_sV (c := 10), fI_sV (c := 11), fI_sV (c := 12), fI_sV (c := 6), fL_sV (c := 9), fL_sV (c := 12), fI_sV_k, fL_sV_k, fV_sV_k, fI_wF, fI_wG, fI_wR, fL_wF, fL_wG, fL_wR, fV_wF, fV_wG, fV_wR, aF_sV, aG_sV, aR_sV, aF_wG, aF_wR, aG_wF, aG_wR, aR_wF, aR_wG, gO g5, gF g5, ti_lt, tl, true_and]
    refine K _ _ (fun Q2 H => ?_)
    have kk : fr [8] [(7, 1)] h h5 := fr_trans k1 (fr_trans k2 (fr_trans k3 (fr_trans k4 k5)))
    have e81 : fI h5 81 1 = fI h 7 1 := (frI kk (by decide) (by decide)).trans e
    rw [jE_X12_feed]
    refine jT_X12_feed_0 ?_
    simp (decide := true) only [jgI_ob, jgf_ob, jgL_ob, jpI_ob, jpL_ob, jpR_ob, jpN_ob, jrc_ob, obj_sV, obj_wF, obj_wG, obj_wR, arr_sV, arr_wF, arr_wG, arr_wR, arL_sV, arL_wF, arL_wG, arL_wR, arR_sV, arR_wF, arR_wG, arR_wR, fI_sV (c := 0), fI_sV (c := 1), fI_sV (c := 2), fI_sV (c := 4), fI_sV (c := 5), fI_sV (c := 7), fI_sV (c := 8), fI_sV (c := 9), fI_sV (c := 10), fI_sV (c := 11), fI_sV (c := 12), fI_sV (c := 6), fL_sV (c := 9), fL_sV (c := 12), fI_sV_k, fL_sV_k, fV_sV_k, fI_wF, fI_wG, fI_wR, fL_wF, fL_wG, fL_wR, fV_wF, fV_wG, fV_wR, aF_sV, aG_sV, aR_sV, aF_wG, aF_wR, aG_wF, aG_wR, aR_wF, aR_wG, gM g5, ti_lt, tl, e81, es]
    refine jif_n c ?_
    refine c_byteRow g5 (by rw [e81]; exact hs) (by omega) (fun i1 l1 q1 w1 => ?_)
    have j1 := G_fr g5 rfl l1
    try dsimp only [jrI, jrN, jrA, jisr, jnul, jcat1]
    simp (decide := true) only [jgI_ob, jgf_ob, jgL_ob, jpI_ob, jpL_ob, jpR_ob, jpN_ob, jrc_ob, obj_sV, obj_wF, obj_wG, obj_wR, arr_sV, arr_wF, arr_wG, arr_wR, arL_sV, arL_wF, arL_wG, arL_wR, arR_sV, arR_wF, arR_wG, arR_wR, fI_sV (c := 0), fI_sV (c := 1), fI_sV (c := 2), fI_sV (c := 4), fI_sV (c := 5), fI_sV (c := 7), fI_sV (c := 8), fI_sV (c := 9), fI_sV (c := 10), fI_sV (c := 11), fI_sV (c := 12), fI_sV (c := 6), fL_sV (c := 9), fL_sV (c := 12), fI_sV_k, fL_sV_k, fV_sV_k, fI_wF, fI_wG, fI_wR, fL_wF, fL_wG, fL_wR, fV_wF, fV_wG, fV_wR, aF_sV, aG_sV, aR_sV, aF_wG, aF_wR, aG_wF, aG_wR, aR_wF, aR_wG, gM j1, gN j1, ti_lt, tl, true_and]
    refine c_byteRow j1 q1 (by omega) (fun i2 l2 q2 w2 => ?_)
    have j2 := G_fr j1 rfl l2
    try dsimp only [jrI, jrN, jrA, jisr, jnul, jcat1]
    simp (decide := true) only [jgI_ob, jgf_ob, jgL_ob, jpI_ob, jpL_ob, jpR_ob, jpN_ob, jrc_ob, obj_sV, obj_wF, obj_wG, obj_wR, arr_sV, arr_wF, arr_wG, arr_wR, arL_sV, arL_wF, arL_wG, arL_wR, arR_sV, arR_wF, arR_wG, arR_wR, fI_sV (c := 0), fI_sV (c := 1), fI_sV (c := 2), fI_sV (c := 4), fI_sV (c := 5), fI_sV (c := 7), fI_sV (c := 8), fI_sV (c := 9), fI_sV (c := 10), fI_sV (c := 11), fI_sV (c := 12), fI_sV (c := 6), fL_sV (c := 9), fL_sV (c := 12), fI_sV_k, fL_sV_k, fV_sV_k, fI_wF, fI_wG, fI_wR, fL_wF, fL_wG, fL_wR, fV_wF, fV_wG, fV_wR, aF_sV, aG_sV, aR_sV, aF_wG, aF_wR, aG_wF, aG_wR, aR_wF, aR_wG, gM j2, gN j2, ti_lt, tl, true_and]
    refine c_byteRow j2 q2 (by omega) (fun i3 l3 q3 w3 => ?_)
    have j3 := G_fr j2 rfl l3
    try dsimp only [jrI, jrN, jrA, jisr, jnul, jcat1]
    simp (decide := true) only [jgI_ob, jgf_ob, jgL_ob, jpI_ob, jpL_ob, jpR_ob, jpN_ob, jrc_ob, obj_sV, obj_wF, obj_wG, obj_wR, arr_sV, arr_wF, arr_wG, arr_wR, arL_sV, arL_wF, arL_wG, arL_wR, arR_sV, arR_wF, arR_wG, arR_wR, fI_sV (c := 0), fI_sV (c := 1), fI_sV (c := 2), fI_sV (c := 4), fI_sV (c := 5), fI_sV (c := 7), fI_sV (c := 8), fI_sV (c := 9), fI_sV (c := 10), fI_sV (c := 11), fI_sV (c := 12), fI_sV (c := 6), fL_sV (c := 9), fL_sV (c := 12), fI_sV_k, fL_sV_k, fV_sV_k, fI_wF, fI_wG, fI_wR, fL_wF, fL_wG, fL_wR, fV_wF, fV_wG, fV_wR, aF_sV, aG_sV, aR_sV, aF_wG, aF_wR, aG_wF, aG_wR, aR_wF, aR_wG, gM j3, gN j3, ti_lt, tl, true_and]
    refine c_byteRow j3 q3 (by omega) (fun i4 l4 q4 w4 => ?_)
    have j4 := G_fr j3 rfl l4
    try dsimp only [jrI, jrN, jrA, jisr, jnul, jcat1]
    simp (decide := true) only [jgI_ob, jgf_ob, jgL_ob, jpI_ob, jpL_ob, jpR_ob, jpN_ob, jrc_ob, obj_sV, obj_wF, obj_wG, obj_wR, arr_sV, arr_wF, arr_wG, arr_wR, arL_sV, arL_wF, arL_wG, arL_wR, arR_sV, arR_wF, arR_wG, arR_wR, fI_sV (c := 0), fI_sV (c := 1), fI_sV (c := 2), fI_sV (c := 4), fI_sV (c := 5), fI_sV (c := 7), fI_sV (c := 8), fI_sV (c := 9), fI_sV (c := 10), fI_sV (c := 11), fI_sV (c := 12), fI_sV (c := 6), fL_sV (c := 9), fL_sV (c := 12), fI_sV_k, fL_sV_k, fV_sV_k, fI_wF, fI_wG, fI_wR, fL_wF, fL_wG, fL_wR, fV_wF, fV_wG, fV_wR, aF_sV, aG_sV, aR_sV, aF_wG, aF_wR, aG_wF, aG_wR, aR_wF, aR_wG, gM j4, gN j4, ti_lt, tl, true_and]
    refine c_byteRow j4 q4 (by omega) (fun i5 l5 q5 w5 => ?_)
    have j5 := G_fr j4 rfl l5
    try dsimp only [jrI, jrN, jrA, jisr, jnul, jcat1]
    simp (decide := true) only [jgI_ob, jgf_ob, jgL_ob, jpI_ob, jpL_ob, jpR_ob, jpN_ob, jrc_ob, obj_sV, obj_wF, obj_wG, obj_wR, arr_sV, arr_wF, arr_wG, arr_wR, arL_sV, arL_wF, arL_wG, arL_wR, arR_sV, arR_wF, arR_wG, arR_wR, fI_sV (c := 0), fI_sV (c := 1), fI_sV (c := 2), fI_sV (c := 4), fI_sV (c := 5), fI_sV (c := 7), fI_sV (c := 8), fI_sV (c := 9), fI_sV (c := 10), fI_sV (c := 11), fI_sV (c := 12), fI_sV (c := 6), fL_sV (c := 9), fL_sV (c := 12), fI_sV_k, fL_sV_k, fV_sV_k, fI_wF, fI_wG, fI_wR, fL_wF, fL_wG, fL_wR, fV_wF, fV_wG, fV_wR, aF_sV, aG_sV, aR_sV, aF_wG, aF_wR, aG_wF, aG_wR, aR_wF, aR_wG, gM j5, gN j5, ti_lt, tl, true_and]
    have ll : fr [82] [(81, 1)] h5 i5 := fr_trans l1 (fr_trans l2 (fr_trans l3 (fr_trans l4 l5)))
    have e7 : fI i5 7 1 = fI h5 7 1 := frI ll (by decide) (by decide)
    have e8 : aF i5 8 = aF h5 8 := frF ll (by decide)
    have e82 : aF h5 82 = aF h 82 := frF kk (by decide)
    have ey : fI i5 81 1 = fI h5 7 1 := by rw [ti_eq, q5, f5]
    rw [ey]
    refine H _ ⟨fr_trans (fr_mono (by decide) (by decide) kk) (fr_mono (by decide) (by decide) ll), ?_⟩
    refine ⟨ey.trans e7.symm, by rw [e7, f5]; omega, by rw [e7, f5]; omega, fun i hi => ?_⟩
    rw [e7, f5] at hi
    rw [e8, w5, w4, w3, w2, w1, z5, z4, z3, z2, z1, e82]
    refine apW_R (apW_R (apW_R (apW_R (apW_R (fun i hi => ?_))))) i (by omega)
    exact x2 i (by omega)
end CA2
