/-! FACTS -/
section FCT
variable {X : JX} {h : JH} {n : Nat} {m ρ τ f : Nat → Nat} {b t : Nat → Bool} {fl : Nat → Nat → Int}
/-- a mark of a scale of fold F: its decade, its digits -/
def MK (F : Nat) (a e : Int32) : Prop := ∃ n x y : Nat, a.toInt = x ∧ e.toInt = y ∧ 100 ≤ y ∧ y ≤ 999 ∧ n + 100 = 900 * x + y ∧ n ≤ 900 * F
theorem c_slot {d : Nat} {Q : JQ} {a p : Int32} {o : Nat} (ho : a.toInt = o) (h8 : o ≤ 8) (p0 : 0 ≤ p.toInt) (p1 : p.toInt ≤ 4096) (H : ∀ r : Int32, r.toInt = 16 * (o : Int) + min (p.toInt / 256) 15 → Q (some (.int r)) h) : jex X (d + 3) 272 [.int a, .int p] h Q := by
  rw [jE_X0_slot]
  refine jT_X0_slot_0 ?_
  rw [jE_X8_stretchOf]
  refine jT_X8_stretchOf_0 (c_min ?_)
  try dsimp only [jrI, jrN, jrA, jisr, jnul, jcat1]
  refine H _ ?_
  rw [ti_shr8, show (15 : Int32).toInt = 15 from rfl]
  have e : (zI (min (p.toInt / 256) 15)).toInt = min (p.toInt / 256) 15 := zt (by omega) (by omega)
  have e2 : (a * 16).toInt = 16 * (o : Int) := (by simp only [Int32.toInt_add, Int32.toInt_sub, Int32.toInt_mul, Int32.toInt_neg, Int.bmod_def, tl]; omega)
  rw [ti_add (by omega) (by omega), e, e2]
theorem FA1_up {h2 : JH} {i : Nat} (E : ∀ p, p ∈ [72, 73, 74, 75, 76, 118, 119, 120, 121, 122, 123, 124] → aF h2 p i = aF h p i) (x : FA1 h n m f t i) : FA1 h2 n m f t i := by
  unfold FA1 at *
  rw [E 72 (by decide), E 73 (by decide), E 74 (by decide), E 75 (by decide), E 76 (by decide), E 118 (by decide), E 119 (by decide), E 120 (by decide), E 121 (by decide), E 122 (by decide), E 123 (by decide), E 124 (by decide)]
  exact x
theorem a_shown (g : G h) (x : RB h n m ρ τ b f t fl) (fa : FA h n m f t) {a1 a2 a3 a4 a5 a6 a7 : Int32} : AGR X 271 275 [.int a1, .int a2, .int a3, .int a4, .int a5, .int a6, .int a7] h (fun h2 => fr [72, 73, 74, 75, 76, 118, 119, 120, 121, 122, 123, 124] [(71, 5), (81, 74)] h h2 ∧ FA h2 n m f t) := by
  obtain ⟨ec, c0, c80, fa1⟩ := id fa
  intro Q K
  rw [jE_X11_shown]
  refine jT_X11_shown_0 ?_
  have bad : ¬ ((fI h 71 5).toInt < 80 ∧ ∃ r s u : Nat, r < n ∧ s < m r ∧ u < m r ∧ a1.toInt = r ∧ a2.toInt = s ∧ a5.toInt = u ∧ a2 ≠ a5 ∧ MK (f (8 * r + s)) a3 a4 ∧ MK (f (8 * r + u)) a6 a7) → Q (some (.int (-1))) h := by
    intro cc
    refine K _ _ (fun Q2 H => ?_)
    have HH := H _ ⟨fr_rfl, fa⟩
    rw [jE_X12_shown]
    refine jT_X12_shown_0 ?_
    simp (decide := true) only [jgI_ob, jgf_ob, jgL_ob, jpI_ob, jpL_ob, jpR_ob, jpN_ob, jrc_ob, obj_sV, obj_wF, obj_wG, obj_wR, arr_sV, arr_wF, arr_wG, arr_wR, arL_sV, arL_wF, arL_wG, arL_wR, arR_sV, arR_wF, arR_wG, arR_wR, fI_sV (c := 0), fI_sV (c := 1), fI_sV (c := 2), fI_sV (c := 4), fI_sV (c := 5), fI_sV (c := 7), fI_sV (c := 8), fI_sV (c := 9), fI_sV (c := 10), fI_sV (c := 11), fI_sV (c := 12), fI_sV (c := 6), fL_sV (c := 9), fL_sV (c := 12), fI_sV_k, fL_sV_k, fV_sV_k, fI_wF, fI_wG, fI_wR, fL_wF, fL_wG, fL_wR, fV_wF, fV_wG, fV_wR, aF_sV, aG_sV, aR_sV, aF_wG, aF_wR, aG_wF, aG_wR, aR_wF, aR_wG, gM g, ec]
    refine ⟨fun _ => HH, fun q0 => ?_⟩
    rw [ti_eq, show (80 : Int32).toInt = 80 from rfl] at q0
    refine c_isScale g x (fun _ => jif_t rfl HH) (fun r s hr hs er es => jif_n (by decide) ?_)
    simp (decide := true) only [jgI_ob, jgf_ob, jgL_ob, jpI_ob, jpL_ob, jpR_ob, jpN_ob, jrc_ob, obj_sV, obj_wF, obj_wG, obj_wR, arr_sV, arr_wF, arr_wG, arr_wR, arL_sV, arL_wF, arL_wG, arL_wR, arR_sV, arR_wF, arR_wG, arR_wR, fI_sV (c := 0), fI_sV (c := 1), fI_sV (c := 2), fI_sV (c := 4), fI_sV (c := 5), fI_sV (c := 7), fI_sV (c := 8), fI_sV (c := 9), fI_sV (c := 10), fI_sV (c := 11), fI_sV (c := 12), fI_sV (c := 6), fL_sV (c := 9), fL_sV (c := 12), fI_sV_k, fL_sV_k, fV_sV_k, fI_wF, fI_wG, fI_wR, fL_wF, fL_wG, fL_wR, fV_wF, fV_wG, fV_wR, aF_sV, aG_sV, aR_sV, aF_wG, aF_wR, aG_wF, aG_wR, aR_wF, aR_wG, gM g, gN g, ti_lt, tl, true_and]
    refine c_isScale g x (fun _ => jif_t rfl HH) (fun r' u hr' hu er' eu => jif_n (by decide) ?_)
    refine ⟨fun _ => HH, fun q1 => ?_⟩
    simp (decide := true) only [jgI_ob, jgf_ob, jgL_ob, jpI_ob, jpL_ob, jpR_ob, jpN_ob, jrc_ob, obj_sV, obj_wF, obj_wG, obj_wR, arr_sV, arr_wF, arr_wG, arr_wR, arL_sV, arL_wF, arL_wG, arL_wR, arR_sV, arR_wF, arR_wG, arR_wR, fI_sV (c := 0), fI_sV (c := 1), fI_sV (c := 2), fI_sV (c := 4), fI_sV (c := 5), fI_sV (c := 7), fI_sV (c := 8), fI_sV (c := 9), fI_sV (c := 10), fI_sV (c := 11), fI_sV (c := 12), fI_sV (c := 6), fL_sV (c := 9), fL_sV (c := 12), fI_sV_k, fL_sV_k, fV_sV_k, fI_wF, fI_wG, fI_wR, fL_wF, fL_wG, fL_wR, fV_wF, fV_wG, fV_wR, aF_sV, aG_sV, aR_sV, aF_wG, aF_wR, aG_wF, aG_wR, aR_wF, aR_wG, gM g, gN g, ti_lt, tl, true_and]
    have e0 : r' = r := by omega
    subst e0
    have nn := x.1
    have mm := (x.2.2.2.1 r' hr').1
    refine c_isMark g (x.2.2.2.2.1 r' s hr' hs).2.2.2 (ix8 (by omega) (by omega) er es) (fun _ => jif_t rfl HH) (fun n1 x1 y1 p1 p2 p3 p4 p5 p6 => jif_n (by decide) ?_)
    simp (decide := true) only [jgI_ob, jgf_ob, jgL_ob, jpI_ob, jpL_ob, jpR_ob, jpN_ob, jrc_ob, obj_sV, obj_wF, obj_wG, obj_wR, arr_sV, arr_wF, arr_wG, arr_wR, arL_sV, arL_wF, arL_wG, arL_wR, arR_sV, arR_wF, arR_wG, arR_wR, fI_sV (c := 0), fI_sV (c := 1), fI_sV (c := 2), fI_sV (c := 4), fI_sV (c := 5), fI_sV (c := 7), fI_sV (c := 8), fI_sV (c := 9), fI_sV (c := 10), fI_sV (c := 11), fI_sV (c := 12), fI_sV (c := 6), fL_sV (c := 9), fL_sV (c := 12), fI_sV_k, fL_sV_k, fV_sV_k, fI_wF, fI_wG, fI_wR, fL_wF, fL_wG, fL_wR, fV_wF, fV_wG, fV_wR, aF_sV, aG_sV, aR_sV, aF_wG, aF_wR, aG_wF, aG_wR, aR_wF, aR_wG, gM g, gN g, ti_lt, tl, true_and]
    refine c_isMark g (x.2.2.2.2.1 r' u hr' hu).2.2.2 (ix8 (by omega) (by omega) er' eu) (fun _ => jif_t rfl HH) (fun n2 x2 y2 s1 s2 s3 s4 s5 s6 => jif_n (by decide) ?_)
    exact absurd ⟨by omega, r', s, u, hr', hs, hu, er, es, eu, q1, ⟨n1, x1, y1, p1, p2, p3, p4, p5, p6⟩, ⟨n2, x2, y2, s1, s2, s3, s4, s5, s6⟩⟩ cc
  simp (decide := true) only [jgI_ob, jgf_ob, jgL_ob, jpI_ob, jpL_ob, jpR_ob, jpN_ob, jrc_ob, obj_sV, obj_wF, obj_wG, obj_wR, arr_sV, arr_wF, arr_wG, arr_wR, arL_sV, arL_wF, arL_wG, arL_wR, arR_sV, arR_wF, arR_wG, arR_wR, fI_sV (c := 0), fI_sV (c := 1), fI_sV (c := 2), fI_sV (c := 4), fI_sV (c := 5), fI_sV (c := 7), fI_sV (c := 8), fI_sV (c := 9), fI_sV (c := 10), fI_sV (c := 11), fI_sV (c := 12), fI_sV (c := 6), fL_sV (c := 9), fL_sV (c := 12), fI_sV_k, fL_sV_k, fV_sV_k, fI_wF, fI_wG, fI_wR, fL_wF, fL_wG, fL_wR, fV_wF, fV_wG, fV_wR, aF_sV, aG_sV, aR_sV, aF_wG, aF_wR, aG_wF, aG_wR, aR_wF, aR_wG, gO g, gF g, ti_lt, tl, true_and]
  refine c_scaleAt g x (fun c => ?_) (fun r s hr hs er es => ?_)
  · try dsimp only [jrI, jrN, jrA, jisr, jnul, jcat1]
    simp (decide := true) only [jgI_ob, jgf_ob, jgL_ob, jpI_ob, jpL_ob, jpR_ob, jpN_ob, jrc_ob, obj_sV, obj_wF, obj_wG, obj_wR, arr_sV, arr_wF, arr_wG, arr_wR, arL_sV, arL_wF, arL_wG, arL_wR, arR_sV, arR_wF, arR_wG, arR_wR, fI_sV (c := 0), fI_sV (c := 1), fI_sV (c := 2), fI_sV (c := 4), fI_sV (c := 5), fI_sV (c := 7), fI_sV (c := 8), fI_sV (c := 9), fI_sV (c := 10), fI_sV (c := 11), fI_sV (c := 12), fI_sV (c := 6), fL_sV (c := 9), fL_sV (c := 12), fI_sV_k, fL_sV_k, fV_sV_k, fI_wF, fI_wG, fI_wR, fL_wF, fL_wG, fL_wR, fV_wF, fV_wG, fV_wR, aF_sV, aG_sV, aR_sV, aF_wG, aF_wR, aG_wF, aG_wR, aR_wF, aR_wG, gO g, gF g, ti_lt, tl, true_and]
    have hb : Q (some (.int (-1))) h := bad (fun ⟨_, r, s, u, q1, q2, q3, q4, q5, q6, q7, q8, q9⟩ => c ⟨r, s, q1, q2, q4, q5⟩)
    refine c_scaleAt g x (fun _ => ?_) (fun _ _ _ _ _ _ => ?_)
    · try dsimp only [jrI, jrN, jrA, jisr, jnul, jcat1]
      exact hb
    · try dsimp only [jrI, jrN, jrA, jisr, jnul, jcat1]
      exact hb
  · try dsimp only [jrI, jrN, jrA, jisr, jnul, jcat1]
    simp (decide := true) only [jgI_ob, jgf_ob, jgL_ob, jpI_ob, jpL_ob, jpR_ob, jpN_ob, jrc_ob, obj_sV, obj_wF, obj_wG, obj_wR, arr_sV, arr_wF, arr_wG, arr_wR, arL_sV, arL_wF, arL_wG, arL_wR, arR_sV, arR_wF, arR_wG, arR_wR, fI_sV (c := 0), fI_sV (c := 1), fI_sV (c := 2), fI_sV (c := 4), fI_sV (c := 5), fI_sV (c := 7), fI_sV (c := 8), fI_sV (c := 9), fI_sV (c := 10), fI_sV (c := 11), fI_sV (c := 12), fI_sV (c := 6), fL_sV (c := 9), fL_sV (c := 12), fI_sV_k, fL_sV_k, fV_sV_k, fI_wF, fI_wG, fI_wR, fL_wF, fL_wG, fL_wR, fV_wF, fV_wG, fV_wR, aF_sV, aG_sV, aR_sV, aF_wG, aF_wR, aG_wF, aG_wR, aR_wF, aR_wG, gO g, gF g, ti_lt, tl, true_and]
    have nn := x.1
    have mm := (x.2.2.2.1 r hr).1
    obtain ⟨w1, w2, sc, sm⟩ := x.2.2.2.2.1 r s hr hs
    refine c_scaleAt g x (fun c => ?_) (fun r' u hr' hu er' eu => ?_)
    · try dsimp only [jrI, jrN, jrA, jisr, jnul, jcat1]
      exact bad (fun ⟨_, r1, s1, u1, q1, q2, q3, q4, q5, q6, q7, q8, q9⟩ => c ⟨r1, u1, q1, q3, q4, q6⟩)
    · have e0 : r' = r := by omega
      subst e0
      obtain ⟨w3, w4, sc2, sm2⟩ := x.2.2.2.2.1 r' u hr' hu
      try dsimp only [jrI, jrN, jrA, jisr, jnul, jcat1]
      refine ⟨fun c => bad (fun ⟨_, r1, s1, u1, q1, q2, q3, q4, q5, q6, q7, q8, q9⟩ => q7 c), fun cne => ?_⟩
      rw [jrc_ob sc.1]
      refine c_hasMark sc (fun c => ?_) (fun j1 x1 y1 p1 p2 p3 p4 p5 p6 => ?_)
      · refine jif_t rfl (bad (fun ⟨_, r1, s1, u1, q1, q2, q3, q4, q5, q6, q7, q8, q9⟩ => c ?_))
        have e1 : r1 = r' := by omega
        have e2 : s1 = s := by omega
        subst e1 e2
        exact q8
      try dsimp only [jrI, jrN, jrA, jisr, jnul, jcat1]
      refine jif_n (by decide) ?_
      rw [jrc_ob sc2.1]
      refine c_hasMark sc2 (fun c => ?_) (fun j2 x2 y2 s1 s2 s3 s4 s5 s6 => ?_)
      · refine jif_t rfl (bad (fun ⟨_, r1, s1, u1, q1, q2, q3, q4, q5, q6, q7, q8, q9⟩ => c ?_))
        have e1 : r1 = r' := by omega
        have e2 : u1 = u := by omega
        subst e1 e2
        exact q9
      try dsimp only [jrI, jrN, jrA, jisr, jnul, jcat1]
      refine jif_n (by decide) ?_
      have F3 := sc.2.2.1
      have F32 := sc2.2.2.1
      refine c_markFor (by omega) (by omega) (fun k1 hk1 => ?_)
      try dsimp only [jrI, jrN, jrA, jisr, jnul, jcat1]
      rw [jrc_ob sc.1]
      refine c_truePlace (n := j1) g sc (by omega) p6 (fun v1 hv1 => ?_)
      try dsimp only [jrI, jrN, jrA, jisr, jnul, jcat1]
      refine c_markFor (by omega) (by omega) (fun k2 hk2 => ?_)
      try dsimp only [jrI, jrN, jrA, jisr, jnul, jcat1]
      rw [jrc_ob sc2.1]
      refine c_truePlace (n := j2) g sc2 (by omega) s6 (fun v2 hv2 => ?_)
      try dsimp only [jrI, jrN, jrA, jisr, jnul, jcat1]
      have g1 := tp_rg (t := t (8 * r' + s)) sc.2.1 p6
      have g2 := tp_rg (t := t (8 * r' + u)) sc2.2.1 s6
      simp (decide := true) only [jgI_ob, jgf_ob, jgL_ob, jpI_ob, jpL_ob, jpR_ob, jpN_ob, jrc_ob, obj_sV, obj_wF, obj_wG, obj_wR, arr_sV, arr_wF, arr_wG, arr_wR, arL_sV, arL_wF, arL_wG, arL_wR, arR_sV, arR_wF, arR_wG, arR_wR, fI_sV (c := 0), fI_sV (c := 1), fI_sV (c := 2), fI_sV (c := 4), fI_sV (c := 5), fI_sV (c := 7), fI_sV (c := 8), fI_sV (c := 9), fI_sV (c := 10), fI_sV (c := 11), fI_sV (c := 12), fI_sV (c := 6), fL_sV (c := 9), fL_sV (c := 12), fI_sV_k, fL_sV_k, fV_sV_k, fI_wF, fI_wG, fI_wR, fL_wF, fL_wG, fL_wR, fV_wF, fV_wG, fV_wR, aF_sV, aG_sV, aR_sV, aF_wG, aF_wR, aG_wF, aG_wR, aR_wF, aR_wG, gO g, gF g, ti_lt, tl, true_and]
      refine c_slot es (by omega) (by omega) (by omega) (fun o1 ho1 => ?_)
      try dsimp only [jrI, jrN, jrA, jisr, jnul, jcat1]
      refine c_slot eu (by omega) (by omega) (by omega) (fun o2 ho2 => ?_)
      try dsimp only [jrI, jrN, jrA, jisr, jnul, jcat1]
      simp (decide := true) only [jgI_ob, jgf_ob, jgL_ob, jpI_ob, jpL_ob, jpR_ob, jpN_ob, jrc_ob, obj_sV, obj_wF, obj_wG, obj_wR, arr_sV, arr_wF, arr_wG, arr_wR, arL_sV, arL_wF, arL_wG, arL_wR, arR_sV, arR_wF, arR_wG, arR_wR, fI_sV (c := 0), fI_sV (c := 1), fI_sV (c := 2), fI_sV (c := 4), fI_sV (c := 5), fI_sV (c := 7), fI_sV (c := 8), fI_sV (c := 9), fI_sV (c := 10), fI_sV (c := 11), fI_sV (c := 12), fI_sV (c := 6), fL_sV (c := 9), fL_sV (c := 12), fI_sV_k, fL_sV_k, fV_sV_k, fI_wF, fI_wG, fI_wR, fL_wF, fL_wG, fL_wR, fV_wF, fV_wG, fV_wR, aF_sV, aG_sV, aR_sV, aF_wG, aF_wR, aG_wF, aG_wR, aR_wF, aR_wG, gO g, gF g, ti_lt, tl, true_and]
      rw [jE_X0_addShown]
      refine jT_X0_addShown_0 ?_
      simp (decide := true) only [jgI_ob, jgf_ob, jgL_ob, jpI_ob, jpL_ob, jpR_ob, jpN_ob, jrc_ob, obj_sV, obj_wF, obj_wG, obj_wR, arr_sV, arr_wF, arr_wG, arr_wR, arL_sV, arL_wF, arL_wG, arL_wR, arR_sV, arR_wF, arR_wG, arR_wR, fI_sV (c := 0), fI_sV (c := 1), fI_sV (c := 2), fI_sV (c := 4), fI_sV (c := 5), fI_sV (c := 7), fI_sV (c := 8), fI_sV (c := 9), fI_sV (c := 10), fI_sV (c := 11), fI_sV (c := 12), fI_sV (c := 6), fL_sV (c := 9), fL_sV (c := 12), fI_sV_k, fL_sV_k, fV_sV_k, fI_wF, fI_wG, fI_wR, fL_wF, fL_wG, fL_wR, fV_wF, fV_wG, fV_wR, aF_sV, aG_sV, aR_sV, aF_wG, aF_wR, aG_wF, aG_wR, aR_wF, aR_wG, kC, kM, gO g, gF g, ti_lt, tl, aF_wF_ne, ti_clamp]
      refine ⟨fun cl => ?_, fun cl => bad (fun ⟨q, _⟩ => cl q)⟩
      have iv : vp_in (fI h 71 5) 80 := by rw [vp_inI]; omega
      refine ⟨iv, iv, iv, iv, iv, ?_⟩
      try dsimp only [jrI, jrN, jrA, jisr, jnul, jcat1]
      refine K _ _ (fun Q2 H => ?_)
      refine (fun S : (∀ hh, hh = _ → jex X 10 _ _ hh Q2) => S _ rfl) (fun hh e => ?_)
      have kk : fr [72, 73, 74, 75, 76, 118, 119, 120, 121, 122, 123, 124] [(71, 5), (81, 74)] h hh := by
        rw [e]
        exact fr_sV (by decide) (fr_wF (by decide) (fr_wF (by decide) (fr_wF (by decide) (fr_wF (by decide) (fr_wF (by decide) fr_rfl)))))
      have g3 := G_fr g rfl kk
      have xx := RB_fr x kk rfl
      have b72 : aF hh 72 = upd (aF h 72) (fI h 71 5).toInt.toNat a1 := by
        rw [e]; simp (decide := true) only [jgI_ob, jgf_ob, jgL_ob, jpI_ob, jpL_ob, jpR_ob, jpN_ob, jrc_ob, obj_sV, obj_wF, obj_wG, obj_wR, arr_sV, arr_wF, arr_wG, arr_wR, arL_sV, arL_wF, arL_wG, arL_wR, arR_sV, arR_wF, arR_wG, arR_wR, fI_sV (c := 0), fI_sV (c := 1), fI_sV (c := 2), fI_sV (c := 4), fI_sV (c := 5), fI_sV (c := 7), fI_sV (c := 8), fI_sV (c := 9), fI_sV (c := 10), fI_sV (c := 11), fI_sV (c := 12), fI_sV (c := 6), fL_sV (c := 9), fL_sV (c := 12), fI_sV_k, fL_sV_k, fV_sV_k, fI_wF, fI_wG, fI_wR, fL_wF, fL_wG, fL_wR, fV_wF, fV_wG, fV_wR, aF_sV, aG_sV, aR_sV, aF_wG, aF_wR, aG_wF, aG_wR, aR_wF, aR_wG, kC, kM, gO g, aF_wF_ne]
      have b73 : aF hh 73 = upd (aF h 73) (fI h 71 5).toInt.toNat (v1 - v2) := by
        rw [e]; simp (decide := true) only [jgI_ob, jgf_ob, jgL_ob, jpI_ob, jpL_ob, jpR_ob, jpN_ob, jrc_ob, obj_sV, obj_wF, obj_wG, obj_wR, arr_sV, arr_wF, arr_wG, arr_wR, arL_sV, arL_wF, arL_wG, arL_wR, arR_sV, arR_wF, arR_wG, arR_wR, fI_sV (c := 0), fI_sV (c := 1), fI_sV (c := 2), fI_sV (c := 4), fI_sV (c := 5), fI_sV (c := 7), fI_sV (c := 8), fI_sV (c := 9), fI_sV (c := 10), fI_sV (c := 11), fI_sV (c := 12), fI_sV (c := 6), fL_sV (c := 9), fL_sV (c := 12), fI_sV_k, fL_sV_k, fV_sV_k, fI_wF, fI_wG, fI_wR, fL_wF, fL_wG, fL_wR, fV_wF, fV_wG, fV_wR, aF_sV, aG_sV, aR_sV, aF_wG, aF_wR, aG_wF, aG_wR, aR_wF, aR_wG, kC, kM, gO g, aF_wF_ne]
      have b74 : aF hh 74 = upd (aF h 74) (fI h 71 5).toInt.toNat o1 := by
        rw [e]; simp (decide := true) only [jgI_ob, jgf_ob, jgL_ob, jpI_ob, jpL_ob, jpR_ob, jpN_ob, jrc_ob, obj_sV, obj_wF, obj_wG, obj_wR, arr_sV, arr_wF, arr_wG, arr_wR, arL_sV, arL_wF, arL_wG, arL_wR, arR_sV, arR_wF, arR_wG, arR_wR, fI_sV (c := 0), fI_sV (c := 1), fI_sV (c := 2), fI_sV (c := 4), fI_sV (c := 5), fI_sV (c := 7), fI_sV (c := 8), fI_sV (c := 9), fI_sV (c := 10), fI_sV (c := 11), fI_sV (c := 12), fI_sV (c := 6), fL_sV (c := 9), fL_sV (c := 12), fI_sV_k, fL_sV_k, fV_sV_k, fI_wF, fI_wG, fI_wR, fL_wF, fL_wG, fL_wR, fV_wF, fV_wG, fV_wR, aF_sV, aG_sV, aR_sV, aF_wG, aF_wR, aG_wF, aG_wR, aR_wF, aR_wG, kC, kM, gO g, aF_wF_ne]
      have b75 : aF hh 75 = upd (aF h 75) (fI h 71 5).toInt.toNat o2 := by
        rw [e]; simp (decide := true) only [jgI_ob, jgf_ob, jgL_ob, jpI_ob, jpL_ob, jpR_ob, jpN_ob, jrc_ob, obj_sV, obj_wF, obj_wG, obj_wR, arr_sV, arr_wF, arr_wG, arr_wR, arL_sV, arL_wF, arL_wG, arL_wR, arR_sV, arR_wF, arR_wG, arR_wR, fI_sV (c := 0), fI_sV (c := 1), fI_sV (c := 2), fI_sV (c := 4), fI_sV (c := 5), fI_sV (c := 7), fI_sV (c := 8), fI_sV (c := 9), fI_sV (c := 10), fI_sV (c := 11), fI_sV (c := 12), fI_sV (c := 6), fL_sV (c := 9), fL_sV (c := 12), fI_sV_k, fL_sV_k, fV_sV_k, fI_wF, fI_wG, fI_wR, fL_wF, fL_wG, fL_wR, fV_wF, fV_wG, fV_wR, aF_sV, aG_sV, aR_sV, aF_wG, aF_wR, aG_wF, aG_wR, aR_wF, aR_wG, kC, kM, gO g, aF_wF_ne]
      have b76 : aF hh 76 = upd (aF h 76) (fI h 71 5).toInt.toNat (-1) := by
        rw [e]; simp (decide := true) only [jgI_ob, jgf_ob, jgL_ob, jpI_ob, jpL_ob, jpR_ob, jpN_ob, jrc_ob, obj_sV, obj_wF, obj_wG, obj_wR, arr_sV, arr_wF, arr_wG, arr_wR, arL_sV, arL_wF, arL_wG, arL_wR, arR_sV, arR_wF, arR_wG, arR_wR, fI_sV (c := 0), fI_sV (c := 1), fI_sV (c := 2), fI_sV (c := 4), fI_sV (c := 5), fI_sV (c := 7), fI_sV (c := 8), fI_sV (c := 9), fI_sV (c := 10), fI_sV (c := 11), fI_sV (c := 12), fI_sV (c := 6), fL_sV (c := 9), fL_sV (c := 12), fI_sV_k, fL_sV_k, fV_sV_k, fI_wF, fI_wG, fI_wR, fL_wF, fL_wG, fL_wR, fV_wF, fV_wG, fV_wR, aF_sV, aG_sV, aR_sV, aF_wG, aF_wR, aG_wF, aG_wR, aR_wF, aR_wG, kC, kM, gO g, aF_wF_ne]
      have bc : fI hh 71 5 = fI h 71 5 + 1 := by
        rw [e]; simp (decide := true) only [jgI_ob, jgf_ob, jgL_ob, jpI_ob, jpL_ob, jpR_ob, jpN_ob, jrc_ob, obj_sV, obj_wF, obj_wG, obj_wR, arr_sV, arr_wF, arr_wG, arr_wR, arL_sV, arL_wF, arL_wG, arL_wR, arR_sV, arR_wF, arR_wG, arR_wR, fI_sV (c := 0), fI_sV (c := 1), fI_sV (c := 2), fI_sV (c := 4), fI_sV (c := 5), fI_sV (c := 7), fI_sV (c := 8), fI_sV (c := 9), fI_sV (c := 10), fI_sV (c := 11), fI_sV (c := 12), fI_sV (c := 6), fL_sV (c := 9), fL_sV (c := 12), fI_sV_k, fL_sV_k, fV_sV_k, fI_wF, fI_wG, fI_wR, fL_wF, fL_wG, fL_wR, fV_wF, fV_wG, fV_wR, aF_sV, aG_sV, aR_sV, aF_wG, aF_wR, aG_wF, aG_wR, aR_wF, aR_wG, kC, kM, gO g]
      have bo : ∀ p, p ∈ [118, 119, 120, 121, 122, 123, 124] → aF hh p = aF h p := by
        rw [e]
        intro p hp
        rcases (show p = 118 ∨ p = 119 ∨ p = 120 ∨ p = 121 ∨ p = 122 ∨ p = 123 ∨ p = 124 by simpa using hp) with q | q | q | q | q | q | q <;> subst q <;> simp (decide := true) only [jgI_ob, jgf_ob, jgL_ob, jpI_ob, jpL_ob, jpR_ob, jpN_ob, jrc_ob, obj_sV, obj_wF, obj_wG, obj_wR, arr_sV, arr_wF, arr_wG, arr_wR, arL_sV, arL_wF, arL_wG, arL_wR, arR_sV, arR_wF, arR_wG, arR_wR, fI_sV (c := 0), fI_sV (c := 1), fI_sV (c := 2), fI_sV (c := 4), fI_sV (c := 5), fI_sV (c := 7), fI_sV (c := 8), fI_sV (c := 9), fI_sV (c := 10), fI_sV (c := 11), fI_sV (c := 12), fI_sV (c := 6), fL_sV (c := 9), fL_sV (c := 12), fI_sV_k, fL_sV_k, fV_sV_k, fI_wF, fI_wG, fI_wR, fL_wF, fL_wG, fL_wR, fV_wF, fV_wG, fV_wR, aF_sV, aG_sV, aR_sV, aF_wG, aF_wR, aG_wF, aG_wR, aR_wF, aR_wG, aF_wF_ne]
      have ec3 : fI hh 81 74 = fI h 71 5 := by
        rw [e]; simp (decide := true) only [jgI_ob, jgf_ob, jgL_ob, jpI_ob, jpL_ob, jpR_ob, jpN_ob, jrc_ob, obj_sV, obj_wF, obj_wG, obj_wR, arr_sV, arr_wF, arr_wG, arr_wR, arL_sV, arL_wF, arL_wG, arL_wR, arR_sV, arR_wF, arR_wG, arR_wR, fI_sV (c := 0), fI_sV (c := 1), fI_sV (c := 2), fI_sV (c := 4), fI_sV (c := 5), fI_sV (c := 7), fI_sV (c := 8), fI_sV (c := 9), fI_sV (c := 10), fI_sV (c := 11), fI_sV (c := 12), fI_sV (c := 6), fL_sV (c := 9), fL_sV (c := 12), fI_sV_k, fL_sV_k, fV_sV_k, fI_wF, fI_wG, fI_wR, fL_wF, fL_wG, fL_wR, fV_wF, fV_wG, fV_wR, aF_sV, aG_sV, aR_sV, aF_wG, aF_wR, aG_wF, aG_wR, aR_wF, aR_wG, fI_sV_ne]; exact ec
      clear e
      rw [jE_X12_shown]
      refine jT_X12_shown_0 ?_
      simp (decide := true) only [jgI_ob, jgf_ob, jgL_ob, jpI_ob, jpL_ob, jpR_ob, jpN_ob, jrc_ob, obj_sV, obj_wF, obj_wG, obj_wR, arr_sV, arr_wF, arr_wG, arr_wR, arL_sV, arL_wF, arL_wG, arL_wR, arR_sV, arR_wF, arR_wG, arR_wR, fI_sV (c := 0), fI_sV (c := 1), fI_sV (c := 2), fI_sV (c := 4), fI_sV (c := 5), fI_sV (c := 7), fI_sV (c := 8), fI_sV (c := 9), fI_sV (c := 10), fI_sV (c := 11), fI_sV (c := 12), fI_sV (c := 6), fL_sV (c := 9), fL_sV (c := 12), fI_sV_k, fL_sV_k, fV_sV_k, fI_wF, fI_wG, fI_wR, fL_wF, fL_wG, fL_wR, fV_wF, fV_wG, fV_wR, aF_sV, aG_sV, aR_sV, aF_wG, aF_wR, aG_wF, aG_wR, aR_wF, aR_wG, gM g3, ec3]
      refine jif_n (by rw [ti_eq, show (80 : Int32).toInt = 80 from rfl]; omega) ?_
      refine c_isScale g3 xx (fun c9 => absurd ⟨r', s, hr, hs, er, es⟩ c9) (fun _ _ _ _ _ _ => ?_)
      refine jif_n (by decide) ?_
      simp (decide := true) only [jgI_ob, jgf_ob, jgL_ob, jpI_ob, jpL_ob, jpR_ob, jpN_ob, jrc_ob, obj_sV, obj_wF, obj_wG, obj_wR, arr_sV, arr_wF, arr_wG, arr_wR, arL_sV, arL_wF, arL_wG, arL_wR, arR_sV, arR_wF, arR_wG, arR_wR, fI_sV (c := 0), fI_sV (c := 1), fI_sV (c := 2), fI_sV (c := 4), fI_sV (c := 5), fI_sV (c := 7), fI_sV (c := 8), fI_sV (c := 9), fI_sV (c := 10), fI_sV (c := 11), fI_sV (c := 12), fI_sV (c := 6), fL_sV (c := 9), fL_sV (c := 12), fI_sV_k, fL_sV_k, fV_sV_k, fI_wF, fI_wG, fI_wR, fL_wF, fL_wG, fL_wR, fV_wF, fV_wG, fV_wR, aF_sV, aG_sV, aR_sV, aF_wG, aF_wR, aG_wF, aG_wR, aR_wF, aR_wG, gM g3, gN g3, ti_lt, tl, true_and]
      refine c_isScale g3 xx (fun c9 => absurd ⟨r', u, hr, hu, er, eu⟩ c9) (fun _ _ _ _ _ _ => ?_)
      refine jif_n (by decide) (jif_n cne ?_)
      simp (decide := true) only [jgI_ob, jgf_ob, jgL_ob, jpI_ob, jpL_ob, jpR_ob, jpN_ob, jrc_ob, obj_sV, obj_wF, obj_wG, obj_wR, arr_sV, arr_wF, arr_wG, arr_wR, arL_sV, arL_wF, arL_wG, arL_wR, arR_sV, arR_wF, arR_wG, arR_wR, fI_sV (c := 0), fI_sV (c := 1), fI_sV (c := 2), fI_sV (c := 4), fI_sV (c := 5), fI_sV (c := 7), fI_sV (c := 8), fI_sV (c := 9), fI_sV (c := 10), fI_sV (c := 11), fI_sV (c := 12), fI_sV (c := 6), fL_sV (c := 9), fL_sV (c := 12), fI_sV_k, fL_sV_k, fV_sV_k, fI_wF, fI_wG, fI_wR, fL_wF, fL_wG, fL_wR, fV_wF, fV_wG, fV_wR, aF_sV, aG_sV, aR_sV, aF_wG, aF_wR, aG_wF, aG_wR, aR_wF, aR_wG, gM g3, gN g3, ti_lt, tl, true_and]
      refine c_isMark g3 (xx.2.2.2.2.1 r' s hr hs).2.2.2 (ix8 (by omega) (by omega) er es) (fun c9 => absurd ⟨j1, x1, y1, p1, p2, p3, p4, p5, p6⟩ c9) (fun _ _ _ _ _ _ _ _ _ => ?_)
      refine jif_n (by decide) ?_
      simp (decide := true) only [jgI_ob, jgf_ob, jgL_ob, jpI_ob, jpL_ob, jpR_ob, jpN_ob, jrc_ob, obj_sV, obj_wF, obj_wG, obj_wR, arr_sV, arr_wF, arr_wG, arr_wR, arL_sV, arL_wF, arL_wG, arL_wR, arR_sV, arR_wF, arR_wG, arR_wR, fI_sV (c := 0), fI_sV (c := 1), fI_sV (c := 2), fI_sV (c := 4), fI_sV (c := 5), fI_sV (c := 7), fI_sV (c := 8), fI_sV (c := 9), fI_sV (c := 10), fI_sV (c := 11), fI_sV (c := 12), fI_sV (c := 6), fL_sV (c := 9), fL_sV (c := 12), fI_sV_k, fL_sV_k, fV_sV_k, fI_wF, fI_wG, fI_wR, fL_wF, fL_wG, fL_wR, fV_wF, fV_wG, fV_wR, aF_sV, aG_sV, aR_sV, aF_wG, aF_wR, aG_wF, aG_wR, aR_wF, aR_wG, gM g3, gN g3, ti_lt, tl, true_and]
      refine c_isMark g3 (xx.2.2.2.2.1 r' u hr hu).2.2.2 (ix8 (by omega) (by omega) er eu) (fun c9 => absurd ⟨j2, x2, y2, s1, s2, s3, s4, s5, s6⟩ c9) (fun _ _ _ _ _ _ _ _ _ => ?_)
      refine jif_n (by decide) ?_
      simp (decide := true) only [jgI_ob, jgf_ob, jgL_ob, jpI_ob, jpL_ob, jpR_ob, jpN_ob, jrc_ob, obj_sV, obj_wF, obj_wG, obj_wR, arr_sV, arr_wF, arr_wG, arr_wR, arL_sV, arL_wF, arL_wG, arL_wR, arR_sV, arR_wF, arR_wG, arR_wR, fI_sV (c := 0), fI_sV (c := 1), fI_sV (c := 2), fI_sV (c := 4), fI_sV (c := 5), fI_sV (c := 7), fI_sV (c := 8), fI_sV (c := 9), fI_sV (c := 10), fI_sV (c := 11), fI_sV (c := 12), fI_sV (c := 6), fL_sV (c := 9), fL_sV (c := 12), fI_sV_k, fL_sV_k, fV_sV_k, fI_wF, fI_wG, fI_wR, fL_wF, fL_wG, fL_wR, fV_wF, fV_wG, fV_wR, aF_sV, aG_sV, aR_sV, aF_wG, aF_wR, aG_wF, aG_wR, aR_wF, aR_wG, kC, kM, gM g3, gN g3, aF_wF_ne, ti_clamp, ec3]
      refine ⟨iv, iv, iv, iv, iv, iv, iv, ?_⟩
      have es1 : (fI h 71 5 + 1).toInt = (fI h 71 5).toInt + 1 := (by simp only [Int32.toInt_add, Int32.toInt_sub, Int32.toInt_mul, Int32.toInt_neg, Int.bmod_def, tl]; omega)
      refine (fun S : (∀ h9, h9 = _ → Q2 _ h9) => S _ rfl) (fun h9 e => ?_)
      have k9 : fr [72, 73, 74, 75, 76, 118, 119, 120, 121, 122, 123, 124] [(71, 5), (81, 74)] hh h9 := by
        rw [e]
        exact fr_sV (by decide) (fr_wF (by decide) (fr_wF (by decide) (fr_wF (by decide) (fr_wF (by decide) (fr_wF (by decide) (fr_wF (by decide) (fr_wF (by decide) fr_rfl)))))))
      have d72 : aF h9 72 = aF hh 72 := by rw [e]; simp (decide := true) only [jgI_ob, jgf_ob, jgL_ob, jpI_ob, jpL_ob, jpR_ob, jpN_ob, jrc_ob, obj_sV, obj_wF, obj_wG, obj_wR, arr_sV, arr_wF, arr_wG, arr_wR, arL_sV, arL_wF, arL_wG, arL_wR, arR_sV, arR_wF, arR_wG, arR_wR, fI_sV (c := 0), fI_sV (c := 1), fI_sV (c := 2), fI_sV (c := 4), fI_sV (c := 5), fI_sV (c := 7), fI_sV (c := 8), fI_sV (c := 9), fI_sV (c := 10), fI_sV (c := 11), fI_sV (c := 12), fI_sV (c := 6), fL_sV (c := 9), fL_sV (c := 12), fI_sV_k, fL_sV_k, fV_sV_k, fI_wF, fI_wG, fI_wR, fL_wF, fL_wG, fL_wR, fV_wF, fV_wG, fV_wR, aF_sV, aG_sV, aR_sV, aF_wG, aF_wR, aG_wF, aG_wR, aR_wF, aR_wG, aF_wF_ne]
      have d73 : aF h9 73 = aF hh 73 := by rw [e]; simp (decide := true) only [jgI_ob, jgf_ob, jgL_ob, jpI_ob, jpL_ob, jpR_ob, jpN_ob, jrc_ob, obj_sV, obj_wF, obj_wG, obj_wR, arr_sV, arr_wF, arr_wG, arr_wR, arL_sV, arL_wF, arL_wG, arL_wR, arR_sV, arR_wF, arR_wG, arR_wR, fI_sV (c := 0), fI_sV (c := 1), fI_sV (c := 2), fI_sV (c := 4), fI_sV (c := 5), fI_sV (c := 7), fI_sV (c := 8), fI_sV (c := 9), fI_sV (c := 10), fI_sV (c := 11), fI_sV (c := 12), fI_sV (c := 6), fL_sV (c := 9), fL_sV (c := 12), fI_sV_k, fL_sV_k, fV_sV_k, fI_wF, fI_wG, fI_wR, fL_wF, fL_wG, fL_wR, fV_wF, fV_wG, fV_wR, aF_sV, aG_sV, aR_sV, aF_wG, aF_wR, aG_wF, aG_wR, aR_wF, aR_wG, aF_wF_ne]
      have d74 : aF h9 74 = aF hh 74 := by rw [e]; simp (decide := true) only [jgI_ob, jgf_ob, jgL_ob, jpI_ob, jpL_ob, jpR_ob, jpN_ob, jrc_ob, obj_sV, obj_wF, obj_wG, obj_wR, arr_sV, arr_wF, arr_wG, arr_wR, arL_sV, arL_wF, arL_wG, arL_wR, arR_sV, arR_wF, arR_wG, arR_wR, fI_sV (c := 0), fI_sV (c := 1), fI_sV (c := 2), fI_sV (c := 4), fI_sV (c := 5), fI_sV (c := 7), fI_sV (c := 8), fI_sV (c := 9), fI_sV (c := 10), fI_sV (c := 11), fI_sV (c := 12), fI_sV (c := 6), fL_sV (c := 9), fL_sV (c := 12), fI_sV_k, fL_sV_k, fV_sV_k, fI_wF, fI_wG, fI_wR, fL_wF, fL_wG, fL_wR, fV_wF, fV_wG, fV_wR, aF_sV, aG_sV, aR_sV, aF_wG, aF_wR, aG_wF, aG_wR, aR_wF, aR_wG, aF_wF_ne]
      have d75 : aF h9 75 = aF hh 75 := by rw [e]; simp (decide := true) only [jgI_ob, jgf_ob, jgL_ob, jpI_ob, jpL_ob, jpR_ob, jpN_ob, jrc_ob, obj_sV, obj_wF, obj_wG, obj_wR, arr_sV, arr_wF, arr_wG, arr_wR, arL_sV, arL_wF, arL_wG, arL_wR, arR_sV, arR_wF, arR_wG, arR_wR, fI_sV (c := 0), fI_sV (c := 1), fI_sV (c := 2), fI_sV (c := 4), fI_sV (c := 5), fI_sV (c := 7), fI_sV (c := 8), fI_sV (c := 9), fI_sV (c := 10), fI_sV (c := 11), fI_sV (c := 12), fI_sV (c := 6), fL_sV (c := 9), fL_sV (c := 12), fI_sV_k, fL_sV_k, fV_sV_k, fI_wF, fI_wG, fI_wR, fL_wF, fL_wG, fL_wR, fV_wF, fV_wG, fV_wR, aF_sV, aG_sV, aR_sV, aF_wG, aF_wR, aG_wF, aG_wR, aR_wF, aR_wG, aF_wF_ne]
      have d76 : aF h9 76 = aF hh 76 := by rw [e]; simp (decide := true) only [jgI_ob, jgf_ob, jgL_ob, jpI_ob, jpL_ob, jpR_ob, jpN_ob, jrc_ob, obj_sV, obj_wF, obj_wG, obj_wR, arr_sV, arr_wF, arr_wG, arr_wR, arL_sV, arL_wF, arL_wG, arL_wR, arR_sV, arR_wF, arR_wG, arR_wR, fI_sV (c := 0), fI_sV (c := 1), fI_sV (c := 2), fI_sV (c := 4), fI_sV (c := 5), fI_sV (c := 7), fI_sV (c := 8), fI_sV (c := 9), fI_sV (c := 10), fI_sV (c := 11), fI_sV (c := 12), fI_sV (c := 6), fL_sV (c := 9), fL_sV (c := 12), fI_sV_k, fL_sV_k, fV_sV_k, fI_wF, fI_wG, fI_wR, fL_wF, fL_wG, fL_wR, fV_wF, fV_wG, fV_wR, aF_sV, aG_sV, aR_sV, aF_wG, aF_wR, aG_wF, aG_wR, aR_wF, aR_wG, aF_wF_ne]
      have d18 : aF h9 118 = upd (aF hh 118) (fI h 71 5).toInt.toNat a1 := by rw [e]; simp (decide := true) only [jgI_ob, jgf_ob, jgL_ob, jpI_ob, jpL_ob, jpR_ob, jpN_ob, jrc_ob, obj_sV, obj_wF, obj_wG, obj_wR, arr_sV, arr_wF, arr_wG, arr_wR, arL_sV, arL_wF, arL_wG, arL_wR, arR_sV, arR_wF, arR_wG, arR_wR, fI_sV (c := 0), fI_sV (c := 1), fI_sV (c := 2), fI_sV (c := 4), fI_sV (c := 5), fI_sV (c := 7), fI_sV (c := 8), fI_sV (c := 9), fI_sV (c := 10), fI_sV (c := 11), fI_sV (c := 12), fI_sV (c := 6), fL_sV (c := 9), fL_sV (c := 12), fI_sV_k, fL_sV_k, fV_sV_k, fI_wF, fI_wG, fI_wR, fL_wF, fL_wG, fL_wR, fV_wF, fV_wG, fV_wR, aF_sV, aG_sV, aR_sV, aF_wG, aF_wR, aG_wF, aG_wR, aR_wF, aR_wG, kC, kM, gM g3, aF_wF_ne]
      have d19 : aF h9 119 = upd (aF hh 119) (fI h 71 5).toInt.toNat a2 := by rw [e]; simp (decide := true) only [jgI_ob, jgf_ob, jgL_ob, jpI_ob, jpL_ob, jpR_ob, jpN_ob, jrc_ob, obj_sV, obj_wF, obj_wG, obj_wR, arr_sV, arr_wF, arr_wG, arr_wR, arL_sV, arL_wF, arL_wG, arL_wR, arR_sV, arR_wF, arR_wG, arR_wR, fI_sV (c := 0), fI_sV (c := 1), fI_sV (c := 2), fI_sV (c := 4), fI_sV (c := 5), fI_sV (c := 7), fI_sV (c := 8), fI_sV (c := 9), fI_sV (c := 10), fI_sV (c := 11), fI_sV (c := 12), fI_sV (c := 6), fL_sV (c := 9), fL_sV (c := 12), fI_sV_k, fL_sV_k, fV_sV_k, fI_wF, fI_wG, fI_wR, fL_wF, fL_wG, fL_wR, fV_wF, fV_wG, fV_wR, aF_sV, aG_sV, aR_sV, aF_wG, aF_wR, aG_wF, aG_wR, aR_wF, aR_wG, kC, kM, gM g3, aF_wF_ne]
      have d20 : aF h9 120 = upd (aF hh 120) (fI h 71 5).toInt.toNat a3 := by rw [e]; simp (decide := true) only [jgI_ob, jgf_ob, jgL_ob, jpI_ob, jpL_ob, jpR_ob, jpN_ob, jrc_ob, obj_sV, obj_wF, obj_wG, obj_wR, arr_sV, arr_wF, arr_wG, arr_wR, arL_sV, arL_wF, arL_wG, arL_wR, arR_sV, arR_wF, arR_wG, arR_wR, fI_sV (c := 0), fI_sV (c := 1), fI_sV (c := 2), fI_sV (c := 4), fI_sV (c := 5), fI_sV (c := 7), fI_sV (c := 8), fI_sV (c := 9), fI_sV (c := 10), fI_sV (c := 11), fI_sV (c := 12), fI_sV (c := 6), fL_sV (c := 9), fL_sV (c := 12), fI_sV_k, fL_sV_k, fV_sV_k, fI_wF, fI_wG, fI_wR, fL_wF, fL_wG, fL_wR, fV_wF, fV_wG, fV_wR, aF_sV, aG_sV, aR_sV, aF_wG, aF_wR, aG_wF, aG_wR, aR_wF, aR_wG, kC, kM, gM g3, aF_wF_ne]
      have d21 : aF h9 121 = upd (aF hh 121) (fI h 71 5).toInt.toNat a4 := by rw [e]; simp (decide := true) only [jgI_ob, jgf_ob, jgL_ob, jpI_ob, jpL_ob, jpR_ob, jpN_ob, jrc_ob, obj_sV, obj_wF, obj_wG, obj_wR, arr_sV, arr_wF, arr_wG, arr_wR, arL_sV, arL_wF, arL_wG, arL_wR, arR_sV, arR_wF, arR_wG, arR_wR, fI_sV (c := 0), fI_sV (c := 1), fI_sV (c := 2), fI_sV (c := 4), fI_sV (c := 5), fI_sV (c := 7), fI_sV (c := 8), fI_sV (c := 9), fI_sV (c := 10), fI_sV (c := 11), fI_sV (c := 12), fI_sV (c := 6), fL_sV (c := 9), fL_sV (c := 12), fI_sV_k, fL_sV_k, fV_sV_k, fI_wF, fI_wG, fI_wR, fL_wF, fL_wG, fL_wR, fV_wF, fV_wG, fV_wR, aF_sV, aG_sV, aR_sV, aF_wG, aF_wR, aG_wF, aG_wR, aR_wF, aR_wG, kC, kM, gM g3, aF_wF_ne]
      have d22 : aF h9 122 = upd (aF hh 122) (fI h 71 5).toInt.toNat a5 := by rw [e]; simp (decide := true) only [jgI_ob, jgf_ob, jgL_ob, jpI_ob, jpL_ob, jpR_ob, jpN_ob, jrc_ob, obj_sV, obj_wF, obj_wG, obj_wR, arr_sV, arr_wF, arr_wG, arr_wR, arL_sV, arL_wF, arL_wG, arL_wR, arR_sV, arR_wF, arR_wG, arR_wR, fI_sV (c := 0), fI_sV (c := 1), fI_sV (c := 2), fI_sV (c := 4), fI_sV (c := 5), fI_sV (c := 7), fI_sV (c := 8), fI_sV (c := 9), fI_sV (c := 10), fI_sV (c := 11), fI_sV (c := 12), fI_sV (c := 6), fL_sV (c := 9), fL_sV (c := 12), fI_sV_k, fL_sV_k, fV_sV_k, fI_wF, fI_wG, fI_wR, fL_wF, fL_wG, fL_wR, fV_wF, fV_wG, fV_wR, aF_sV, aG_sV, aR_sV, aF_wG, aF_wR, aG_wF, aG_wR, aR_wF, aR_wG, kC, kM, gM g3, aF_wF_ne]
      have d23 : aF h9 123 = upd (aF hh 123) (fI h 71 5).toInt.toNat a6 := by rw [e]; simp (decide := true) only [jgI_ob, jgf_ob, jgL_ob, jpI_ob, jpL_ob, jpR_ob, jpN_ob, jrc_ob, obj_sV, obj_wF, obj_wG, obj_wR, arr_sV, arr_wF, arr_wG, arr_wR, arL_sV, arL_wF, arL_wG, arL_wR, arR_sV, arR_wF, arR_wG, arR_wR, fI_sV (c := 0), fI_sV (c := 1), fI_sV (c := 2), fI_sV (c := 4), fI_sV (c := 5), fI_sV (c := 7), fI_sV (c := 8), fI_sV (c := 9), fI_sV (c := 10), fI_sV (c := 11), fI_sV (c := 12), fI_sV (c := 6), fL_sV (c := 9), fL_sV (c := 12), fI_sV_k, fL_sV_k, fV_sV_k, fI_wF, fI_wG, fI_wR, fL_wF, fL_wG, fL_wR, fV_wF, fV_wG, fV_wR, aF_sV, aG_sV, aR_sV, aF_wG, aF_wR, aG_wF, aG_wR, aR_wF, aR_wG, kC, kM, gM g3, aF_wF_ne]
      have d24 : aF h9 124 = upd (aF hh 124) (fI h 71 5).toInt.toNat a7 := by rw [e]; simp (decide := true) only [jgI_ob, jgf_ob, jgL_ob, jpI_ob, jpL_ob, jpR_ob, jpN_ob, jrc_ob, obj_sV, obj_wF, obj_wG, obj_wR, arr_sV, arr_wF, arr_wG, arr_wR, arL_sV, arL_wF, arL_wG, arL_wR, arR_sV, arR_wF, arR_wG, arR_wR, fI_sV (c := 0), fI_sV (c := 1), fI_sV (c := 2), fI_sV (c := 4), fI_sV (c := 5), fI_sV (c := 7), fI_sV (c := 8), fI_sV (c := 9), fI_sV (c := 10), fI_sV (c := 11), fI_sV (c := 12), fI_sV (c := 6), fL_sV (c := 9), fL_sV (c := 12), fI_sV_k, fL_sV_k, fV_sV_k, fI_wF, fI_wG, fI_wR, fL_wF, fL_wG, fL_wR, fV_wF, fV_wG, fV_wR, aF_sV, aG_sV, aR_sV, aF_wG, aF_wR, aG_wF, aG_wR, aR_wF, aR_wG, kC, kM, gM g3, aF_wF_ne]
      have dc : fI h9 71 5 = fI h 71 5 + 1 := by rw [e]; simp (decide := true) only [jgI_ob, jgf_ob, jgL_ob, jpI_ob, jpL_ob, jpR_ob, jpN_ob, jrc_ob, obj_sV, obj_wF, obj_wG, obj_wR, arr_sV, arr_wF, arr_wG, arr_wR, arL_sV, arL_wF, arL_wG, arL_wR, arR_sV, arR_wF, arR_wG, arR_wR, fI_sV (c := 0), fI_sV (c := 1), fI_sV (c := 2), fI_sV (c := 4), fI_sV (c := 5), fI_sV (c := 7), fI_sV (c := 8), fI_sV (c := 9), fI_sV (c := 10), fI_sV (c := 11), fI_sV (c := 12), fI_sV (c := 6), fL_sV (c := 9), fL_sV (c := 12), fI_sV_k, fL_sV_k, fV_sV_k, fI_wF, fI_wG, fI_wR, fL_wF, fL_wG, fL_wR, fV_wF, fV_wG, fV_wR, aF_sV, aG_sV, aR_sV, aF_wG, aF_wR, aG_wF, aG_wR, aR_wF, aR_wG, fI_sV_ne, bc]
      have dm : fI h9 81 74 = fI h 71 5 + 1 := by rw [e]; simp (decide := true) only [jgI_ob, jgf_ob, jgL_ob, jpI_ob, jpL_ob, jpR_ob, jpN_ob, jrc_ob, obj_sV, obj_wF, obj_wG, obj_wR, arr_sV, arr_wF, arr_wG, arr_wR, arL_sV, arL_wF, arL_wG, arL_wR, arR_sV, arR_wF, arR_wG, arR_wR, fI_sV (c := 0), fI_sV (c := 1), fI_sV (c := 2), fI_sV (c := 4), fI_sV (c := 5), fI_sV (c := 7), fI_sV (c := 8), fI_sV (c := 9), fI_sV (c := 10), fI_sV (c := 11), fI_sV (c := 12), fI_sV (c := 6), fL_sV (c := 9), fL_sV (c := 12), fI_sV_k, fL_sV_k, fV_sV_k, fI_wF, fI_wG, fI_wR, fL_wF, fL_wG, fL_wR, fV_wF, fV_wG, fV_wR, aF_sV, aG_sV, aR_sV, aF_wG, aF_wR, aG_wF, aG_wR, aR_wF, aR_wG, gM g3]
      clear e
      refine H h9 ⟨fr_trans kk k9, ?_⟩
      refine ⟨by rw [dm, dc], by rw [dc, es1]; omega, by rw [dc, es1]; omega, fun i hi => ?_⟩
      rw [dc, es1] at hi
      by_cases ci : i = (fI h 71 5).toInt.toNat
      · right
        rw [d72, d73, d74, d75, d18, d19, d20, d21, d22, d23, d24, b72, b73, b74, b75, ← ci, upd_s, upd_s, upd_s, upd_s, upd_s, upd_s, upd_s, upd_s, upd_s, upd_s, upd_s]
        have f1 := sc.2.1
        have f2 := sc2.2.1
        refine ⟨r', s, u, x1, y1, x2, y2, hr, hs, hu, fun q => cne (by rw [ti_eq]; omega), er, er, es, eu, p1, p2, p3, p4, by omega, s1, s2, s3, s4, by omega, ?_, ?_, ?_⟩
        · rw [show 900 * x1 + y1 - 100 = j1 by omega, show 900 * x2 + y2 - 100 = j2 by omega]
          rw [ti_sub (by omega) (by omega), hv1, hv2]
        · rw [show 900 * x1 + y1 - 100 = j1 by omega, ho1, hv1]
        · rw [show 900 * x2 + y2 - 100 = j2 by omega, ho2, hv2]
      · refine FA1_up (fun p hp => ?_) (fa1 i (by omega))
        rcases (show p = 72 ∨ p = 73 ∨ p = 74 ∨ p = 75 ∨ p = 76 ∨ p = 118 ∨ p = 119 ∨ p = 120 ∨ p = 121 ∨ p = 122 ∨ p = 123 ∨ p = 124 by simpa using hp) with q | q | q | q | q | q | q | q | q | q | q | q <;> subst q
        · rw [d72, b72, upd_n ci]
        · rw [d73, b73, upd_n ci]
        · rw [d74, b74, upd_n ci]
        · rw [d75, b75, upd_n ci]
        · rw [d76, b76, upd_n ci]
        · rw [d18, upd_n ci, bo 118 (by decide)]
        · rw [d19, upd_n ci, bo 119 (by decide)]
        · rw [d20, upd_n ci, bo 120 (by decide)]
        · rw [d21, upd_n ci, bo 121 (by decide)]
        · rw [d22, upd_n ci, bo 122 (by decide)]
        · rw [d23, upd_n ci, bo 123 (by decide)]
        · rw [d24, upd_n ci, bo 124 (by decide)]
theorem a_strike (g : G h) (fa : FA h n m f t) {a1 : Int32} : AGR X 276 278 [.int a1] h (fun h2 => fr [72, 73, 74, 75, 76, 118, 119, 120, 121, 122, 123, 124] [(71, 5), (81, 74)] h h2 ∧ FA h2 n m f t) := by
  obtain ⟨ec, c0, c80, fa1⟩ := id fa
  intro Q K
  rw [jE_X11_strike]
  refine jT_X11_strike_0 ?_
  have bad : ¬ ((fI h 71 5).toInt < 80 ∧ 0 ≤ a1.toInt ∧ a1.toInt < (fI h 71 5).toInt ∧ ¬ (aF h 72 a1.toInt.toNat).toInt = -1) → Q (some (.int (-1))) h := by
    intro cc
    refine K _ _ (fun Q2 H => ?_)
    have HH := H _ ⟨fr_rfl, fa⟩
    rw [jE_X12_strike]
    refine jT_X12_strike_0 ?_
    simp (decide := true) only [jgI_ob, jgf_ob, jgL_ob, jpI_ob, jpL_ob, jpR_ob, jpN_ob, jrc_ob, obj_sV, obj_wF, obj_wG, obj_wR, arr_sV, arr_wF, arr_wG, arr_wR, arL_sV, arL_wF, arL_wG, arL_wR, arR_sV, arR_wF, arR_wG, arR_wR, fI_sV (c := 0), fI_sV (c := 1), fI_sV (c := 2), fI_sV (c := 4), fI_sV (c := 5), fI_sV (c := 7), fI_sV (c := 8), fI_sV (c := 9), fI_sV (c := 10), fI_sV (c := 11), fI_sV (c := 12), fI_sV (c := 6), fL_sV (c := 9), fL_sV (c := 12), fI_sV_k, fL_sV_k, fV_sV_k, fI_wF, fI_wG, fI_wR, fL_wF, fL_wG, fL_wR, fV_wF, fV_wG, fV_wR, aF_sV, aG_sV, aR_sV, aF_wG, aF_wR, aG_wF, aG_wR, aR_wF, aR_wG, kC, kM, gM g, gN g, ec, ti_eq, ti_lt, tl, ti_clamp]
    refine ⟨fun _ => HH, fun q0 => ⟨fun _ => HH, fun q1 => ⟨fun q2 => ⟨by rw [vp_inI]; omega, fun _ => HH, fun q3 => absurd ⟨by omega, by omega, by omega, ?_⟩ cc⟩, fun _ => HH⟩⟩⟩
    intro q4
    rcases fa1 a1.toInt.toNat (by omega) with ⟨u1, u2, -⟩ | ⟨r, _, _, _, _, _, _, u0, _, _, _, u1, _⟩
    · omega
    · omega
  simp (decide := true) only [jgI_ob, jgf_ob, jgL_ob, jpI_ob, jpL_ob, jpR_ob, jpN_ob, jrc_ob, obj_sV, obj_wF, obj_wG, obj_wR, arr_sV, arr_wF, arr_wG, arr_wR, arL_sV, arL_wF, arL_wG, arL_wR, arR_sV, arR_wF, arR_wG, arR_wR, fI_sV (c := 0), fI_sV (c := 1), fI_sV (c := 2), fI_sV (c := 4), fI_sV (c := 5), fI_sV (c := 7), fI_sV (c := 8), fI_sV (c := 9), fI_sV (c := 10), fI_sV (c := 11), fI_sV (c := 12), fI_sV (c := 6), fL_sV (c := 9), fL_sV (c := 12), fI_sV_k, fL_sV_k, fV_sV_k, fI_wF, fI_wG, fI_wR, fL_wF, fL_wG, fL_wR, fV_wF, fV_wG, fV_wR, aF_sV, aG_sV, aR_sV, aF_wG, aF_wR, aG_wF, aG_wR, aR_wF, aR_wG, gO g, gF g, ti_lt, tl, true_and]
  rw [jE_X0_addStrike]
  refine jT_X0_addStrike_0 ?_
  simp (decide := true) only [jgI_ob, jgf_ob, jgL_ob, jpI_ob, jpL_ob, jpR_ob, jpN_ob, jrc_ob, obj_sV, obj_wF, obj_wG, obj_wR, arr_sV, arr_wF, arr_wG, arr_wR, arL_sV, arL_wF, arL_wG, arL_wR, arR_sV, arR_wF, arR_wG, arR_wR, fI_sV (c := 0), fI_sV (c := 1), fI_sV (c := 2), fI_sV (c := 4), fI_sV (c := 5), fI_sV (c := 7), fI_sV (c := 8), fI_sV (c := 9), fI_sV (c := 10), fI_sV (c := 11), fI_sV (c := 12), fI_sV (c := 6), fL_sV (c := 9), fL_sV (c := 12), fI_sV_k, fL_sV_k, fV_sV_k, fI_wF, fI_wG, fI_wR, fL_wF, fL_wG, fL_wR, fV_wF, fV_wG, fV_wR, aF_sV, aG_sV, aR_sV, aF_wG, aF_wR, aG_wF, aG_wR, aR_wF, aR_wG, kC, kM, gO g, gF g, ti_eq, ti_lt, tl, ti_clamp, aF_wF_ne]
  refine ⟨fun q0 => ⟨fun q => bad (by omega), fun q1 => ⟨fun q2 => ⟨by rw [vp_inI]; omega, fun q => bad (fun w => w.2.2.2 q), fun q3 => ?_⟩, fun q => bad (by omega)⟩⟩, fun q => bad (by omega)⟩
  have iv : vp_in (fI h 71 5) 80 := by rw [vp_inI]; omega
  refine ⟨iv, iv, ?_⟩
  try dsimp only [jrI, jrN, jrA, jisr, jnul, jcat1]
  refine K _ _ (fun Q2 H => ?_)
  refine (fun S : (∀ hh, hh = _ → jex X 10 _ _ hh Q2) => S _ rfl) (fun hh e => ?_)
  have kk : fr [72, 73, 74, 75, 76, 118, 119, 120, 121, 122, 123, 124] [(71, 5), (81, 74)] h hh := by
    rw [e]
    exact fr_sV (by decide) (fr_wF (by decide) (fr_wF (by decide) fr_rfl))
  have g3 := G_fr g rfl kk
  have b72 : aF hh 72 = upd (aF h 72) (fI h 71 5).toInt.toNat (-1) := by
    rw [e]; simp (decide := true) only [jgI_ob, jgf_ob, jgL_ob, jpI_ob, jpL_ob, jpR_ob, jpN_ob, jrc_ob, obj_sV, obj_wF, obj_wG, obj_wR, arr_sV, arr_wF, arr_wG, arr_wR, arL_sV, arL_wF, arL_wG, arL_wR, arR_sV, arR_wF, arR_wG, arR_wR, fI_sV (c := 0), fI_sV (c := 1), fI_sV (c := 2), fI_sV (c := 4), fI_sV (c := 5), fI_sV (c := 7), fI_sV (c := 8), fI_sV (c := 9), fI_sV (c := 10), fI_sV (c := 11), fI_sV (c := 12), fI_sV (c := 6), fL_sV (c := 9), fL_sV (c := 12), fI_sV_k, fL_sV_k, fV_sV_k, fI_wF, fI_wG, fI_wR, fL_wF, fL_wG, fL_wR, fV_wF, fV_wG, fV_wR, aF_sV, aG_sV, aR_sV, aF_wG, aF_wR, aG_wF, aG_wR, aR_wF, aR_wG, kC, kM, gO g, aF_wF_ne]
  have b76 : aF hh 76 = upd (aF h 76) (fI h 71 5).toInt.toNat a1 := by
    rw [e]; simp (decide := true) only [jgI_ob, jgf_ob, jgL_ob, jpI_ob, jpL_ob, jpR_ob, jpN_ob, jrc_ob, obj_sV, obj_wF, obj_wG, obj_wR, arr_sV, arr_wF, arr_wG, arr_wR, arL_sV, arL_wF, arL_wG, arL_wR, arR_sV, arR_wF, arR_wG, arR_wR, fI_sV (c := 0), fI_sV (c := 1), fI_sV (c := 2), fI_sV (c := 4), fI_sV (c := 5), fI_sV (c := 7), fI_sV (c := 8), fI_sV (c := 9), fI_sV (c := 10), fI_sV (c := 11), fI_sV (c := 12), fI_sV (c := 6), fL_sV (c := 9), fL_sV (c := 12), fI_sV_k, fL_sV_k, fV_sV_k, fI_wF, fI_wG, fI_wR, fL_wF, fL_wG, fL_wR, fV_wF, fV_wG, fV_wR, aF_sV, aG_sV, aR_sV, aF_wG, aF_wR, aG_wF, aG_wR, aR_wF, aR_wG, kC, kM, gO g, aF_wF_ne]
  have bc : fI hh 71 5 = fI h 71 5 + 1 := by
    rw [e]; simp (decide := true) only [jgI_ob, jgf_ob, jgL_ob, jpI_ob, jpL_ob, jpR_ob, jpN_ob, jrc_ob, obj_sV, obj_wF, obj_wG, obj_wR, arr_sV, arr_wF, arr_wG, arr_wR, arL_sV, arL_wF, arL_wG, arL_wR, arR_sV, arR_wF, arR_wG, arR_wR, fI_sV (c := 0), fI_sV (c := 1), fI_sV (c := 2), fI_sV (c := 4), fI_sV (c := 5), fI_sV (c := 7), fI_sV (c := 8), fI_sV (c := 9), fI_sV (c := 10), fI_sV (c := 11), fI_sV (c := 12), fI_sV (c := 6), fL_sV (c := 9), fL_sV (c := 12), fI_sV_k, fL_sV_k, fV_sV_k, fI_wF, fI_wG, fI_wR, fL_wF, fL_wG, fL_wR, fV_wF, fV_wG, fV_wR, aF_sV, aG_sV, aR_sV, aF_wG, aF_wR, aG_wF, aG_wR, aR_wF, aR_wG, kC, kM, gO g]
  have bo : ∀ p, p ∈ [73, 74, 75, 118, 119, 120, 121, 122, 123, 124] → aF hh p = aF h p := by
    rw [e]
    intro p hp
    rcases (show p = 73 ∨ p = 74 ∨ p = 75 ∨ p = 118 ∨ p = 119 ∨ p = 120 ∨ p = 121 ∨ p = 122 ∨ p = 123 ∨ p = 124 by simpa using hp) with q | q | q | q | q | q | q | q | q | q <;> subst q <;> simp (decide := true) only [jgI_ob, jgf_ob, jgL_ob, jpI_ob, jpL_ob, jpR_ob, jpN_ob, jrc_ob, obj_sV, obj_wF, obj_wG, obj_wR, arr_sV, arr_wF, arr_wG, arr_wR, arL_sV, arL_wF, arL_wG, arL_wR, arR_sV, arR_wF, arR_wG, arR_wR, fI_sV (c := 0), fI_sV (c := 1), fI_sV (c := 2), fI_sV (c := 4), fI_sV (c := 5), fI_sV (c := 7), fI_sV (c := 8), fI_sV (c := 9), fI_sV (c := 10), fI_sV (c := 11), fI_sV (c := 12), fI_sV (c := 6), fL_sV (c := 9), fL_sV (c := 12), fI_sV_k, fL_sV_k, fV_sV_k, fI_wF, fI_wG, fI_wR, fL_wF, fL_wG, fL_wR, fV_wF, fV_wG, fV_wR, aF_sV, aG_sV, aR_sV, aF_wG, aF_wR, aG_wF, aG_wR, aR_wF, aR_wG, aF_wF_ne]
  have ec3 : fI hh 81 74 = fI h 71 5 := by
    rw [e]; simp (decide := true) only [jgI_ob, jgf_ob, jgL_ob, jpI_ob, jpL_ob, jpR_ob, jpN_ob, jrc_ob, obj_sV, obj_wF, obj_wG, obj_wR, arr_sV, arr_wF, arr_wG, arr_wR, arL_sV, arL_wF, arL_wG, arL_wR, arR_sV, arR_wF, arR_wG, arR_wR, fI_sV (c := 0), fI_sV (c := 1), fI_sV (c := 2), fI_sV (c := 4), fI_sV (c := 5), fI_sV (c := 7), fI_sV (c := 8), fI_sV (c := 9), fI_sV (c := 10), fI_sV (c := 11), fI_sV (c := 12), fI_sV (c := 6), fL_sV (c := 9), fL_sV (c := 12), fI_sV_k, fL_sV_k, fV_sV_k, fI_wF, fI_wG, fI_wR, fL_wF, fL_wG, fL_wR, fV_wF, fV_wG, fV_wR, aF_sV, aG_sV, aR_sV, aF_wG, aF_wR, aG_wF, aG_wR, aR_wF, aR_wG, fI_sV_ne]; exact ec
  clear e
  have e118 := bo 118 (by decide)
  rw [jE_X12_strike]
  refine jT_X12_strike_0 ?_
  simp (decide := true) only [jgI_ob, jgf_ob, jgL_ob, jpI_ob, jpL_ob, jpR_ob, jpN_ob, jrc_ob, obj_sV, obj_wF, obj_wG, obj_wR, arr_sV, arr_wF, arr_wG, arr_wR, arL_sV, arL_wF, arL_wG, arL_wR, arR_sV, arR_wF, arR_wG, arR_wR, fI_sV (c := 0), fI_sV (c := 1), fI_sV (c := 2), fI_sV (c := 4), fI_sV (c := 5), fI_sV (c := 7), fI_sV (c := 8), fI_sV (c := 9), fI_sV (c := 10), fI_sV (c := 11), fI_sV (c := 12), fI_sV (c := 6), fL_sV (c := 9), fL_sV (c := 12), fI_sV_k, fL_sV_k, fV_sV_k, fI_wF, fI_wG, fI_wR, fL_wF, fL_wG, fL_wR, fV_wF, fV_wG, fV_wR, aF_sV, aG_sV, aR_sV, aF_wG, aF_wR, aG_wF, aG_wR, aR_wF, aR_wG, kC, kM, gM g3, gN g3, ec3, ti_eq, ti_lt, tl, ti_clamp, aF_wF_ne, e118]
  have n118 : ¬ (aF h 118 a1.toInt.toNat).toInt < 0 := by
    rcases fa1 a1.toInt.toNat (by omega) with ⟨u1, u2, -⟩ | ⟨r, _, _, _, _, _, _, u0, _, _, _, u1, u2, _⟩
    · exact absurd u1 q3
    · omega
  refine jif_n (by omega) (jif_n (by omega) (jif_t (by omega) ⟨by rw [vp_inI]; omega, jif_n n118 ⟨iv, iv, ?_⟩⟩))
  have es1 : (fI h 71 5 + 1).toInt = (fI h 71 5).toInt + 1 := (by simp only [Int32.toInt_add, Int32.toInt_sub, Int32.toInt_mul, Int32.toInt_neg, Int.bmod_def, tl]; omega)
  refine (fun S : (∀ h9, h9 = _ → Q2 _ h9) => S _ rfl) (fun h9 e => ?_)
  have k9 : fr [72, 73, 74, 75, 76, 118, 119, 120, 121, 122, 123, 124] [(71, 5), (81, 74)] hh h9 := by
    rw [e]
    exact fr_sV (by decide) (fr_wF (by decide) (fr_wF (by decide) fr_rfl))
  have d0 : ∀ p, p ∈ [72, 73, 74, 75, 76, 120, 121, 122, 123, 124] → aF h9 p = aF hh p := by
    rw [e]
    intro p hp
    rcases (show p = 72 ∨ p = 73 ∨ p = 74 ∨ p = 75 ∨ p = 76 ∨ p = 120 ∨ p = 121 ∨ p = 122 ∨ p = 123 ∨ p = 124 by simpa using hp) with q | q | q | q | q | q | q | q | q | q <;> subst q <;> simp (decide := true) only [jgI_ob, jgf_ob, jgL_ob, jpI_ob, jpL_ob, jpR_ob, jpN_ob, jrc_ob, obj_sV, obj_wF, obj_wG, obj_wR, arr_sV, arr_wF, arr_wG, arr_wR, arL_sV, arL_wF, arL_wG, arL_wR, arR_sV, arR_wF, arR_wG, arR_wR, fI_sV (c := 0), fI_sV (c := 1), fI_sV (c := 2), fI_sV (c := 4), fI_sV (c := 5), fI_sV (c := 7), fI_sV (c := 8), fI_sV (c := 9), fI_sV (c := 10), fI_sV (c := 11), fI_sV (c := 12), fI_sV (c := 6), fL_sV (c := 9), fL_sV (c := 12), fI_sV_k, fL_sV_k, fV_sV_k, fI_wF, fI_wG, fI_wR, fL_wF, fL_wG, fL_wR, fV_wF, fV_wG, fV_wR, aF_sV, aG_sV, aR_sV, aF_wG, aF_wR, aG_wF, aG_wR, aR_wF, aR_wG, aF_wF_ne]
  have d18 : aF h9 118 = upd (aF h 118) (fI h 71 5).toInt.toNat (-1) := by rw [e]; simp (decide := true) only [jgI_ob, jgf_ob, jgL_ob, jpI_ob, jpL_ob, jpR_ob, jpN_ob, jrc_ob, obj_sV, obj_wF, obj_wG, obj_wR, arr_sV, arr_wF, arr_wG, arr_wR, arL_sV, arL_wF, arL_wG, arL_wR, arR_sV, arR_wF, arR_wG, arR_wR, fI_sV (c := 0), fI_sV (c := 1), fI_sV (c := 2), fI_sV (c := 4), fI_sV (c := 5), fI_sV (c := 7), fI_sV (c := 8), fI_sV (c := 9), fI_sV (c := 10), fI_sV (c := 11), fI_sV (c := 12), fI_sV (c := 6), fL_sV (c := 9), fL_sV (c := 12), fI_sV_k, fL_sV_k, fV_sV_k, fI_wF, fI_wG, fI_wR, fL_wF, fL_wG, fL_wR, fV_wF, fV_wG, fV_wR, aF_sV, aG_sV, aR_sV, aF_wG, aF_wR, aG_wF, aG_wR, aR_wF, aR_wG, kC, kM, gM g3, aF_wF_ne]
  have d19 : aF h9 119 = upd (aF hh 119) (fI h 71 5).toInt.toNat a1 := by rw [e]; simp (decide := true) only [jgI_ob, jgf_ob, jgL_ob, jpI_ob, jpL_ob, jpR_ob, jpN_ob, jrc_ob, obj_sV, obj_wF, obj_wG, obj_wR, arr_sV, arr_wF, arr_wG, arr_wR, arL_sV, arL_wF, arL_wG, arL_wR, arR_sV, arR_wF, arR_wG, arR_wR, fI_sV (c := 0), fI_sV (c := 1), fI_sV (c := 2), fI_sV (c := 4), fI_sV (c := 5), fI_sV (c := 7), fI_sV (c := 8), fI_sV (c := 9), fI_sV (c := 10), fI_sV (c := 11), fI_sV (c := 12), fI_sV (c := 6), fL_sV (c := 9), fL_sV (c := 12), fI_sV_k, fL_sV_k, fV_sV_k, fI_wF, fI_wG, fI_wR, fL_wF, fL_wG, fL_wR, fV_wF, fV_wG, fV_wR, aF_sV, aG_sV, aR_sV, aF_wG, aF_wR, aG_wF, aG_wR, aR_wF, aR_wG, kC, kM, gM g3, aF_wF_ne]
  have dc : fI h9 71 5 = fI h 71 5 + 1 := by rw [e]; simp (decide := true) only [jgI_ob, jgf_ob, jgL_ob, jpI_ob, jpL_ob, jpR_ob, jpN_ob, jrc_ob, obj_sV, obj_wF, obj_wG, obj_wR, arr_sV, arr_wF, arr_wG, arr_wR, arL_sV, arL_wF, arL_wG, arL_wR, arR_sV, arR_wF, arR_wG, arR_wR, fI_sV (c := 0), fI_sV (c := 1), fI_sV (c := 2), fI_sV (c := 4), fI_sV (c := 5), fI_sV (c := 7), fI_sV (c := 8), fI_sV (c := 9), fI_sV (c := 10), fI_sV (c := 11), fI_sV (c := 12), fI_sV (c := 6), fL_sV (c := 9), fL_sV (c := 12), fI_sV_k, fL_sV_k, fV_sV_k, fI_wF, fI_wG, fI_wR, fL_wF, fL_wG, fL_wR, fV_wF, fV_wG, fV_wR, aF_sV, aG_sV, aR_sV, aF_wG, aF_wR, aG_wF, aG_wR, aR_wF, aR_wG, fI_sV_ne, bc]
  have dm : fI h9 81 74 = fI h 71 5 + 1 := by rw [e]; simp (decide := true) only [jgI_ob, jgf_ob, jgL_ob, jpI_ob, jpL_ob, jpR_ob, jpN_ob, jrc_ob, obj_sV, obj_wF, obj_wG, obj_wR, arr_sV, arr_wF, arr_wG, arr_wR, arL_sV, arL_wF, arL_wG, arL_wR, arR_sV, arR_wF, arR_wG, arR_wR, fI_sV (c := 0), fI_sV (c := 1), fI_sV (c := 2), fI_sV (c := 4), fI_sV (c := 5), fI_sV (c := 7), fI_sV (c := 8), fI_sV (c := 9), fI_sV (c := 10), fI_sV (c := 11), fI_sV (c := 12), fI_sV (c := 6), fL_sV (c := 9), fL_sV (c := 12), fI_sV_k, fL_sV_k, fV_sV_k, fI_wF, fI_wG, fI_wR, fL_wF, fL_wG, fL_wR, fV_wF, fV_wG, fV_wR, aF_sV, aG_sV, aR_sV, aF_wG, aF_wR, aG_wF, aG_wR, aR_wF, aR_wG, gM g3]
  clear e
  refine H h9 ⟨fr_trans kk k9, ?_⟩
  refine ⟨by rw [dm, dc], by rw [dc, es1]; omega, by rw [dc, es1]; omega, fun i hi => ?_⟩
  rw [dc, es1] at hi
  by_cases ci : i = (fI h 71 5).toInt.toNat
  · left
    rw [d0 72 (by decide), d0 76 (by decide), d18, d19, b72, b76, ← ci, upd_s, upd_s, upd_s, upd_s]
    exact ⟨rfl, rfl, a1.toInt.toNat, by omega, by omega, by omega⟩
  · refine FA1_up (fun p hp => ?_) (fa1 i (by omega))
    rcases (show p = 72 ∨ p = 76 ∨ p = 118 ∨ p = 119 ∨ p = 73 ∨ p = 74 ∨ p = 75 ∨ p = 120 ∨ p = 121 ∨ p = 122 ∨ p = 123 ∨ p = 124 by have := hp; simp at this; omega) with q | q | q | q | q | q | q | q | q | q | q | q <;> subst q
    · rw [d0 72 (by decide), b72, upd_n ci]
    · rw [d0 76 (by decide), b76, upd_n ci]
    · rw [d18, upd_n ci]
    · rw [d19, upd_n ci, bo 119 (by decide)]
    all_goals rw [d0 _ (by decide), bo _ (by decide)]
end FCT
