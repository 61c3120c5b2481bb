/-! SCALE AND FLAW -/
theorem law_at {h : JH} (g : G h) : h[1]? = some (.inr (3, [.ref 2, .ref 3, .ref 4])) := by
  have ho : obj h 1 3 := by simp only [gO g]
  have v0 : fV h 1 0 = .ref 2 := by simp only [gF g]
  have v1 : fV h 1 1 = .ref 3 := by simp only [gF g]
  have v2 : fV h 1 2 = .ref 4 := by simp only [gF g]
  obtain ⟨fs, e, hk⟩ := obj_of ho
  unfold fV at v0 v1 v2
  rw [e] at v0 v1 v2
  dsimp only at v0 v1 v2
  have hl : fs.length = 3 := by
    have := congrArg List.length hk
    rw [List.length_map] at this
    exact this
  rcases fs with _ | ⟨a, _ | ⟨b, _ | ⟨c, _ | ⟨d, r⟩⟩⟩⟩
  · cases hl
  · cases hl
  · cases hl
  · have q0 : a = .ref 2 := v0
    have q1 : b = .ref 3 := v1
    have q2 : c = .ref 4 := v2
    rw [e, q0, q1, q2]
  · simp at hl
section SCAL
variable {X : JX} {h : JH} {n : Nat} {m ρ τ f : Nat → Nat} {b t : Nat → Bool} {fl : Nat → Nat → Int}
theorem c_setFlaw {d : Nat} {Q : JQ} {τ f : Nat} {b t : Bool} {fl : Nat → Int} (sc : SC h τ b f t fl) {a e : Int32} (H0 : ¬ (0 ≤ a.toInt ∧ a.toInt ≤ 15 ∧ -20 ≤ e.toInt ∧ e.toInt ≤ 20) → Q (some (.int 0)) h) (H1 : ∀ h1, 0 ≤ a.toInt → a.toInt ≤ 15 → -20 ≤ e.toInt → e.toInt ≤ 20 → fr [τ + 1] [] h h1 → (∀ j, aF h1 (τ + 1) j = if j = a.toInt.toNat ∨ (a.toInt = 15 ∧ j = 16) then e else aF h (τ + 1) j) → (∀ p, aR h1 p = aR h p) → Q (some (.int 1)) h1) : jex X (d + 1) 109 [.ref τ, .int a, .int e] h Q := by
  obtain ⟨ho, f1, f3, e0, e1, e2, e3, e4, ha, hv, hf⟩ := sc
  rw [jE_X8_setFlaw]
  refine jT_X8_setFlaw_0 ?_
  have p16 : (16 : Int32).toNatClampNeg = 16 := rfl
  simp (decide := true) only [jgI_ob, jgf_ob, jgL_ob, jpI_ob, jpL_ob, jpR_ob, jpN_ob, jrc_ob, obj_sV, obj_wF, obj_wG, obj_wR, arr_sV, arr_wF, arr_wG, arr_wR, arL_sV, arL_wF, arL_wG, arL_wR, arR_sV, arR_wF, arR_wG, arR_wR, fI_sV (c := 0), fI_sV (c := 1), fI_sV (c := 2), fI_sV (c := 4), fI_sV (c := 5), fI_sV (c := 7), fI_sV (c := 8), fI_sV (c := 9), fI_sV (c := 10), fI_sV (c := 11), fI_sV (c := 12), fI_sV (c := 6), fL_sV (c := 9), fL_sV (c := 12), fI_sV_k, fL_sV_k, fV_sV_k, fI_wF, fI_wG, fI_wR, fL_wF, fL_wG, fL_wR, fV_wF, fV_wG, fV_wR, aF_sV, aG_sV, aR_sV, aF_wG, aF_wR, aG_wF, aG_wR, aR_wF, aR_wG, ho, e4, jwI_ar ha, jwI_ar (arr_wF.symm ▸ ha), aF_wF ha, fV_wF, ti_lt, ti_eq, tl, true_and, p16]
  refine ⟨fun c => H0 (by omega), fun c => ⟨fun c2 => ⟨fun c3 => H0 (by omega), fun c3 => ⟨fun c4 => H0 (by omega), fun c4 => ⟨by rw [vp_inI]; omega, fun c5 => ⟨by rw [vp_inI]; decide, ?_⟩, fun c5 => ?_⟩⟩⟩, fun c2 => H0 (by omega)⟩⟩
  · refine H1 _ (by omega) (by omega) (by omega) (by omega) (fr_wF (List.mem_singleton.mpr rfl) (fr_wF (List.mem_singleton.mpr rfl) fr_rfl)) (fun j => ?_) (fun p => by rw [aR_wF, aR_wF])
    rw [aF_wF (show arr (wF h (τ + 1) (upd (aF h (τ + 1)) a.toNatClampNeg e)) (τ + 1) .int 17 by rw [arr_wF]; exact ha)]
    rw [ti_clamp]
    by_cases c6 : j = 16
    · subst c6
      rw [upd_s, if_pos (Or.inr ⟨c5, rfl⟩)]
    · rw [upd_n c6]
      by_cases c7 : j = a.toInt.toNat
      · subst c7
        rw [upd_s, if_pos (Or.inl rfl)]
      · rw [upd_n c7, if_neg (by omega)]
  · refine H1 _ (by omega) (by omega) (by omega) (by omega) (fr_wF (List.mem_singleton.mpr rfl) fr_rfl) (fun j => ?_) (fun p => aR_wF)
    rw [aF_wF ha, ti_clamp]
    by_cases c7 : j = a.toInt.toNat
    · subst c7
      rw [upd_s, if_pos (Or.inl rfl)]
    · rw [upd_n c7, if_neg (by omega)]
theorem FL_upd {fl : Nat → Int} {a e : Int} (o : FL fl) (h0 : 0 ≤ a) (h1 : a ≤ 15) (h2 : -20 ≤ e) (h3 : e ≤ 20) : FL (fun j => if j = a.toNat ∨ (a = 15 ∧ j = 16) then e else fl j) := by
  refine ⟨fun j hj => ?_, ?_⟩
  · dsimp only
    split
    · omega
    · exact o.1 j hj
  · have := o.2
    dsimp only
    by_cases c5 : a = 15
    · rw [if_pos (Or.inr ⟨c5, rfl⟩), if_pos (Or.inl (by omega))]
    · rw [if_neg (by omega), if_neg (by omega)]
      exact this
theorem fw_hi {p : Nat} {h1 : JH} (a : fr [p] [] h h1) (hp : 126 ≤ p) : fw [] [] h h1 := ⟨fun q hq _ => a.2.2.1 q (fun c => by have := List.mem_singleton.mp c; omega), fun q k hq _ => a.2.2.2 q k (fun c => by cases c) (fun c => by omega)⟩
theorem a_flaw (g : G h) (x : RB h n m ρ τ b f t fl) {a1 a2 a3 a4 : Int32} : AGR X 106 110 [.int a1, .int a2, .int a3, .int a4] h (fun h2 => G h2 ∧ fw [87] [] h h2 ∧ ∃ fl', RB h2 n m ρ τ b f t fl') := by
  intro Q K
  rw [jE_X11_flaw]
  refine jT_X11_flaw_0 ?_
  simp (decide := true) only [jgI_ob, jgf_ob, jgL_ob, jpI_ob, jpL_ob, jpR_ob, jpN_ob, jrc_ob, obj_sV, obj_wF, obj_wG, obj_wR, arr_sV, arr_wF, arr_wG, arr_wR, arL_sV, arL_wF, arL_wG, arL_wR, arR_sV, arR_wF, arR_wG, arR_wR, fI_sV (c := 0), fI_sV (c := 1), fI_sV (c := 2), fI_sV (c := 4), fI_sV (c := 5), fI_sV (c := 7), fI_sV (c := 8), fI_sV (c := 9), fI_sV (c := 10), fI_sV (c := 11), fI_sV (c := 12), fI_sV (c := 6), fL_sV (c := 9), fL_sV (c := 12), fI_sV_k, fL_sV_k, fV_sV_k, fI_wF, fI_wG, fI_wR, fL_wF, fL_wG, fL_wR, fV_wF, fV_wG, fV_wR, aF_sV, aG_sV, aR_sV, aF_wG, aF_wR, aG_wF, aG_wR, aR_wF, aR_wG, gO g, gF g, ti_lt, tl, true_and]
  refine c_scaleAt g x (fun c => ?_) (fun r s hr hs er es => ?_)
  · try dsimp only [jrI, jrN, jrA, jisr, jnul, jcat1]
    refine K _ _ (fun Q2 H => ?_)
    rw [jE_X12_flaw]
    refine jT_X12_flaw_0 ?_
    simp (decide := true) only [jgI_ob, jgf_ob, jgL_ob, jpI_ob, jpL_ob, jpR_ob, jpN_ob, jrc_ob, obj_sV, obj_wF, obj_wG, obj_wR, arr_sV, arr_wF, arr_wG, arr_wR, arL_sV, arL_wF, arL_wG, arL_wR, arR_sV, arR_wF, arR_wG, arR_wR, fI_sV (c := 0), fI_sV (c := 1), fI_sV (c := 2), fI_sV (c := 4), fI_sV (c := 5), fI_sV (c := 7), fI_sV (c := 8), fI_sV (c := 9), fI_sV (c := 10), fI_sV (c := 11), fI_sV (c := 12), fI_sV (c := 6), fL_sV (c := 9), fL_sV (c := 12), fI_sV_k, fL_sV_k, fV_sV_k, fI_wF, fI_wG, fI_wR, fL_wF, fL_wG, fL_wR, fV_wF, fV_wG, fV_wR, aF_sV, aG_sV, aR_sV, aF_wG, aF_wR, aG_wF, aG_wR, aR_wF, aR_wG, gM g, gN g, ti_lt, tl, true_and]
    refine c_isScale g x (fun c9 => ?_) (fun r s z1 z2 z3 z4 => absurd ⟨r, s, z1, z2, z3, z4⟩ c)
    try dsimp only [jrI, jrN, jrA, jisr, jnul, jcat1]
    exact jif_t rfl (H _ ⟨g, fw_fr fr_rfl, fl, x⟩)
  · have nn := x.1
    obtain ⟨mm, -, z126, -, -, -, -, -⟩ := x.2.2.2.1 r hr
    obtain ⟨w1, w2, sc, sm⟩ := x.2.2.2.2.1 r s hr hs
    have e8 := ix8 (by omega) (by omega) er es
    try dsimp only [jrI, jrN, jrA, jisr, jnul, jcat1]
    rw [jrc_ob sc.1]
    refine c_setFlaw sc (fun c => ?_) (fun h1 q0 q1 q2 q3 k1 v1 v2 => ?_)
    · try dsimp only [jrI, jrN, jrA, jisr, jnul, jcat1]
      refine jif_t rfl (K _ _ (fun Q2 H => ?_))
      rw [jE_X12_flaw]
      refine jT_X12_flaw_0 ?_
      simp (decide := true) only [jgI_ob, jgf_ob, jgL_ob, jpI_ob, jpL_ob, jpR_ob, jpN_ob, jrc_ob, obj_sV, obj_wF, obj_wG, obj_wR, arr_sV, arr_wF, arr_wG, arr_wR, arL_sV, arL_wF, arL_wG, arL_wR, arR_sV, arR_wF, arR_wG, arR_wR, fI_sV (c := 0), fI_sV (c := 1), fI_sV (c := 2), fI_sV (c := 4), fI_sV (c := 5), fI_sV (c := 7), fI_sV (c := 8), fI_sV (c := 9), fI_sV (c := 10), fI_sV (c := 11), fI_sV (c := 12), fI_sV (c := 6), fL_sV (c := 9), fL_sV (c := 12), fI_sV_k, fL_sV_k, fV_sV_k, fI_wF, fI_wG, fI_wR, fL_wF, fL_wG, fL_wR, fV_wF, fV_wG, fV_wR, aF_sV, aG_sV, aR_sV, aF_wG, aF_wR, aG_wF, aG_wR, aR_wF, aR_wG, gM g, gN g, ti_lt, tl, true_and]
      refine c_isScale g x (fun c9 => absurd ⟨r, s, hr, hs, er, es⟩ c9) (fun _ _ _ _ _ _ => ?_)
      try dsimp only [jrI, jrN, jrA, jisr, jnul, jcat1]
      refine jif_n (by decide) ?_
      have HH := H _ ⟨g, fw_fr fr_rfl, fl, x⟩
      refine ⟨fun _ => HH, fun c1 => ⟨fun _ => HH, fun c2 => ⟨fun _ => HH, fun c3 => ⟨fun _ => HH, fun c4 => absurd ⟨by omega, by omega, by omega, by omega⟩ c⟩⟩⟩⟩
    · try dsimp only [jrI, jrN, jrA, jisr, jnul, jcat1]
      refine jif_n (by decide) (K _ _ (fun Q2 H => ?_))
      have hp : 126 ≤ τ (8 * r + s) + 1 := by omega
      have g1 := G_fr g (keep_hi hp rfl) k1
      have a87 : aF h1 87 = aF h 87 := frF k1 (fun c => by have := List.mem_singleton.mp c; omega)
      -- the rules at h1, but for the changed scale
      rw [jE_X12_flaw]
      refine jT_X12_flaw_0 ?_
      simp (decide := true) only [jgI_ob, jgf_ob, jgL_ob, jpI_ob, jpL_ob, jpR_ob, jpN_ob, jrc_ob, obj_sV, obj_wF, obj_wG, obj_wR, arr_sV, arr_wF, arr_wG, arr_wR, arL_sV, arL_wF, arL_wG, arL_wR, arR_sV, arR_wF, arR_wG, arR_wR, fI_sV (c := 0), fI_sV (c := 1), fI_sV (c := 2), fI_sV (c := 4), fI_sV (c := 5), fI_sV (c := 7), fI_sV (c := 8), fI_sV (c := 9), fI_sV (c := 10), fI_sV (c := 11), fI_sV (c := 12), fI_sV (c := 6), fL_sV (c := 9), fL_sV (c := 12), fI_sV_k, fL_sV_k, fV_sV_k, fI_wF, fI_wG, fI_wR, fL_wF, fL_wG, fL_wR, fV_wF, fV_wG, fV_wR, aF_sV, aG_sV, aR_sV, aF_wG, aF_wR, aG_wF, aG_wR, aR_wF, aR_wG, gM g1, gN g1, ti_lt, tl, true_and]
      have fwk := fw_hi k1 hp
      have isS : ∀ (Q3 : JQ), Q3 (some (.int 1)) h1 → jex X 9 111 [.ref 81, .int a1, .int a2] h1 Q3 := by
        intro Q3 H3
        rw [jE_X12_isScale]
        refine jT_X12_isScale_0 ?_
        simp (decide := true) only [jgI_ob, jgf_ob, jgL_ob, jpI_ob, jpL_ob, jpR_ob, jpN_ob, jrc_ob, obj_sV, obj_wF, obj_wG, obj_wR, arr_sV, arr_wF, arr_wG, arr_wR, arL_sV, arL_wF, arL_wG, arL_wR, arR_sV, arR_wF, arR_wG, arR_wR, fI_sV (c := 0), fI_sV (c := 1), fI_sV (c := 2), fI_sV (c := 4), fI_sV (c := 5), fI_sV (c := 7), fI_sV (c := 8), fI_sV (c := 9), fI_sV (c := 10), fI_sV (c := 11), fI_sV (c := 12), fI_sV (c := 6), fL_sV (c := 9), fL_sV (c := 12), fI_sV_k, fL_sV_k, fV_sV_k, fI_wF, fI_wG, fI_wR, fL_wF, fL_wG, fL_wR, fV_wF, fV_wG, fV_wR, aF_sV, aG_sV, aR_sV, aF_wG, aF_wR, aG_wF, aG_wR, aR_wF, aR_wG, gM g1, gN g1, ti_lt, tl, true_and]
        rw [jE_X12_isRule]
        refine jT_X12_isRule_0 ?_
        have e4 : (fI h1 81 4).toInt = n := by
          have : fI h1 81 4 = fI h 81 4 := by unfold fI; rw [fwk.2 81 4 (by decide) (fun c => by cases c)]
          rw [this]; exact x.2.2.1
        have e83 : (aF h1 83 r).toInt = m r := by
          rw [(fwk.1 83 (by decide) (fun c => by cases c)).1]; exact (x.2.2.2.1 r hr).2.2.2.2.2.2.2
        simp (decide := true) only [jgI_ob, jgf_ob, jgL_ob, jpI_ob, jpL_ob, jpR_ob, jpN_ob, jrc_ob, obj_sV, obj_wF, obj_wG, obj_wR, arr_sV, arr_wF, arr_wG, arr_wR, arL_sV, arL_wF, arL_wG, arL_wR, arR_sV, arR_wF, arR_wG, arR_wR, fI_sV (c := 0), fI_sV (c := 1), fI_sV (c := 2), fI_sV (c := 4), fI_sV (c := 5), fI_sV (c := 7), fI_sV (c := 8), fI_sV (c := 9), fI_sV (c := 10), fI_sV (c := 11), fI_sV (c := 12), fI_sV (c := 6), fL_sV (c := 9), fL_sV (c := 12), fI_sV_k, fL_sV_k, fV_sV_k, fI_wF, fI_wG, fI_wR, fL_wF, fL_wG, fL_wR, fV_wF, fV_wG, fV_wR, aF_sV, aG_sV, aR_sV, aF_wG, aF_wR, aG_wF, aG_wR, aR_wF, aR_wG, gM g1, ti_lt, tl, e4, true_and]
        refine jif_n (by omega) (jif_t (by omega) ?_)
        try dsimp only [jrI, jrN, jrA, jisr, jnul, jcat1]
        refine jif_n (by decide) (jif_n (by omega) ?_)
        simp (decide := true) only [jgI_ob, jgf_ob, jgL_ob, jpI_ob, jpL_ob, jpR_ob, jpN_ob, jrc_ob, obj_sV, obj_wF, obj_wG, obj_wR, arr_sV, arr_wF, arr_wG, arr_wR, arL_sV, arL_wF, arL_wG, arL_wR, arR_sV, arR_wF, arR_wG, arR_wR, fI_sV (c := 0), fI_sV (c := 1), fI_sV (c := 2), fI_sV (c := 4), fI_sV (c := 5), fI_sV (c := 7), fI_sV (c := 8), fI_sV (c := 9), fI_sV (c := 10), fI_sV (c := 11), fI_sV (c := 12), fI_sV (c := 6), fL_sV (c := 9), fL_sV (c := 12), fI_sV_k, fL_sV_k, fV_sV_k, fI_wF, fI_wG, fI_wR, fL_wF, fL_wG, fL_wR, fV_wF, fV_wG, fV_wR, aF_sV, aG_sV, aR_sV, aF_wG, aF_wR, aG_wF, aG_wR, aR_wF, aR_wG, kC, kM, gM g1, gN g1, ti_clamp, er, Int.toNat_natCast, e83, true_and]
        exact ⟨by rw [vp_inI]; omega, jif_t (by omega) H3⟩
      refine isS _ ?_
      try dsimp only [jrI, jrN, jrA, jisr, jnul, jcat1]
      refine jif_n (by decide) ?_
      simp (decide := true) only [jgI_ob, jgf_ob, jgL_ob, jpI_ob, jpL_ob, jpR_ob, jpN_ob, jrc_ob, obj_sV, obj_wF, obj_wG, obj_wR, arr_sV, arr_wF, arr_wG, arr_wR, arL_sV, arL_wF, arL_wG, arL_wR, arR_sV, arR_wF, arR_wG, arR_wR, fI_sV (c := 0), fI_sV (c := 1), fI_sV (c := 2), fI_sV (c := 4), fI_sV (c := 5), fI_sV (c := 7), fI_sV (c := 8), fI_sV (c := 9), fI_sV (c := 10), fI_sV (c := 11), fI_sV (c := 12), fI_sV (c := 6), fL_sV (c := 9), fL_sV (c := 12), fI_sV_k, fL_sV_k, fV_sV_k, fI_wF, fI_wG, fI_wR, fL_wF, fL_wG, fL_wR, fV_wF, fV_wG, fV_wR, aF_sV, aG_sV, aR_sV, aF_wG, aF_wR, aG_wF, aG_wR, aR_wF, aR_wG, kC, kM, gM g1, gN g1, ti_lt, tl, true_and]
      have ei : (16 * (8 * a1 + a2) + a3).toInt = ((16 * (8 * r + s) + a3.toInt.toNat : Nat) : Int) := (by simp only [Int32.toInt_add, Int32.toInt_sub, Int32.toInt_mul, Int32.toInt_neg, Int.bmod_def, tl]; omega)
      refine jif_n (by omega) (jif_n (by omega) (jif_n (by omega) (jif_n (by omega) ⟨by rw [vp_inI]; omega, ?_⟩)))
      rw [ti_clamp, ei, Int.toNat_natCast]
      have a87w : aF (wF h1 87 (upd (aF h1 87) (16 * (8 * r + s) + a3.toInt.toNat) a4)) 87 = upd (aF h 87) (16 * (8 * r + s) + a3.toInt.toNat) a4 := by
        simp (decide := true) only [jgI_ob, jgf_ob, jgL_ob, jpI_ob, jpL_ob, jpR_ob, jpN_ob, jrc_ob, obj_sV, obj_wF, obj_wG, obj_wR, arr_sV, arr_wF, arr_wG, arr_wR, arL_sV, arL_wF, arL_wG, arL_wR, arR_sV, arR_wF, arR_wG, arR_wR, fI_sV (c := 0), fI_sV (c := 1), fI_sV (c := 2), fI_sV (c := 4), fI_sV (c := 5), fI_sV (c := 7), fI_sV (c := 8), fI_sV (c := 9), fI_sV (c := 10), fI_sV (c := 11), fI_sV (c := 12), fI_sV (c := 6), fL_sV (c := 9), fL_sV (c := 12), fI_sV_k, fL_sV_k, fV_sV_k, fI_wF, fI_wG, fI_wR, fL_wF, fL_wG, fL_wR, fV_wF, fV_wG, fV_wR, aF_sV, aG_sV, aR_sV, aF_wG, aF_wR, aG_wF, aG_wR, aR_wF, aR_wG, kC, kM, gM g1, a87]
      have k2 : fr [87] [] h1 (wF h1 87 (upd (aF h1 87) (16 * (8 * r + s) + a3.toInt.toNat) a4)) := fr_wF (by decide) fr_rfl
      have r87 : ∀ p, aR (wF h1 87 (upd (aF h1 87) (16 * (8 * r + s) + a3.toInt.toNat) a4)) p = aR h1 p := fun p => aR_wF
      generalize wF h1 87 (upd (aF h1 87) (16 * (8 * r + s) + a3.toInt.toNat) a4) = h2 at a87w k2 r87 H ⊢
      refine H h2 ⟨G_fr g1 rfl k2, fw_trans (fw_mono (fun p _ c => by cases c) (fun p _ c => by cases c) fwk) (fw_fr k2), fun k => if k = 8 * r + s then (fun j => if j = a3.toInt.toNat ∨ (a3.toInt = 15 ∧ j = 16) then a4.toInt else fl k j) else fl k, ?_⟩
      obtain ⟨x1, x2, x3, x4, x5, x6, x7, x8⟩ := id x
      have lA : lowA [87] := lowA_of rfl
      have lF : lowF ([] : List (Nat × Nat)) := lowF_of rfl
      have V : ∀ p k, p < 126 → fV h2 p k = fV h p k := fun p k hp => ((fw_fr k2).2 p k hp (fun c => by cases c)).trans (fwk.2 p k hp (fun c => by cases c))
      have VF : ∀ p, p < 126 → p ≠ 87 → aF h2 p = aF h p := fun p hp hn => ((fw_fr k2).1 p hp (fun c => hn (List.mem_singleton.mp c))).1.trans (fwk.1 p hp (fun c => by cases c)).1
      have VR : ∀ p, aR h2 p = aR h p := fun p => (r87 p).trans (v2 p)
      refine ⟨x1, by unfold fI; rw [V 0 2 (by decide)]; exact x2, by unfold fI; rw [V 81 4 (by decide)]; exact x3, fun r' hr' => ?_, fun r' s' hr' hs' => ?_, x6, x7, fun r' s' j hr' hs' hm hj => ?_⟩
      · obtain ⟨y1, y2, y3, y4, y5, y6, y7, y8⟩ := x4 r' hr'
        exact ⟨y1, by rw [VR]; exact y2, y3, by rw [frO k2, frO k1]; exact y4, by rw [frVh k2 lF y3 (by decide), frVh k1 lF y3 (by decide)]; exact y5, by rw [frAR k2, frAR k1]; exact y6, by rw [frIh k2 lF y3 (by decide), frIh k1 lF y3 (by decide)]; exact y7, by rw [VF 83 (by decide) (by decide)]; exact y8⟩
      · obtain ⟨y1, y2, ysc, ysm⟩ := x5 r' s' hr' hs'
        have := (x4 r' hr').1
        refine ⟨by rw [VR]; exact y1, y2, ?_, ?_⟩
        · refine SC_fr ?_ y2 lA lF k2
          obtain ⟨o1, o2, o3, o4, o5, o6, o7, o8, o9, o10, o11⟩ := ysc
          refine ⟨by rw [frO k1]; exact o1, o2, o3, by rw [frIh k1 lF y2 (by decide)]; exact o4, by rw [frIh k1 lF y2 (by decide)]; exact o5, by rw [frIh k1 lF y2 (by decide)]; exact o6, by rw [frVh k1 lF y2 (by decide)]; exact o7, by rw [frVh k1 lF y2 (by decide)]; exact o8, by rw [frA k1]; exact o9, ?_⟩
          by_cases c : 8 * r' + s' = 8 * r + s
          · rw [c]
            rw [c] at o10 o11
            simp only [if_true]
            refine ⟨fun j hj => ?_, FL_upd o11 q0 q1 q2 q3⟩
            rw [v1 j]
            try dsimp only
            split
            · rfl
            · exact o10 j hj
          · have hne : τ (8 * r' + s') ≠ τ (8 * r + s) := fun q => c (x7 r' s' r s hr' hs' hr hs q)
            simp only [if_neg c]
            refine ⟨fun j hj => ?_, o11⟩
            rw [frF k1 (fun q => hne (by have := List.mem_singleton.mp q; omega))]
            exact o10 j hj
        · obtain ⟨o1, o2, o3, o4, o5, o6, o7, o8⟩ := ysm
          refine ⟨o1, o2, o3, by rw [VF 84 (by decide) (by decide)]; exact o4, by rw [VF 85 (by decide) (by decide)]; exact o5, by rw [VF 86 (by decide) (by decide)]; exact o6, ?_⟩
          by_cases c : 8 * r' + s' = 8 * r + s
          · rw [c]
            rw [c] at o7 o8
            simp only [if_true]
            refine ⟨fun j hj => ?_, FL_upd o8 q0 q1 q2 q3⟩
            rw [a87w]
            try dsimp only
            by_cases c6 : j = a3.toInt.toNat
            · subst c6
              rw [upd_s, if_pos (Or.inl rfl)]
            · rw [upd_n (by omega), if_neg (by omega)]
              exact o7 j hj
          · simp only [if_neg c]
            refine ⟨fun j hj => ?_, o8⟩
            rw [a87w, upd_n (by omega)]
            exact o7 j hj
      · rw [a87w]
        by_cases c : r' = r ∧ s' = s
        · obtain ⟨c1, c2⟩ := c
          subst c1 c2
          have := hm hr
          omega
        · rw [upd_n (by omega)]
          exact x8 r' s' j hr' hs' hm hj
theorem a_scale (g : G h) (x : RB h n m ρ τ b f t fl) {a1 a2 a3 a4 : Int32} (h2 : a2 = 0 ∨ a2 = 1) (h4 : a4 = 0 ∨ a4 = 1) : AGR X 101 104 [.int a1, .int a2, .int a3, .int a4] h (fun h2 => G h2 ∧ fw [83, 84, 85, 86] [] h h2 ∧ ∃ m' τ' b' f' t' fl', (∀ r, r < n → m r ≤ m' r ∧ ∀ s, s < m r → f' (8 * r + s) = f (8 * r + s) ∧ t' (8 * r + s) = t (8 * r + s)) ∧ RB h2 n m' ρ τ' b' f' t' fl') := by
  have hl := gL g
  have HJ : ∀ h9, G h9 → fw [83, 84, 85, 86] [] h h9 → RB h9 n m ρ τ b f t fl → (G h9 ∧ fw [83, 84, 85, 86] [] h h9 ∧ ∃ m' τ' b' f' t' fl', (∀ r, r < n → m r ≤ m' r ∧ ∀ s, s < m r → f' (8 * r + s) = f (8 * r + s) ∧ t' (8 * r + s) = t (8 * r + s)) ∧ RB h9 n m' ρ τ' b' f' t' fl') := fun h9 g9 k9 x9 => ⟨g9, k9, m, τ, b, f, t, fl, fun r _ => ⟨Nat.le_refl _, fun s _ => ⟨rfl, rfl⟩⟩, x9⟩
  intro Q K
  rw [jE_X11_scale]
  refine jT_X11_scale_0 ?_
  simp (decide := true) only [jgI_ob, jgf_ob, jgL_ob, jpI_ob, jpL_ob, jpR_ob, jpN_ob, jrc_ob, obj_sV, obj_wF, obj_wG, obj_wR, arr_sV, arr_wF, arr_wG, arr_wR, arL_sV, arL_wF, arL_wG, arL_wR, arR_sV, arR_wF, arR_wG, arR_wR, fI_sV (c := 0), fI_sV (c := 1), fI_sV (c := 2), fI_sV (c := 4), fI_sV (c := 5), fI_sV (c := 7), fI_sV (c := 8), fI_sV (c := 9), fI_sV (c := 10), fI_sV (c := 11), fI_sV (c := 12), fI_sV (c := 6), fL_sV (c := 9), fL_sV (c := 12), fI_sV_k, fL_sV_k, fV_sV_k, fI_wF, fI_wG, fI_wR, fL_wF, fL_wG, fL_wR, fV_wF, fV_wG, fV_wR, aF_sV, aG_sV, aR_sV, aF_wG, aF_wR, aG_wF, aG_wR, aR_wF, aR_wG, gO g, gF g, ti_lt, tl, true_and]
  refine c_ruleAt g x (fun c => ?_) (fun r hr er => ?_)
  · try dsimp only [jrI, jrN, jrA, jisr, jnul, jcat1]
    refine K _ _ (fun Q2 H => ?_)
    rw [jE_X12_scale]
    refine jT_X12_scale_0 ?_
    simp (decide := true) only [jgI_ob, jgf_ob, jgL_ob, jpI_ob, jpL_ob, jpR_ob, jpN_ob, jrc_ob, obj_sV, obj_wF, obj_wG, obj_wR, arr_sV, arr_wF, arr_wG, arr_wR, arL_sV, arL_wF, arL_wG, arL_wR, arR_sV, arR_wF, arR_wG, arR_wR, fI_sV (c := 0), fI_sV (c := 1), fI_sV (c := 2), fI_sV (c := 4), fI_sV (c := 5), fI_sV (c := 7), fI_sV (c := 8), fI_sV (c := 9), fI_sV (c := 10), fI_sV (c := 11), fI_sV (c := 12), fI_sV (c := 6), fL_sV (c := 9), fL_sV (c := 12), fI_sV_k, fL_sV_k, fV_sV_k, fI_wF, fI_wG, fI_wR, fL_wF, fL_wG, fL_wR, fV_wF, fV_wG, fV_wR, aF_sV, aG_sV, aR_sV, aF_wG, aF_wR, aG_wF, aG_wR, aR_wF, aR_wG, gM g, gN g, ti_lt, tl, true_and]
    refine c_isRule g x (fun _ => ?_) (fun r' z1 z2 => absurd ⟨by omega, by omega⟩ c)
    exact jif_t rfl (H _ (HJ h g (fw_fr fr_rfl) x))
  · have nn := x.1
    obtain ⟨mm, y2, y3, y4, y5, y6, y7, y8⟩ := x.2.2.2.1 r hr
    have ivr : vp_in a1 4 := by rw [vp_inI]; omega
    try dsimp only [jrI, jrN, jrA, jisr, jnul, jcat1]
    have bad : (a3.toInt < 1 ∨ 3 < a3.toInt ∨ m r = 8) → Q (some (.int (-1))) h := by
      intro cc
      refine K _ _ (fun Q2 H => ?_)
      rw [jE_X12_scale]
      refine jT_X12_scale_0 ?_
      simp (decide := true) only [jgI_ob, jgf_ob, jgL_ob, jpI_ob, jpL_ob, jpR_ob, jpN_ob, jrc_ob, obj_sV, obj_wF, obj_wG, obj_wR, arr_sV, arr_wF, arr_wG, arr_wR, arL_sV, arL_wF, arL_wG, arL_wR, arR_sV, arR_wF, arR_wG, arR_wR, fI_sV (c := 0), fI_sV (c := 1), fI_sV (c := 2), fI_sV (c := 4), fI_sV (c := 5), fI_sV (c := 7), fI_sV (c := 8), fI_sV (c := 9), fI_sV (c := 10), fI_sV (c := 11), fI_sV (c := 12), fI_sV (c := 6), fL_sV (c := 9), fL_sV (c := 12), fI_sV_k, fL_sV_k, fV_sV_k, fI_wF, fI_wG, fI_wR, fL_wF, fL_wG, fL_wR, fV_wF, fV_wG, fV_wR, aF_sV, aG_sV, aR_sV, aF_wG, aF_wR, aG_wF, aG_wR, aR_wF, aR_wG, gM g, gN g, ti_lt, tl, true_and]
      refine c_isRule g x (fun c => absurd ⟨by omega, by omega⟩ c) (fun r' z1 z2 => ?_)
      refine jif_n (by decide) ?_
      simp (decide := true) only [jgI_ob, jgf_ob, jgL_ob, jpI_ob, jpL_ob, jpR_ob, jpN_ob, jrc_ob, obj_sV, obj_wF, obj_wG, obj_wR, arr_sV, arr_wF, arr_wG, arr_wR, arL_sV, arL_wF, arL_wG, arL_wR, arR_sV, arR_wF, arR_wG, arR_wR, fI_sV (c := 0), fI_sV (c := 1), fI_sV (c := 2), fI_sV (c := 4), fI_sV (c := 5), fI_sV (c := 7), fI_sV (c := 8), fI_sV (c := 9), fI_sV (c := 10), fI_sV (c := 11), fI_sV (c := 12), fI_sV (c := 6), fL_sV (c := 9), fL_sV (c := 12), fI_sV_k, fL_sV_k, fV_sV_k, fI_wF, fI_wG, fI_wR, fL_wF, fL_wG, fL_wR, fV_wF, fV_wG, fV_wR, aF_sV, aG_sV, aR_sV, aF_wG, aF_wR, aG_wF, aG_wR, aR_wF, aR_wG, kC, kM, gM g, gN g, ti_lt, ti_eq, ti_clamp, tl, ivr, er, Int.toNat_natCast, y8, true_and]
      have HH := H _ (HJ h g (fw_fr fr_rfl) x)
      refine ⟨fun _ => HH, fun c1 => ⟨fun _ => HH, fun c2 => ⟨fun _ => HH, fun c3 => by omega⟩⟩⟩
    refine ⟨fun c => bad (Or.inl c), fun c1 => ⟨fun c => bad (Or.inr (Or.inl c)), fun c2 => ?_⟩⟩
    simp (decide := true) only [jgI_ob, jgf_ob, jgL_ob, jpI_ob, jpL_ob, jpR_ob, jpN_ob, jrc_ob, obj_sV, obj_wF, obj_wG, obj_wR, arr_sV, arr_wF, arr_wG, arr_wR, arL_sV, arL_wF, arL_wG, arL_wR, arR_sV, arR_wF, arR_wG, arR_wR, fI_sV (c := 0), fI_sV (c := 1), fI_sV (c := 2), fI_sV (c := 4), fI_sV (c := 5), fI_sV (c := 7), fI_sV (c := 8), fI_sV (c := 9), fI_sV (c := 10), fI_sV (c := 11), fI_sV (c := 12), fI_sV (c := 6), fL_sV (c := 9), fL_sV (c := 12), fI_sV_k, fL_sV_k, fV_sV_k, fI_wF, fI_wG, fI_wR, fL_wF, fL_wG, fL_wR, fV_wF, fV_wG, fV_wR, aF_sV, aG_sV, aR_sV, aF_wG, aF_wR, aG_wF, aG_wR, aR_wF, aR_wG, gO g, gF g, y4, true_and]
    rw [jE_X6_addScale]
    refine jT_X6_addScale_0 ?_
    simp (decide := true) only [jgI_ob, jgf_ob, jgL_ob, jpI_ob, jpL_ob, jpR_ob, jpN_ob, jrc_ob, obj_sV, obj_wF, obj_wG, obj_wR, arr_sV, arr_wF, arr_wG, arr_wR, arL_sV, arL_wF, arL_wG, arL_wR, arR_sV, arR_wF, arR_wG, arR_wR, fI_sV (c := 0), fI_sV (c := 1), fI_sV (c := 2), fI_sV (c := 4), fI_sV (c := 5), fI_sV (c := 7), fI_sV (c := 8), fI_sV (c := 9), fI_sV (c := 10), fI_sV (c := 11), fI_sV (c := 12), fI_sV (c := 6), fL_sV (c := 9), fL_sV (c := 12), fI_sV_k, fL_sV_k, fV_sV_k, fI_wF, fI_wG, fI_wR, fL_wF, fL_wG, fL_wR, fV_wF, fV_wG, fV_wR, aF_sV, aG_sV, aR_sV, aF_wG, aF_wR, aG_wF, aG_wR, aR_wF, aR_wG, y4, y5, ti_lt, tl, y7]
    refine ⟨fun c3 => ?_, fun c3 => bad (Or.inr (Or.inr (by omega)))⟩
    refine ⟨by decide, by decide, by decide, ?_⟩
    try dsimp only [jrI, jrN, jrA, jisr, jnul, jcat1]
    refine raw_rc get_end ⟨by decide, by decide, ?_⟩
    refine n_Scale get_end ((get_app (by omega)).trans (law_at g)) h2 h4 ?_
    try dsimp only [jrI, jrN, jrA, jisr, jnul, jcat1]
    have ef : ∃ k : Nat, a3 = nI k ∧ 1 ≤ k ∧ k ≤ 3 := ⟨a3.toInt.toNat, by rw [ti_eq, nI_toInt (by omega)]; omega, by omega, by omega⟩
    obtain ⟨k, ek, k1, k3⟩ := ef
    have eb2 : a2 = bi (decide (a2 = 1)) := by rcases h2 with e | e <;> subst e <;> rfl
    have eb4 : a4 = bi (decide (a4 = 1)) := by rcases h4 with e | e <;> subst e <;> rfl
    have epl : (if a3 = 1 then Value.ref 2 else if a3 = 2 then Value.ref 3 else Value.ref 4) = Value.ref (1 + k) := by
      rw [ek]
      rcases (show k = 1 ∨ k = 2 ∨ k = 3 by omega) with e | e | e <;> subst e <;> rfl
    rw [epl]
    have eh : jBk (h ++ [.inr (8, jfs0 8)]) h.length 8 [.int a2, .int a3, .int a4, .ref (1 + k), .ref (h ++ [(.inr (8, jfs0 8) : JC)]).length, .int 0, .int 0, .int 0] [(.inl (.int, 17, .inl fun _ => 0))] = h ++ [.inr (8, [.int a2, .int a3, .int a4, .ref (1 + k), .ref (h.length + 1), .int 0, .int 0, .int 0]), (.inl (.int, 17, .inl fun _ => 0))] := by
      unfold jBk
      rw [set_end, len_app, List.append_assoc]
      rfl
    rw [eh]
    have k0 : fe h (h ++ [.inr (8, [.int a2, .int a3, .int a4, .ref (1 + k), .ref (h.length + 1), .int 0, .int 0, .int 0]), (.inl (.int, 17, .inl fun _ => 0))]) := fe_app
    have c0 : (h ++ [.inr (8, [.int a2, .int a3, .int a4, .ref (1 + k), .ref (h.length + 1), .int 0, .int 0, .int 0]), (.inl (.int, 17, .inl fun _ => 0))])[h.length]? = some (.inr (8, [.int a2, .int a3, .int a4, .ref (1 + k), .ref (h.length + 1), .int 0, .int 0, .int 0])) := by simp
    have c9 : (h ++ [.inr (8, [.int a2, .int a3, .int a4, .ref (1 + k), .ref (h.length + 1), .int 0, .int 0, .int 0]), (.inl (.int, 17, .inl fun _ => 0))])[h.length + 1]? = some (.inl (.int, 17, .inl fun _ => 0)) := by
      rw [List.getElem?_append_right (by omega)]
      simp
    generalize (h ++ [.inr (8, [.int a2, .int a3, .int a4, .ref (1 + k), .ref (h.length + 1), .int 0, .int 0, .int 0]), (.inl (.int, 17, .inl fun _ => 0))]) = h1 at k0 c0 c9
    have g1 := G_fe g k0
    have xx := RB_fe g x k0
    have o1 : obj h1 h.length 8 := by unfold obj sh; rw [c0]; rfl
    have o2 : arr h1 (h.length + 1) .int 17 := by unfold arr sh; rw [c9]; rfl
    have sc1 : SC h1 h.length (decide (a2 = 1)) k (decide (a4 = 1)) (fun _ => 0) := by
      refine ⟨o1, k1, k3, ?_, ?_, ?_, ?_, ?_, o2, fun j _ => ?_, FL_0⟩
      · rw [← eb2]; unfold fI fV; rw [c0]; rfl
      · rw [← ek]; unfold fI fV; rw [c0]; rfl
      · rw [← eb4]; unfold fI fV; rw [c0]; rfl
      · unfold fV; rw [c0]; rfl
      · unfold fV; rw [c0]; rfl
      · unfold aF; rw [c9]; rfl
    obtain ⟨z1, z2, z3, z4, z5, z6, z7, z8⟩ := xx.2.2.2.1 r hr
    have e7 : fI h1 (ρ r) 1 = fI h (ρ r) 1 := fe_I k0 (ob_lt y4)
    rw [jwA_ar z6 o1]
    have iv8 : vp_in (fI h (ρ r) 1) 8 := by rw [vp_inI]; omega
    refine ⟨iv8, ?_⟩
    simp (decide := true) only [jgI_ob, jgf_ob, jgL_ob, jpI_ob, jpL_ob, jpR_ob, jpN_ob, jrc_ob, obj_sV, obj_wF, obj_wG, obj_wR, arr_sV, arr_wF, arr_wG, arr_wR, arL_sV, arL_wF, arL_wG, arL_wR, arR_sV, arR_wF, arR_wG, arR_wR, fI_sV (c := 0), fI_sV (c := 1), fI_sV (c := 2), fI_sV (c := 4), fI_sV (c := 5), fI_sV (c := 7), fI_sV (c := 8), fI_sV (c := 9), fI_sV (c := 10), fI_sV (c := 11), fI_sV (c := 12), fI_sV (c := 6), fL_sV (c := 9), fL_sV (c := 12), fI_sV_k, fL_sV_k, fV_sV_k, fI_wF, fI_wG, fI_wR, fL_wF, fL_wG, fL_wR, fV_wF, fV_wG, fV_wR, aF_sV, aG_sV, aR_sV, aF_wG, aF_wR, aG_wF, aG_wR, aR_wF, aR_wG, z4, e7]
    refine K _ _ (fun Q2 H => ?_)
    have ec : (fI h (ρ r) 1).toNatClampNeg = m r := by rw [ti_clamp, y7]; rfl
    rw [ec]
    -- the class's end: h3
    have q1 : fr [ρ r + 1] [(ρ r, 1)] h1 (sV (wR h1 (ρ r + 1) (va_up (aR h1 (ρ r + 1)) (m r) (some h.length))) (ρ r) 1 (.int (fI h (ρ r) 1 + 1))) := fr_sV (List.mem_singleton.mpr rfl) (fr_wR (List.mem_singleton.mpr rfl) fr_rfl)
    have qR : aR (sV (wR h1 (ρ r + 1) (va_up (aR h1 (ρ r + 1)) (m r) (some h.length))) (ρ r) 1 (.int (fI h (ρ r) 1 + 1))) (ρ r + 1) = va_up (aR h1 (ρ r + 1)) (m r) (some h.length) := by
      rw [aR_sV, aR_wR z6]
    have qF : ∀ p, aF (sV (wR h1 (ρ r + 1) (va_up (aR h1 (ρ r + 1)) (m r) (some h.length))) (ρ r) 1 (.int (fI h (ρ r) 1 + 1))) p = aF h1 p := fun p => by rw [aF_sV, aF_wR]
    have q7 : fI (sV (wR h1 (ρ r + 1) (va_up (aR h1 (ρ r + 1)) (m r) (some h.length))) (ρ r) 1 (.int (fI h (ρ r) 1 + 1))) (ρ r) 1 = fI h (ρ r) 1 + 1 := by
      rw [fI_sV (c := 6) (by rw [obj_wR]; exact z4) rfl]
    have g2 : G (sV (wR h1 (ρ r + 1) (va_up (aR h1 (ρ r + 1)) (m r) (some h.length))) (ρ r) 1 (.int (fI h (ρ r) 1 + 1))) := by
      refine G_fr (A := [ρ r + 1]) (F := [(ρ r, 1)]) g1 ?_ q1
      have a := keep_hi (p := ρ r + 1) (F := []) (by omega) rfl
      exact keep_hf y3 a
    generalize (sV (wR h1 (ρ r + 1) (va_up (aR h1 (ρ r + 1)) (m r) (some h.length))) (ρ r) 1 (.int (fI h (ρ r) 1 + 1))) = h3 at q1 qR qF q7 g2 H ⊢
    have w3 : fw [] [] h h3 := fw_trans (fw_fe k0 hl) ⟨fun p hp _ => q1.2.2.1 p (fun c => by have := List.mem_singleton.mp c; omega), fun p j hp _ => q1.2.2.2 p j (fun c => by have := List.mem_singleton.mp c; have := congrArg Prod.fst this; dsimp only at this; omega) (fun c => by omega)⟩
    have V4 : (fI h3 81 4).toInt = n := by unfold fI; rw [w3.2 81 4 (by decide) (fun c => by cases c)]; exact x.2.2.1
    have V83 : aF h3 83 = aF h 83 := (w3.1 83 (by decide) (fun c => by cases c)).1
    have V84 : aF h3 84 = aF h 84 := (w3.1 84 (by decide) (fun c => by cases c)).1
    have V85 : aF h3 85 = aF h 85 := (w3.1 85 (by decide) (fun c => by cases c)).1
    have V86 : aF h3 86 = aF h 86 := (w3.1 86 (by decide) (fun c => by cases c)).1
    have V87 : aF h3 87 = aF h 87 := (w3.1 87 (by decide) (fun c => by cases c)).1
    rw [jE_X12_scale]
    refine jT_X12_scale_0 ?_
    simp (decide := true) only [jgI_ob, jgf_ob, jgL_ob, jpI_ob, jpL_ob, jpR_ob, jpN_ob, jrc_ob, obj_sV, obj_wF, obj_wG, obj_wR, arr_sV, arr_wF, arr_wG, arr_wR, arL_sV, arL_wF, arL_wG, arL_wR, arR_sV, arR_wF, arR_wG, arR_wR, fI_sV (c := 0), fI_sV (c := 1), fI_sV (c := 2), fI_sV (c := 4), fI_sV (c := 5), fI_sV (c := 7), fI_sV (c := 8), fI_sV (c := 9), fI_sV (c := 10), fI_sV (c := 11), fI_sV (c := 12), fI_sV (c := 6), fL_sV (c := 9), fL_sV (c := 12), fI_sV_k, fL_sV_k, fV_sV_k, fI_wF, fI_wG, fI_wR, fL_wF, fL_wG, fL_wR, fV_wF, fV_wG, fV_wR, aF_sV, aG_sV, aR_sV, aF_wG, aF_wR, aG_wF, aG_wR, aR_wF, aR_wG, gM g2, gN g2, ti_lt, tl, true_and]
    rw [jE_X12_isRule]
    refine jT_X12_isRule_0 ?_
    simp (decide := true) only [jgI_ob, jgf_ob, jgL_ob, jpI_ob, jpL_ob, jpR_ob, jpN_ob, jrc_ob, obj_sV, obj_wF, obj_wG, obj_wR, arr_sV, arr_wF, arr_wG, arr_wR, arL_sV, arL_wF, arL_wG, arL_wR, arR_sV, arR_wF, arR_wG, arR_wR, fI_sV (c := 0), fI_sV (c := 1), fI_sV (c := 2), fI_sV (c := 4), fI_sV (c := 5), fI_sV (c := 7), fI_sV (c := 8), fI_sV (c := 9), fI_sV (c := 10), fI_sV (c := 11), fI_sV (c := 12), fI_sV (c := 6), fL_sV (c := 9), fL_sV (c := 12), fI_sV_k, fL_sV_k, fV_sV_k, fI_wF, fI_wG, fI_wR, fL_wF, fL_wG, fL_wR, fV_wF, fV_wG, fV_wR, aF_sV, aG_sV, aR_sV, aF_wG, aF_wR, aG_wF, aG_wR, aR_wF, aR_wG, gM g2, ti_lt, tl, V4, true_and]
    refine jif_n (by omega) (jif_t (by omega) ?_)
    try dsimp only [jrI, jrN, jrA, jisr, jnul, jcat1]
    refine jif_n (by decide) ?_
    have n2 := nar_z h2
    have n4 := nar_z h4
    have ei : (8 * a1 + aF h 83 r).toInt = ((8 * r + m r : Nat) : Int) := (by simp only [Int32.toInt_add, Int32.toInt_sub, Int32.toInt_mul, Int32.toInt_neg, Int.bmod_def, tl]; omega)
    have ivk : vp_in (8 * a1 + aF h 83 r) 32 := by rw [vp_inI, ei]; omega
    simp (decide := true) only [jgI_ob, jgf_ob, jgL_ob, jpI_ob, jpL_ob, jpR_ob, jpN_ob, jrc_ob, obj_sV, obj_wF, obj_wG, obj_wR, arr_sV, arr_wF, arr_wG, arr_wR, arL_sV, arL_wF, arL_wG, arL_wR, arR_sV, arR_wF, arR_wG, arR_wR, fI_sV (c := 0), fI_sV (c := 1), fI_sV (c := 2), fI_sV (c := 4), fI_sV (c := 5), fI_sV (c := 7), fI_sV (c := 8), fI_sV (c := 9), fI_sV (c := 10), fI_sV (c := 11), fI_sV (c := 12), fI_sV (c := 6), fL_sV (c := 9), fL_sV (c := 12), fI_sV_k, fL_sV_k, fV_sV_k, fI_wF, fI_wG, fI_wR, fL_wF, fL_wG, fL_wR, fV_wF, fV_wG, fV_wR, aF_sV, aG_sV, aR_sV, aF_wG, aF_wR, aG_wF, aG_wR, aR_wF, aR_wG, kC, kM, gM g2, gN g2, ti_lt, ti_eq, ti_clamp, tl, ivr, er, ei, ivk, Int.toNat_natCast, V83, y8, true_and, n2, n4, fV_wF, aF_wF_ne, jcat1, upd_s]
    refine jif_n (by omega) (jif_n (by omega) (jif_n (by omega) ?_))
    have ev : fI h (ρ r) 1 + 1 - 1 = aF h 83 r + 1 - 1 := by
      have : fI h (ρ r) 1 = aF h 83 r := by rw [ti_eq, y7, y8]
      rw [this]
    rw [← ev]
    have K2 : fr [83, 84, 85, 86] [] h3 (wF (wF (wF (wF h3 84 (upd (aF h3 84) (8 * r + m r) a2)) 85 (upd (aF h3 85) (8 * r + m r) a3)) 86 (upd (aF h3 86) (8 * r + m r) a4)) 83 (upd (aF h 83) r (aF h 83 r + 1))) := fr_wF (by decide) (fr_wF (by decide) (fr_wF (by decide) (fr_wF (by decide) fr_rfl)))
    have A83 : aF (wF (wF (wF (wF h3 84 (upd (aF h3 84) (8 * r + m r) a2)) 85 (upd (aF h3 85) (8 * r + m r) a3)) 86 (upd (aF h3 86) (8 * r + m r) a4)) 83 (upd (aF h 83) r (aF h 83 r + 1))) 83 = upd (aF h 83) r (aF h 83 r + 1) := by
      simp (decide := true) only [jgI_ob, jgf_ob, jgL_ob, jpI_ob, jpL_ob, jpR_ob, jpN_ob, jrc_ob, obj_sV, obj_wF, obj_wG, obj_wR, arr_sV, arr_wF, arr_wG, arr_wR, arL_sV, arL_wF, arL_wG, arL_wR, arR_sV, arR_wF, arR_wG, arR_wR, fI_sV (c := 0), fI_sV (c := 1), fI_sV (c := 2), fI_sV (c := 4), fI_sV (c := 5), fI_sV (c := 7), fI_sV (c := 8), fI_sV (c := 9), fI_sV (c := 10), fI_sV (c := 11), fI_sV (c := 12), fI_sV (c := 6), fL_sV (c := 9), fL_sV (c := 12), fI_sV_k, fL_sV_k, fV_sV_k, fI_wF, fI_wG, fI_wR, fL_wF, fL_wG, fL_wR, fV_wF, fV_wG, fV_wR, aF_sV, aG_sV, aR_sV, aF_wG, aF_wR, aG_wF, aG_wR, aR_wF, aR_wG, kC, kM, gM g2]
    have A84 : aF (wF (wF (wF (wF h3 84 (upd (aF h3 84) (8 * r + m r) a2)) 85 (upd (aF h3 85) (8 * r + m r) a3)) 86 (upd (aF h3 86) (8 * r + m r) a4)) 83 (upd (aF h 83) r (aF h 83 r + 1))) 84 = upd (aF h 84) (8 * r + m r) a2 := by
      simp (decide := true) only [jgI_ob, jgf_ob, jgL_ob, jpI_ob, jpL_ob, jpR_ob, jpN_ob, jrc_ob, obj_sV, obj_wF, obj_wG, obj_wR, arr_sV, arr_wF, arr_wG, arr_wR, arL_sV, arL_wF, arL_wG, arL_wR, arR_sV, arR_wF, arR_wG, arR_wR, fI_sV (c := 0), fI_sV (c := 1), fI_sV (c := 2), fI_sV (c := 4), fI_sV (c := 5), fI_sV (c := 7), fI_sV (c := 8), fI_sV (c := 9), fI_sV (c := 10), fI_sV (c := 11), fI_sV (c := 12), fI_sV (c := 6), fL_sV (c := 9), fL_sV (c := 12), fI_sV_k, fL_sV_k, fV_sV_k, fI_wF, fI_wG, fI_wR, fL_wF, fL_wG, fL_wR, fV_wF, fV_wG, fV_wR, aF_sV, aG_sV, aR_sV, aF_wG, aF_wR, aG_wF, aG_wR, aR_wF, aR_wG, kC, kM, gM g2, aF_wF_ne, V84]
    have A85 : aF (wF (wF (wF (wF h3 84 (upd (aF h3 84) (8 * r + m r) a2)) 85 (upd (aF h3 85) (8 * r + m r) a3)) 86 (upd (aF h3 86) (8 * r + m r) a4)) 83 (upd (aF h 83) r (aF h 83 r + 1))) 85 = upd (aF h 85) (8 * r + m r) a3 := by
      simp (decide := true) only [jgI_ob, jgf_ob, jgL_ob, jpI_ob, jpL_ob, jpR_ob, jpN_ob, jrc_ob, obj_sV, obj_wF, obj_wG, obj_wR, arr_sV, arr_wF, arr_wG, arr_wR, arL_sV, arL_wF, arL_wG, arL_wR, arR_sV, arR_wF, arR_wG, arR_wR, fI_sV (c := 0), fI_sV (c := 1), fI_sV (c := 2), fI_sV (c := 4), fI_sV (c := 5), fI_sV (c := 7), fI_sV (c := 8), fI_sV (c := 9), fI_sV (c := 10), fI_sV (c := 11), fI_sV (c := 12), fI_sV (c := 6), fL_sV (c := 9), fL_sV (c := 12), fI_sV_k, fL_sV_k, fV_sV_k, fI_wF, fI_wG, fI_wR, fL_wF, fL_wG, fL_wR, fV_wF, fV_wG, fV_wR, aF_sV, aG_sV, aR_sV, aF_wG, aF_wR, aG_wF, aG_wR, aR_wF, aR_wG, kC, kM, gM g2, aF_wF_ne, V85]
    have A86 : aF (wF (wF (wF (wF h3 84 (upd (aF h3 84) (8 * r + m r) a2)) 85 (upd (aF h3 85) (8 * r + m r) a3)) 86 (upd (aF h3 86) (8 * r + m r) a4)) 83 (upd (aF h 83) r (aF h 83 r + 1))) 86 = upd (aF h 86) (8 * r + m r) a4 := by
      simp (decide := true) only [jgI_ob, jgf_ob, jgL_ob, jpI_ob, jpL_ob, jpR_ob, jpN_ob, jrc_ob, obj_sV, obj_wF, obj_wG, obj_wR, arr_sV, arr_wF, arr_wG, arr_wR, arL_sV, arL_wF, arL_wG, arL_wR, arR_sV, arR_wF, arR_wG, arR_wR, fI_sV (c := 0), fI_sV (c := 1), fI_sV (c := 2), fI_sV (c := 4), fI_sV (c := 5), fI_sV (c := 7), fI_sV (c := 8), fI_sV (c := 9), fI_sV (c := 10), fI_sV (c := 11), fI_sV (c := 12), fI_sV (c := 6), fL_sV (c := 9), fL_sV (c := 12), fI_sV_k, fL_sV_k, fV_sV_k, fI_wF, fI_wG, fI_wR, fL_wF, fL_wG, fL_wR, fV_wF, fV_wG, fV_wR, aF_sV, aG_sV, aR_sV, aF_wG, aF_wR, aG_wF, aG_wR, aR_wF, aR_wG, kC, kM, gM g2, aF_wF_ne, V86]
    have AR' : ∀ p, aR (wF (wF (wF (wF h3 84 (upd (aF h3 84) (8 * r + m r) a2)) 85 (upd (aF h3 85) (8 * r + m r) a3)) 86 (upd (aF h3 86) (8 * r + m r) a4)) 83 (upd (aF h 83) r (aF h 83 r + 1))) p = aR h3 p := fun p => by rw [aR_wF, aR_wF, aR_wF, aR_wF]
    generalize (wF (wF (wF (wF h3 84 (upd (aF h3 84) (8 * r + m r) a2)) 85 (upd (aF h3 85) (8 * r + m r) a3)) 86 (upd (aF h3 86) (8 * r + m r) a4)) 83 (upd (aF h 83) r (aF h 83 r + 1))) = h4 at K2 A83 A84 A85 A86 AR' ⊢
    have A87 : aF h4 87 = aF h 87 := (frF K2 (by decide)).trans V87
    refine H h4 ⟨G_fr g2 rfl K2, fw_trans (fw_mono (fun p _ c => by cases c) (fun p _ c => by cases c) w3) (fw_fr K2), fun q => if q = r then m r + 1 else m q, fun k => if k = 8 * r + m r then h.length else τ k, fun k => if k = 8 * r + m r then decide (a2 = 1) else b k, fun w => if w = 8 * r + m r then k else f w, fun k => if k = 8 * r + m r then decide (a4 = 1) else t k, fun k => if k = 8 * r + m r then (fun _ => 0) else fl k, fun q hq => ⟨?_, fun s hs => ?_⟩, ?_⟩
    · dsimp only
      split
      · rename_i e; subst e; omega
      · exact Nat.le_refl _
    · have := (x.2.2.2.1 q hq).1
      have ne : 8 * q + s ≠ 8 * r + m r := fun e => by
        have : q = r := by omega
        subst this
        omega
      exact ⟨if_neg ne, if_neg ne⟩
    · obtain ⟨x1, x2, x3, x4, x5, x6, x7, x8⟩ := id x
      obtain ⟨-, -, -, u4, u5, -, -, -⟩ := id xx
      have lA : lowA [83, 84, 85, 86] := lowA_of rfl
      have lF : lowF ([] : List (Nat × Nat)) := lowF_of rfl
      have es : (aF h 83 r + 1).toInt = ((m r + 1 : Nat) : Int) := (by simp only [Int32.toInt_add, Int32.toInt_sub, Int32.toInt_mul, Int32.toInt_neg, Int.bmod_def, tl]; omega)
      refine ⟨x1, ?_, ?_, fun r' hr' => ?_, fun r' s' hr' hs' => ?_, x6, fun r1 s1 r2 s2 hr1 hs1 hr2 hs2 e => ?_, fun r' s' j hr' hs' hm hj => ?_⟩
      · unfold fI; rw [frV K2 (fun c => by cases c) (by decide), w3.2 0 2 (by decide) (fun c => by cases c)]; exact x2
      · unfold fI; rw [frV K2 (fun c => by cases c) (by decide), w3.2 81 4 (by decide) (fun c => by cases c)]; exact x3
      · obtain ⟨v1, v2, v3, v4, v5, v6, v7, v8⟩ := u4 r' hr'
        have E0 : fV h4 (ρ r') 0 = fV h1 (ρ r') 0 := by
          rw [frVh K2 lF v3 (by decide)]
          exact frV q1 (fun c => by have := congrArg Prod.snd (List.mem_singleton.mp c); dsimp only at this; omega) (fun _ => by decide)
        dsimp only
        refine ⟨?_, ?_, v3, by rw [frO K2, frO q1]; exact v4, by rw [E0]; exact v5, by rw [frAR K2, frAR q1]; exact v6, ?_, ?_⟩
        · split <;> omega
        · rw [AR', frR q1 (fun c => by have := List.mem_singleton.mp c; omega)]; exact v2
        · by_cases c : r' = r
          · subst c
            rw [if_pos rfl, frIh K2 lF v3 (by decide), q7]
            have : (fI h (ρ r') 1 + 1).toInt = (fI h (ρ r') 1).toInt + 1 := (by simp only [Int32.toInt_add, Int32.toInt_sub, Int32.toInt_mul, Int32.toInt_neg, Int.bmod_def, tl]; omega)
            rw [this, y7]; rfl
          · rw [if_neg c, frIh K2 lF v3 (by decide), frI q1 (fun d => c (x6 r' r hr' hr (congrArg Prod.fst (List.mem_singleton.mp d)))) (fun _ => by decide)]
            exact v7
        · rw [A83]
          by_cases c : r' = r
          · subst c
            rw [upd_s, if_pos rfl]; exact es
          · rw [upd_n c, if_neg c]
            exact (x4 r' hr').2.2.2.2.2.2.2
      · have m8 := (x4 r' hr').1
        dsimp only at hs' ⊢
        by_cases c : r' = r ∧ s' = m r
        · obtain ⟨c1, c2⟩ := c
          subst c1 c2
          simp only [if_true]
          refine ⟨by rw [AR', qR, va_s], by omega, ?_, ?_⟩
          · refine SC_fr ?_ (by omega) lA lF K2
            obtain ⟨o1, o2, o3, o4, o5, o6, o7, o8, o9, o10, o11⟩ := sc1
            have nq : ∀ k, (h.length, k) ∉ [(ρ r', 1)] := fun k c => by
              have := congrArg Prod.fst (List.mem_singleton.mp c)
              dsimp only at this
              have := ob_lt y4
              omega
            refine ⟨by rw [frO q1]; exact o1, o2, o3, by rw [frI q1 (nq 0) (fun _ => by decide)]; exact o4, by rw [frI q1 (nq 1) (fun _ => by decide)]; exact o5, by rw [frI q1 (nq 2) (fun _ => by decide)]; exact o6, by rw [frV q1 (nq 3) (fun _ => by decide)]; exact o7, by rw [frV q1 (nq 4) (fun _ => by decide)]; exact o8, by rw [frA q1]; exact o9, by rw [qF]; exact o10, o11⟩
          · refine ⟨by omega, k1, k3, by rw [A84, upd_s]; exact eb2, by rw [A85, upd_s]; exact ek, by rw [A86, upd_s]; exact eb4, fun j hj => ?_, FL_0⟩
            rw [A87, x8 r' (m r') j (by omega) (by omega) (fun _ => Nat.le_refl _) hj]
            rfl
        · have hs2 : s' < m r' := by
            by_cases d : r' = r
            · subst d
              rw [if_pos rfl] at hs'
              omega
            · rw [if_neg d] at hs'
              exact hs'
          have ne : 8 * r' + s' ≠ 8 * r + m r := fun e => c (by
            have : r' = r := by omega
            subst this
            exact ⟨rfl, by omega⟩)
          simp only [if_neg ne]
          obtain ⟨v1, v2, v3, v4⟩ := u5 r' s' hr' hs2
          obtain ⟨-, -, -, sm0⟩ := x5 r' s' hr' hs2
          refine ⟨?_, v2, ?_, ?_⟩
          · rw [AR']
            by_cases d : r' = r
            · subst d
              rw [qR, va_n (by omega)]; exact v1
            · rw [frR q1 (fun e => d (x6 r' r hr' hr (by have := List.mem_singleton.mp e; omega)))]; exact v1
          · refine SC_fr ?_ v2 lA lF K2
            obtain ⟨o1, o2, o3, o4, o5, o6, o7, o8, o9, o10, o11⟩ := v3
            have nq : ∀ k, (τ (8 * r' + s'), k) ∉ [(ρ r, 1)] := fun k c => by
              have c1 := congrArg Prod.fst (List.mem_singleton.mp c)
              dsimp only at c1
              rw [c1] at o1
              unfold obj at o1 z4
              rw [z4] at o1
              exact absurd o1 (by decide)
            refine ⟨by rw [frO q1]; exact o1, o2, o3, by rw [frI q1 (nq 0) (fun _ => by decide)]; exact o4, by rw [frI q1 (nq 1) (fun _ => by decide)]; exact o5, by rw [frI q1 (nq 2) (fun _ => by decide)]; exact o6, by rw [frV q1 (nq 3) (fun _ => by decide)]; exact o7, by rw [frV q1 (nq 4) (fun _ => by decide)]; exact o8, by rw [frA q1]; exact o9, by rw [qF]; exact o10, o11⟩
          · obtain ⟨o1, o2, o3, o4, o5, o6, o7, o8⟩ := sm0
            exact ⟨o1, o2, o3, by rw [A84, upd_n ne]; exact o4, by rw [A85, upd_n ne]; exact o5, by rw [A86, upd_n ne]; exact o6, by rw [A87]; exact o7, o8⟩
      · have L : ∀ r1 s1, r1 < n → s1 < (if r1 = r then m r + 1 else m r1) → 8 * r1 + s1 ≠ 8 * r + m r → s1 < m r1 := fun r1 s1 h1 h2 ne => by
          by_cases d : r1 = r
          · subst d
            rw [if_pos rfl] at h2
            omega
          · rw [if_neg d] at h2
            exact h2
        dsimp only at hs1 hs2 e
        by_cases c1 : 8 * r1 + s1 = 8 * r + m r
        · by_cases c2 : 8 * r2 + s2 = 8 * r + m r
          · omega
          · rw [if_pos c1, if_neg c2] at e
            have := ob_lt (x5 r2 s2 hr2 (L r2 s2 hr2 hs2 c2)).2.2.1.1
            omega
        · by_cases c2 : 8 * r2 + s2 = 8 * r + m r
          · rw [if_neg c1, if_pos c2] at e
            have := ob_lt (x5 r1 s1 hr1 (L r1 s1 hr1 hs1 c1)).2.2.1.1
            omega
          · rw [if_neg c1, if_neg c2] at e
            exact x7 r1 s1 r2 s2 hr1 (L r1 s1 hr1 hs1 c1) hr2 (L r2 s2 hr2 hs2 c2) e
      · rw [A87]
        refine x8 r' s' j hr' hs' (fun hn => ?_) hj
        have := hm hn
        dsimp only at this
        by_cases d : r' = r
        · subst d
          rw [if_pos rfl] at this
          omega
        · rw [if_neg d] at this
          exact this
end SCAL
