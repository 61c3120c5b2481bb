/-! A RUN: the model looks, and asks for values -/
def vsn (p : Nat × Nat × Nat) (pl : Int) : V6 := fun w => if w = 0 then ((p.1 % 900 + 100 : Nat) : Int) else if w = 1 then pl + ((p.1 / 900 : Nat) : Int) else if w = 2 then ((p.2.1 % 900 + 100 : Nat) : Int) else if w = 3 then pl + ((p.2.1 / 900 : Nat) : Int) else if w = 4 then ((p.2.2 % 900 + 100 : Nat) : Int) else pl + ((p.2.2 / 900 : Nat) : Int)
def lkX (x : S7) (b : Bool) : Int := zh x - (if b then 0 else zs x)
def lkQ (ey : Int) (x : S7) (b : Bool) : Int := ey + zv x + (if b then 0 else zu x)
noncomputable def lkV (ey : Int) (x : S7) (b : Bool) (f : Nat) (t : Bool) (fl : Nat → Int) (pl : Int) : V6 := vsn (see3 (gp f t fl (lkX x b)) (900 * f) (lkQ ey x b)) pl
def inP (v : V6) : Prop := (-99 ≤ v 1 ∧ v 1 ≤ 99) ∧ (-99 ≤ v 3 ∧ v 3 ≤ 99) ∧ (-99 ≤ v 5 ∧ v 5 ≤ 99)
/-- what a look comes to: 0, or why it breaks -/
noncomputable def lkW (ey : Int) (x : S7) (b : Bool) (f : Nat) (t : Bool) (fl : Nat → Int) (pl : Int) : Int := if lkX x b < 0 ∨ 4096 < lkX x b then 5 else if (-99 ≤ lkV ey x b f t fl pl 1 ∧ lkV ey x b f t fl pl 1 ≤ 99) ∧ (-99 ≤ lkV ey x b f t fl pl 3 ∧ lkV ey x b f t fl pl 3 ≤ 99) ∧ (-99 ≤ lkV ey x b f t fl pl 5 ∧ lkV ey x b f t fl pl 5 ≤ 99) then 0 else 3
section MLK
variable {X : JX} {d : Nat} {Q : JQ} {h : JH} {k p f : Nat} {b t : Bool} {fl : Nat → Int} {x : S7} {ey : Int} {v : V6}
theorem c_lookBy0 (g : G h) {e e2 : Int32} (H0 : ∀ h1, fr [] mF h h1 → (fI h1 81 52).toInt = 2 → Q (some (.int 0)) h1) : jex X (d + 5) 209 [.ref 81, .int (-1), .int e, .int e2] h Q := by
  rw [jE_X12_lookBy]
  refine jT_X12_lookBy_0 (jif_t (by decide) ?_)
  rw [jrc_ob (by simp only [gM g])]
  refine c_breaks g ?_
  try dsimp only [jrI, jrN, jrA, jisr, jnul, jcat1]
  refine ⟨by decide, H0 _ (fr_sV (by decide) fr_rfl) ?_⟩
  simp (decide := true) only [jgI_ob, jgf_ob, jgL_ob, jpI_ob, jpL_ob, jpR_ob, jpN_ob, jrc_ob, obj_sV, obj_wF, obj_wG, obj_wR, arr_sV, arr_wF, arr_wG, arr_wR, arL_sV, arL_wF, arL_wG, arL_wR, arR_sV, arR_wF, arR_wG, arR_wR, fI_sV (c := 0), fI_sV (c := 1), fI_sV (c := 2), fI_sV (c := 4), fI_sV (c := 5), fI_sV (c := 7), fI_sV (c := 8), fI_sV (c := 9), fI_sV (c := 10), fI_sV (c := 11), fI_sV (c := 12), fI_sV (c := 6), fL_sV (c := 9), fL_sV (c := 12), fI_sV_k, fL_sV_k, fV_sV_k, fI_wF, fI_wG, fI_wR, fL_wF, fL_wG, fL_wR, fV_wF, fV_wG, fV_wR, aF_sV, aG_sV, aR_sV, aF_wG, aF_wR, aG_wF, aG_wR, aR_wF, aR_wG, gM g]
theorem c_lookBy (g : G h) (sm : SM h k b f t fl) (mx : MX h x) (s0 : -4096 ≤ zs x) (s1 : zs x ≤ 4096) (h0 : 0 ≤ zh x) (h1 : zh x ≤ 4096) (u0 : 0 ≤ zu x) (u1 : zu x ≤ 1000000) (v0 : 0 ≤ zv x) (v1 : zv x ≤ 1000000) (e11 : (fI h 81 11).toInt = ey) (y0 : 0 ≤ ey) (y40 : ey ≤ 40) (hp : p < 210) {e : Int32} {pl : Int} (epl : e.toInt = pl) (p0 : -1000000 ≤ pl) (p1 : pl ≤ 1000000) (H1 : lkW ey x b f t fl pl = 0 → ∀ h2, fr [89, 111] [(81, 52)] h h2 → PW h2 p (lkV ey x b f t fl pl) → (∀ j, (j < 6 * p ∨ 6 * p + 6 ≤ j) → aF h2 111 j = aF h 111 j) → Q (some (.int 1)) h2) (H0 : lkW ey x b f t fl pl ≠ 0 → ∀ h2, fr [89, 111] [(81, 52)] h h2 → (fI h2 81 52).toInt = lkW ey x b f t fl pl → Q (some (.int 0)) h2) : jex X (d + 5) 209 [.ref 81, .int (nI k), .int (nI p), .int e] h Q := by
  obtain ⟨m1, m2, m3, m4, m5, m6, m7⟩ := id mx
  obtain ⟨k32, f1, f3, b84, b85, b86, fls, FLf⟩ := id sm
  have eX : mkx h b = lkX x b := by unfold mkx lkX; rw [m1, m2]
  have eQ : mkq h b = lkQ ey x b := by unfold mkq lkQ; rw [e11, m3, m4]
  rw [jE_X12_lookBy]
  refine jT_X12_lookBy_0 (jif_n (nI_pos (by omega)) ?_)
  rw [jrc_ob (by simp only [gM g])]
  refine c_looks g sm (nI_toInt (by omega)) (by omega) (by omega) (by omega) (by omega) (by omega) (by omega) (by omega) (by omega) (by omega) (by omega) (fun c => ?_) (fun h2 a l u k2 x0 x1 se z0 z1 z2 => ?_)
  · rw [eX] at c
    have eW : lkW ey x b f t fl pl = 5 := if_pos c
    rw [eW] at H0
    try dsimp only [jrI, jrN, jrA, jisr, jnul, jcat1]
    refine jif_t rfl ?_
    rw [jrc_ob (by simp only [gM g])]
    refine c_breaks g ?_
    try dsimp only [jrI, jrN, jrA, jisr, jnul, jcat1]
    refine ⟨by decide, H0 (by decide) _ (fr_sV (by decide) fr_rfl) ?_⟩
    simp (decide := true) only [jgI_ob, jgf_ob, jgL_ob, jpI_ob, jpL_ob, jpR_ob, jpN_ob, jrc_ob, obj_sV, obj_wF, obj_wG, obj_wR, arr_sV, arr_wF, arr_wG, arr_wR, arL_sV, arL_wF, arL_wG, arL_wR, arR_sV, arR_wF, arR_wG, arR_wR, fI_sV (c := 0), fI_sV (c := 1), fI_sV (c := 2), fI_sV (c := 4), fI_sV (c := 5), fI_sV (c := 7), fI_sV (c := 8), fI_sV (c := 9), fI_sV (c := 10), fI_sV (c := 11), fI_sV (c := 12), fI_sV (c := 6), fL_sV (c := 9), fL_sV (c := 12), fI_sV_k, fL_sV_k, fV_sV_k, fI_wF, fI_wG, fI_wR, fL_wF, fL_wG, fL_wR, fV_wF, fV_wG, fV_wR, aF_sV, aG_sV, aR_sV, aF_wG, aF_wR, aG_wF, aG_wR, aR_wF, aR_wG, gM g]
  · rw [eX] at x0 x1 se
    rw [eQ] at se
    have e3 := see3_eq se
    have eV : lkV ey x b f t fl pl = vsn (a, l, u) pl := by unfold lkV; rw [e3]
    have bd : a ≤ 900 * f ∧ l ≤ 900 * f ∧ u ≤ 900 * f := by
      obtain ⟨q1, q2, q3, q4⟩ := se
      rcases q4 with ⟨w1, w2, w3⟩ | ⟨w1, w2, w3, _⟩
      · omega
      · omega
    have eW : lkW ey x b f t fl pl = if (-99 ≤ lkV ey x b f t fl pl 1 ∧ lkV ey x b f t fl pl 1 ≤ 99) ∧ (-99 ≤ lkV ey x b f t fl pl 3 ∧ lkV ey x b f t fl pl 3 ≤ 99) ∧ (-99 ≤ lkV ey x b f t fl pl 5 ∧ lkV ey x b f t fl pl 5 ≤ 99) then 0 else 3 := if_neg (by omega)
    have g2 := G_fr g rfl k2
    generalize lkV ey x b f t fl pl = V at *
    have sgt : ∀ i, i < 3 → ∃ c : Nat, c ≤ 900 * f ∧ (aF h2 89 i).toInt = enc c ∧ V (2 * i) = ((c % 900 + 100 : Nat) : Int) ∧ V (2 * i + 1) = pl + ((c / 900 : Nat) : Int) := by
      intro i hi
      rcases (show i = 0 ∨ i = 1 ∨ i = 2 by omega) with w | w | w <;> subst w
      · exact ⟨a, bd.1, z0, by rw [eV]; rfl, by rw [eV]; rfl⟩
      · exact ⟨l, bd.2.1, z1, by rw [eV]; rfl, by rw [eV]; rfl⟩
      · exact ⟨u, bd.2.2, z2, by rw [eV]; rfl, by rw [eV]; rfl⟩
    try dsimp only [jrI, jrN, jrA, jisr, jnul, jcat1]
    refine jif_n (by decide) ?_
    have L : ∀ (r i : Nat) (h3 : JH) (w : Bool) (o1 : Option Value) (c s : Nat), i + r = 3 → fr [111] [] h2 h3 → (∀ j, j < 2 * i → (aF h3 111 (6 * p + j)).toInt = V j) → (∀ j, (j < 6 * p ∨ 6 * p + 6 ≤ j) → aF h3 111 j = aF h 111 j) → (w = true ↔ ∀ j, j < i → -99 ≤ V (2 * j + 1) ∧ V (2 * j + 1) ≤ 99) → jB_X12_lookBy_30 X (d + 4) Q 81 o1 (nI p) e (bi w) (nI i) h3 c s := by
      intro r
      induction r with
      | zero =>
        intro i h3 w o1 c s hi k3 pj oj hw
        have ei : i = 3 := by omega
        subst ei
        have g3 := G_fr g2 rfl k3
        have k3' : fr [89, 111] [(81, 52)] h h3 := fr_trans (fr_mono (by decide) (by decide) k2) (fr_mono (by decide) (by decide) k3)
        refine jT_X12_lookBy_30 (jif_n (nI_nlt (a := 3) (b := 3) (by omega) (by omega)) ?_)
        cases ew : w with
        | true =>
          have ww := hw.1 ew
          have W0 : lkW ey x b f t fl pl = 0 := by
            rw [eW, if_pos ⟨ww 0 (by decide), ww 1 (by decide), ww 2 (by decide)⟩]
          exact jif_n (by decide) ⟨by decide, H1 W0 h3 k3' (fun j hj => pj j (by omega)) oj⟩
        | false =>
          have W3 : lkW ey x b f t fl pl = 3 := by
            rw [eW, if_neg]
            intro q
            have : w = true := hw.2 (fun j hj => by
              rcases (show j = 0 ∨ j = 1 ∨ j = 2 by omega) with z | z | z <;> subst z
              · exact q.1
              · exact q.2.1
              · exact q.2.2)
            rw [ew] at this
            cases this
          rw [W3] at H0
          refine jif_t rfl ?_
          rw [jrc_ob (by simp only [gM g3])]
          change jex X (d + 3 + 1) 199 _ _ _
          refine c_breaks g3 ?_
          try dsimp only [jrI, jrN, jrA, jisr, jnul, jcat1]
          refine jif_t rfl ⟨by decide, H0 (by decide) _ (fr_trans k3' (fr_sV (by decide) fr_rfl)) ?_⟩
          simp (decide := true) only [jgI_ob, jgf_ob, jgL_ob, jpI_ob, jpL_ob, jpR_ob, jpN_ob, jrc_ob, obj_sV, obj_wF, obj_wG, obj_wR, arr_sV, arr_wF, arr_wG, arr_wR, arL_sV, arL_wF, arL_wG, arL_wR, arR_sV, arR_wF, arR_wG, arR_wR, fI_sV (c := 0), fI_sV (c := 1), fI_sV (c := 2), fI_sV (c := 4), fI_sV (c := 5), fI_sV (c := 7), fI_sV (c := 8), fI_sV (c := 9), fI_sV (c := 10), fI_sV (c := 11), fI_sV (c := 12), fI_sV (c := 6), fL_sV (c := 9), fL_sV (c := 12), fI_sV_k, fL_sV_k, fV_sV_k, fI_wF, fI_wG, fI_wR, fL_wF, fL_wG, fL_wR, fV_wF, fV_wG, fV_wR, aF_sV, aG_sV, aR_sV, aF_wG, aF_wR, aG_wF, aG_wR, aR_wF, aR_wG, gM g3]
      | succ r ih =>
        intro i h3 w o1 c s hi k3 pj oj hw
        have g3 := G_fr g2 rfl k3
        obtain ⟨cc, cb, e89, ev0, ev1⟩ := sgt i (by omega)
        have q89 : (aF h3 89 i).toInt = enc cc := by rw [frF k3 (by decide)]; exact e89
        have i0 : 6 * nI p + 2 * nI i = nI (6 * p + 2 * i) := by
          rw [show 6 * nI p = nI (6 * p) from pk_mul 6 p, show 2 * nI i = nI (2 * i) from pk_mul 2 i, nI_add]
        have iv0 : vp_in (nI (6 * p + 2 * i)) 1260 := by rw [vp_inI, nI_toInt (by omega)]; omega
        have ic0 : (nI (6 * p + 2 * i)).toNatClampNeg = 6 * p + 2 * i := nI_clamp (by omega)
        have iv1 : vp_in (nI (6 * p + 2 * i + 1)) 1260 := by rw [vp_inI, nI_toInt (by omega)]; omega
        have ic1 : (nI (6 * p + 2 * i + 1)).toNatClampNeg = 6 * p + 2 * i + 1 := nI_clamp (by omega)
        have ivi : vp_in (nI i) 3 := by rw [vp_inI, nI_toInt (by omega)]; omega
        have ici : (nI i).toNatClampNeg = i := nI_clamp (by omega)
        have n1000 : ¬ (1000 : Int32) = 0 := by decide
        refine jT_X12_lookBy_30 (jif_t (nI_lt (b := 3) (by omega) (by omega)) ?_)
        simp (decide := true) only [jgf_ob (c := 12), gM g3, gN g3, jaI_ar (p := 89) (n := 3), jwI_ar (p := 111) (n := 1260), jaI_ar (p := 111) (n := 1260), i0, nI_1, ivi, ici, iv0, ic0, iv1, ic1, true_and, obj_wF, arr_wF, fV_wF, aF_wF_ne, not_false_eq_true, aF_wF (p := 111) (t := .int) (n := 1260)]
        have E : enc cc = 1000 * (cc / 900) + (cc % 900 + 100) := by unfold enc; omega
        have m9 : cc % 900 + 100 < 1000 := by omega
        have c27 : cc / 900 ≤ 3 := by omega
        have u0 : (aF h3 89 i - aF h3 89 i / 1000 * 1000).toInt = V (2 * i) := by
          rw [ti_remp (by omega) (by decide), q89, E, ev0, show (1000 : Int32).toInt = 1000 from rfl]
          omega
        have u1 : (e + aF h3 89 i / 1000).toInt = V (2 * i + 1) := by
          have dd : (aF h3 89 i / 1000).toInt = ((cc / 900 : Nat) : Int) := by
            rw [ti_divp (by omega) (by decide), q89, E, show (1000 : Int32).toInt = 1000 from rfl]
            omega
          generalize aF h3 89 i / 1000 = z at dd
          have : (e + z).toInt = e.toInt + z.toInt := (by simp only [Int32.toInt_add, Int32.toInt_sub, Int32.toInt_mul, Int32.toInt_neg, Int.bmod_def, tl, t4]; omega)
          omega
        generalize aF h3 89 i - aF h3 89 i / 1000 * 1000 = d0 at *
        generalize e + aF h3 89 i / 1000 = d1 at *
        have k4 : fr [111] [] h2 (wF (wF h3 111 (upd (aF h3 111) (6 * p + 2 * i) d0)) 111 (upd (upd (aF h3 111) (6 * p + 2 * i) d0) (6 * p + 2 * i + 1) d1)) := fr_wF (by decide) (fr_wF (by decide) k3)
        have q111 : aF (wF (wF h3 111 (upd (aF h3 111) (6 * p + 2 * i) d0)) 111 (upd (upd (aF h3 111) (6 * p + 2 * i) d0) (6 * p + 2 * i + 1) d1)) 111 = upd (upd (aF h3 111) (6 * p + 2 * i) d0) (6 * p + 2 * i + 1) d1 := aF_wF (t := .int) (n := 1260) (by simp only [arr_wF, gM g3])
        generalize wF (wF h3 111 (upd (aF h3 111) (6 * p + 2 * i) d0)) 111 (upd (upd (aF h3 111) (6 * p + 2 * i) d0) (6 * p + 2 * i + 1) d1) = hh at *
        rw [upd_n (by omega), upd_s, upd_s]
        have NX : ∀ w' : Bool, (w' = true ↔ ∀ j, j < i + 1 → -99 ≤ V (2 * j + 1) ∧ V (2 * j + 1) ≤ 99) → jB_X12_lookBy_30 X (d + 4) Q 81 o1 (nI p) e (bi w') (nI (i + 1)) hh c s := by
          intro w' hw'
          refine ih (i + 1) hh w' _ _ _ (by omega) k4 (fun j hj => ?_) (fun j hj => ?_) hw'
          · rw [q111]
            by_cases z1 : j = 2 * i + 1
            · rw [z1, show 6 * p + (2 * i + 1) = 6 * p + 2 * i + 1 by omega, upd_s]; exact u1
            · by_cases z0 : j = 2 * i
              · rw [z0, upd_n (by omega), upd_s]; exact u0
              · rw [upd_n (by omega), upd_n (by omega)]; exact pj j (by omega)
          · rw [q111, upd_n (by omega), upd_n (by omega)]
            exact oj j hj
        have BAD : ¬ (w = true ∧ -99 ≤ V (2 * i + 1) ∧ V (2 * i + 1) ≤ 99) → (false = true ↔ ∀ j, j < i + 1 → -99 ≤ V (2 * j + 1) ∧ V (2 * j + 1) ≤ 99) := by
          intro nb
          refine ⟨fun q => (by cases q), fun q => absurd ⟨hw.2 (fun j hj => q j (by omega)), q i (by omega)⟩ nb⟩
        cases ew : w with
        | false =>
          exact jif_t rfl (NX false (BAD (fun q => by rw [ew] at q; cases q.1)))
        | true =>
          refine jif_n (by decide) ?_
          change jex X (d + 2 + 2) 146 _ _ _
          refine c_mNumber (fun q => ?_) (fun q => ?_)
          · try dsimp only [jrI, jrN, jrA, jisr, jnul, jcat1]
            exact jif_t rfl (NX false (BAD (fun z => q (by rw [u0, u1]; omega))))
          · try dsimp only [jrI, jrN, jrA, jisr, jnul, jcat1]
            rw [u0, u1] at q
            refine jif_n (by decide) (NX true ⟨fun _ j hj => ?_, fun _ => rfl⟩)
            by_cases z : j = i
            · rw [z]; omega
            · exact hw.1 ew j (by omega)
    refine L 3 0 h2 true _ _ _ (by omega) fr_rfl (fun j hj => absurd hj (Nat.not_lt_zero _)) (fun j _ => by rw [frF k2 (by decide)]) ⟨fun _ j hj => absurd hj (Nat.not_lt_zero _), fun _ => rfl⟩
/-- a number is asked for -/
theorem c_askedN (g : G h) {i : Nat} (hi : i < 210) (hp : p < 210) (e99 : aF h 99 i = -1) {D E : Int} (eD : (aF h 100 i).toInt = D) (eE : (aF h 101 i).toInt = E) (H : ∀ h1, fr [111] [] h h1 → PW h1 p (fun w => if w % 2 = 0 then D else E) → (∀ j, (j < 6 * p ∨ 6 * p + 6 ≤ j) → aF h1 111 j = aF h 111 j) → Q (some (.int 1)) h1) : jex X (d + 2) 202 [.ref 81, .int (nI i), .int (nI p)] h Q := by
  have ivi : vp_in (nI i) 420 := by rw [vp_inI, nI_toInt (by omega)]; omega
  have ici : (nI i).toNatClampNeg = i := nI_clamp (by omega)
  have L : ∀ (r w : Nat) (h3 : JH) (c s : Nat), w + r = 6 → fr [111] [] h h3 → (∀ j, j < w → (aF h3 111 (6 * p + j)).toInt = if j % 2 = 0 then D else E) → (∀ j, (j < 6 * p ∨ 6 * p + 6 ≤ j) → aF h3 111 j = aF h 111 j) → jB_X12_asked_30 X (d + 1) Q 81 (nI i) (nI p) (-1) (nI w) h3 c s := by
    intro r
    induction r with
    | zero =>
      intro w h3 c s hw k3 pj oj
      refine jT_X12_asked_30 (jif_n (nI_nlt (a := w) (b := 6) (by omega) (by omega)) ⟨by decide, H h3 k3 (fun j hj => pj j (by omega)) oj⟩)
    | succ r ih =>
      intro w h3 c s hw k3 pj oj
      have g3 := G_fr g rfl k3
      have i0 : 6 * nI p + nI w = nI (6 * p + w) := by rw [show 6 * nI p = nI (6 * p) from pk_mul 6 p, nI_add]
      have iv0 : vp_in (nI (6 * p + w)) 1260 := by rw [vp_inI, nI_toInt (by omega)]; omega
      have ic0 : (nI (6 * p + w)).toNatClampNeg = 6 * p + w := nI_clamp (by omega)
      have e100 : aF h3 100 = aF h 100 := frF k3 (by decide)
      have e101 : aF h3 101 = aF h 101 := frF k3 (by decide)
      have NX : ∀ y : Int32, y.toInt = (if w % 2 = 0 then D else E) → jB_X12_asked_30 X (d + 1) Q 81 (nI i) (nI p) (-1) (nI w + 1) (wF h3 111 (upd (aF h3 111) (6 * p + w) y)) c s := by
        intro y ey
        have q111 : aF (wF h3 111 (upd (aF h3 111) (6 * p + w) y)) 111 = upd (aF h3 111) (6 * p + w) y := aF_wF (t := .int) (n := 1260) (by simp only [gM g3])
        rw [nI_1]
        refine ih (w + 1) _ _ _ (by omega) (fr_wF (by decide) k3) (fun j hj => ?_) (fun j hj => ?_)
        · rw [q111]
          by_cases z : j = w
          · rw [z, upd_s]; exact ey
          · rw [upd_n (by omega)]; exact pj j (by omega)
        · rw [q111, upd_n (by omega)]; exact oj j hj
      have md : nI w - nI w / 2 * 2 = nI (w % 2) := nI_rem (b := 2) (by omega) (by decide) (by decide)
      refine jT_X12_asked_30 (jif_t (nI_lt (b := 6) (by omega) (by omega)) ?_)
      simp (decide := true) only [jgf_ob (c := 12), gM g3, gN g3, jaI_ar (p := 100) (n := 420), jaI_ar (p := 101) (n := 420), jwI_ar (p := 111) (n := 1260), i0, ivi, ici, iv0, ic0, true_and, jif_T, jif_F, md, not_false_eq_true]
      refine ⟨fun q => NX _ ?_, fun q => NX _ ?_⟩
      · have := (nI_eq (b := 0) (by omega) (by omega)).1 q
        rw [if_pos this, e100]; exact eD
      · have : ¬ w % 2 = 0 := fun z => q (by rw [z]; rfl)
        rw [if_neg this, e101]; exact eE
  rw [jE_X12_asked]
  refine jT_X12_asked_0 ?_
  rw [jgf_ob (c := 12) (by simp only [gM g]) rfl, show fV h 81 34 = .ref 99 by simp only [gN g], jaI_ar (n := 420) (by simp only [gM g]), ici, e99]
  exact ⟨ivi, jif_t (by decide) (L 6 0 h _ _ (by omega) fr_rfl (fun j hj => absurd hj (Nat.not_lt_zero _)) (fun j _ => rfl))⟩
/-- a name is asked for -/
theorem c_askedV (g : G h) {i c : Nat} (hi : i < 210) (hp : p < 210) (hc : c < 12) (e99 : aF h 99 i = nI c) (hv : aF h 109 c = 0 ∨ aF h 109 c = 1) (H : aF h 109 c = 1 → ∀ h1, fr [111] [] h h1 → PW h1 p (fun w => (aF h 110 (6 * c + w)).toInt) → (∀ j, (j < 6 * p ∨ 6 * p + 6 ≤ j) → aF h1 111 j = aF h 111 j) → Q (some (.int 1)) h1) (H0 : aF h 109 c = 0 → ∀ h1, fr [] [(81, 52)] h h1 → (fI h1 81 52).toInt = 6 → Q (some (.int 0)) h1) : jex X (d + 2) 202 [.ref 81, .int (nI i), .int (nI p)] h Q := by
  have ivi : vp_in (nI i) 420 := by rw [vp_inI, nI_toInt (by omega)]; omega
  have ici : (nI i).toNatClampNeg = i := nI_clamp (by omega)
  have ivc : vp_in (nI c) 12 := by rw [vp_inI, nI_toInt (by omega)]; omega
  have icc : (nI c).toNatClampNeg = c := nI_clamp (by omega)
  have ncn : ¬ nI c < 0 := nI_pos (by omega)
  have L : aF h 109 c = 1 → ∀ (r w : Nat) (h3 : JH) (z s : Nat), w + r = 6 → fr [111] [] h h3 → (∀ j, j < w → (aF h3 111 (6 * p + j)).toInt = (aF h 110 (6 * c + j)).toInt) → (∀ j, (j < 6 * p ∨ 6 * p + 6 ≤ j) → aF h3 111 j = aF h 111 j) → jB_X12_asked_30 X (d + 1) Q 81 (nI i) (nI p) (nI c) (nI w) h3 z s := by
    intro h1 r
    induction r with
    | zero =>
      intro w h3 z s hw k3 pj oj
      refine jT_X12_asked_30 (jif_n (nI_nlt (a := w) (b := 6) (by omega) (by omega)) ⟨by decide, H h1 h3 k3 (fun j hj => pj j (by omega)) oj⟩)
    | succ r ih =>
      intro w h3 z s hw k3 pj oj
      have g3 := G_fr g rfl k3
      have i0 : 6 * nI p + nI w = nI (6 * p + w) := by rw [show 6 * nI p = nI (6 * p) from pk_mul 6 p, nI_add]
      have iv0 : vp_in (nI (6 * p + w)) 1260 := by rw [vp_inI, nI_toInt (by omega)]; omega
      have ic0 : (nI (6 * p + w)).toNatClampNeg = 6 * p + w := nI_clamp (by omega)
      have j0 : 6 * nI c + nI w = nI (6 * c + w) := by rw [show 6 * nI c = nI (6 * c) from pk_mul 6 c, nI_add]
      have jv0 : vp_in (nI (6 * c + w)) 72 := by rw [vp_inI, nI_toInt (by omega)]; omega
      have jc0 : (nI (6 * c + w)).toNatClampNeg = 6 * c + w := nI_clamp (by omega)
      have e110 : aF h3 110 = aF h 110 := frF k3 (by decide)
      refine jT_X12_asked_30 (jif_t (nI_lt (b := 6) (by omega) (by omega)) ?_)
      simp (decide := true) only [jgf_ob (c := 12), gM g3, gN g3, jaI_ar (p := 110) (n := 72), jwI_ar (p := 111) (n := 1260), i0, j0, jv0, jc0, iv0, ic0, true_and, ncn, jif_F, e110]
      have q111 : aF (wF h3 111 (upd (aF h3 111) (6 * p + w) (aF h 110 (6 * c + w)))) 111 = upd (aF h3 111) (6 * p + w) (aF h 110 (6 * c + w)) := aF_wF (t := .int) (n := 1260) (by simp only [gM g3])
      rw [nI_1]
      refine ih (w + 1) _ _ _ (by omega) (fr_wF (by decide) k3) (fun j hj => ?_) (fun j hj => ?_)
      · rw [q111]
        by_cases z : j = w
        · rw [z, upd_s]
        · rw [upd_n (by omega)]; exact pj j (by omega)
      · rw [q111, upd_n (by omega)]; exact oj j hj
  rw [jE_X12_asked]
  refine jT_X12_asked_0 ?_
  rw [jgf_ob (c := 12) (by simp only [gM g]) rfl, show fV h 81 34 = .ref 99 by simp only [gN g], jaI_ar (n := 420) (by simp only [gM g]), ici, e99]
  refine ⟨ivi, jif_n ncn ?_⟩
  rw [jgf_ob (c := 12) (by simp only [gM g]) rfl, show fV h 81 45 = .ref 109 by simp only [gN g], jaZ_ar (n := 12) (by simp only [gM g]), icc]
  refine ⟨ivc, fun q => ?_, fun q => ?_⟩
  · rw [jrc_ob (by simp only [gM g])]
    refine c_breaks g ?_
    try dsimp only [jrI, jrN, jrA, jisr, jnul, jcat1]
    refine ⟨by decide, H0 q _ (fr_sV (by decide) fr_rfl) ?_⟩
    simp (decide := true) only [jgI_ob, jgf_ob, jgL_ob, jpI_ob, jpL_ob, jpR_ob, jpN_ob, jrc_ob, obj_sV, obj_wF, obj_wG, obj_wR, arr_sV, arr_wF, arr_wG, arr_wR, arL_sV, arL_wF, arL_wG, arL_wR, arR_sV, arR_wF, arR_wG, arR_wR, fI_sV (c := 0), fI_sV (c := 1), fI_sV (c := 2), fI_sV (c := 4), fI_sV (c := 5), fI_sV (c := 7), fI_sV (c := 8), fI_sV (c := 9), fI_sV (c := 10), fI_sV (c := 11), fI_sV (c := 12), fI_sV (c := 6), fL_sV (c := 9), fL_sV (c := 12), fI_sV_k, fL_sV_k, fV_sV_k, fI_wF, fI_wG, fI_wR, fL_wF, fL_wG, fL_wR, fV_wF, fV_wG, fV_wR, aF_sV, aG_sV, aR_sV, aF_wG, aF_wR, aG_wF, aG_wR, aR_wF, aR_wG, gM g]
  · have h1 : aF h 109 c = 1 := by
      rcases hv with z | z
      · exact absurd z q
      · exact z
    exact L h1 6 0 h _ _ (by omega) fr_rfl (fun j hj => absurd hj (Nat.not_lt_zero _)) (fun j _ => rfl)
end MLK
