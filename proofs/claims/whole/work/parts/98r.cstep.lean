/-! A RUN: the class's repeats and ifs -/
def btF : List (Nat × Nat) := [(24, 14), (24, 15), (24, 16)]
def chF : List (Nat × Nat) := btF ++ vO 51 ++ vO 52
section CST
variable {X : JX} {d : Nat} {Q : JQ} {h : JH} {p q : Nat} {u : Nat → Int} {N K k s T bb : Nat} {td : Nat → Bool} {vl : Nat → V6}
theorem c_beginTurns (g : G h) (px : PXs h p u N K) (k4 : K ≤ 400) (e2 : fV h 24 2 = .ref p) (ej : fI h 24 15 = nI k) (es : fI h 24 14 = nI s) (s2 : s ≤ 200) (hk : k + 1 < K) (t3 : tK u N (k + 1) = 3) (x7 : xe u N (k + 1) = 7) (pd : ptd u N (tS u N (k + 1)) = false) (hT : trn u N k ≤ 99) (n4 : tK u N k ≠ 4) (cz : cl u N K k ≠ 0) (cK : cl u N K k < K) (H0 : s = 200 → ∀ h1, fr [] btF h h1 → fI h1 24 16 = nI k → Q (some (.int 1)) h1) (H1 : s ≠ 200 → ∀ h1, fr [58] btF h h1 → fI h1 24 14 = nI (s + 1) → fI h1 24 15 = nI (if trn u N k = 0 then cl u N K k + 1 else k + 2) → aF h1 58 = upd (aF h 58) k (nI (trn u N k)) → Q (some (.int 0)) h1) : jex X (d + 3) 181 [.ref 24] h Q := by
  have ob : obj h 24 7 := by simp only [gO g]
  rw [jE_X7_beginTurns]
  refine jT_X7_beginTurns_0 ?_
  rw [jgI_ob ob rfl, ej, jpI_ob ob rfl]
  have k1 : fr [] [(24, 16)] h (sV h 24 16 (.int (nI k))) := fr_sV (by decide) fr_rfl
  have f16 : fI (sV h 24 16 (.int (nI k))) 24 16 = nI k := fI_sV ob rfl
  generalize sV h 24 16 (.int (nI k)) = h2 at *
  have g2 := G_fr g rfl k1
  have ob2 : obj h2 24 7 := by simp only [gO g2]
  rw [jrc_ob ob2]
  refine c_countStep (d := d + 1) g2 (by rw [frI k1 (by decide) (by decide)]; exact es) s2 (fun ns => ?_) (fun e => ?_)
  · try dsimp only [jrI, jrN, jrA, jisr, jnul, jcat1]
    refine jif_n (by decide) ?_
    have k2 : fr [] [(24, 14)] h2 (sV h2 24 14 (.int (nI (s + 1)))) := fr_sV (by decide) fr_rfl
    have f14 : fI (sV h2 24 14 (.int (nI (s + 1)))) 24 14 = nI (s + 1) := fI_sV ob2 rfl
    generalize sV h2 24 14 (.int (nI (s + 1))) = h3 at *
    have g3 := G_fr g2 rfl k2
    have ob3 : obj h3 24 7 := by simp only [gO g3]
    have kk : fr [] btF h h3 := fr_trans (fr_mono (by decide) (by decide) k1) (fr_mono (by decide) (by decide) k2)
    have px3 : PXs h3 p u N K := PX_fr px kk (by decide) (by decide)
    have i2 : fV h3 24 2 = .ref p := by rw [frV kk (by decide) (by decide)]; exact e2
    have i15 : fI h3 24 15 = nI k := by rw [frI k2 (by decide) (by decide), frI k1 (by decide) (by decide)]; exact ej
    have F58 : aF h3 58 = aF h 58 := frF kk (by decide)
    rw [jgf_ob ob3 rfl, i2, jgI_ob ob3 rfl, i15, jrc_ob (px_ob g3 px3)]
    refine c_psecond (d := d) g3 px3 k4 (nI_1 k) hk (fun y y3 _ _ => ?_)
    have y3 := y3 t3
    rw [if_pos x7] at y3
    have et : tur u N (tS u N (k + 1)) = trn u N k := by
      unfold tur
      rw [if_neg (by rw [pd]; decide)]
      rfl
    rw [et] at y3
    subst y3
    have ivk : vp_in (nI k) 400 := by rw [vp_inI, nI_toInt (by omega)]; omega
    have ick : (nI k).toNatClampNeg = k := nI_clamp (by omega)
    try dsimp only [jrI, jrN, jrA, jisr, jnul, jcat1]
    rw [jgI_ob ob3 rfl, i15]
    refine jif_n (nI_pos (by omega)) ?_
    rw [jgI_ob ob3 rfl, i15, jgf_ob ob3 rfl, show fV h3 24 13 = .ref 58 by simp only [gF g3], jaln_arr (t := .int) (n := 400) (by simp only [gO g3])]
    refine jif_t (nI_lt (b := 400) (by omega) (by omega)) ?_
    rw [jgf_ob ob3 rfl, show fV h3 24 13 = .ref 58 by simp only [gF g3], jgI_ob ob3 rfl, i15, jwI_ar (n := 400) (by simp only [gO g3]), ick]
    refine ⟨ivk, ?_⟩
    have k3 : fr [58] [] h3 (wF h3 58 (upd (aF h3 58) k (nI (trn u N k)))) := fr_wF (by decide) fr_rfl
    have q58 : aF (wF h3 58 (upd (aF h3 58) k (nI (trn u N k)))) 58 = upd (aF h3 58) k (nI (trn u N k)) := aF_wF (t := .int) (n := 400) (by simp only [gO g3])
    generalize wF h3 58 (upd (aF h3 58) k (nI (trn u N k))) = h4 at *
    have g4 := G_fr g3 rfl k3
    have ob4 : obj h4 24 7 := by simp only [gO g4]
    have kk4 : fr [58] btF h h4 := fr_trans (fr_mono (by decide) (fun _ w => w) kk) (fr_mono (by decide) (by decide) k3)
    have j15 : fI h4 24 15 = nI k := by rw [frI k3 (by decide) (by decide)]; exact i15
    have j14 : fI h4 24 14 = nI (s + 1) := by rw [frI k3 (by decide) (by decide)]; exact f14
    have j2 : fV h4 24 2 = .ref p := by rw [frV k3 (by decide) (by decide)]; exact i2
    have px4 : PXs h4 p u N K := PX_fr px3 k3 (by decide) (by decide)
    have z0 : nI 0 = (0 : Int32) := rfl
    refine ⟨fun c => ?_, fun c => ?_⟩
    · have c : ¬ trn u N k = 0 := fun w => by
        rw [w] at c
        exact absurd c (by decide)
      rw [if_neg c] at H1
      rw [jgI_ob ob4 rfl, j15, jpI_ob ob4 rfl, show nI k + 2 = nI (k + 2) from nI_add k 2]
      refine H1 ns _ (fr_sV (by decide) kk4) ?_ (fI_sV ob4 rfl) ?_
      · rw [fI_sV_k (by decide)]; exact j14
      · rw [aF_sV, q58, F58]
    · have c : trn u N k = 0 := Classical.byContradiction (fun w => c (nI_lt (a := 0) (by omega) (by omega)))
      rw [if_pos c] at H1
      rw [jgf_ob ob4 rfl, j2, jgI_ob ob4 rfl, j15, jrc_ob (px_ob g4 px4)]
      refine c_psecond (d := d) g4 px4 k4 rfl (by omega) (fun y _ _ yc => ?_)
      have yc := yc cz n4
      subst yc
      try dsimp only [jrI, jrN, jrA, jisr, jnul, jcat1]
      rw [jpI_ob ob4 rfl, nI_1]
      refine H1 ns _ (fr_sV (by decide) kk4) ?_ (fI_sV ob4 rfl) ?_
      · rw [fI_sV_k (by decide)]; exact j14
      · rw [aF_sV, q58, F58]
  · try dsimp only [jrI, jrN, jrA, jisr, jnul, jcat1]
    refine jif_t rfl (H0 e _ (fr_sV (by decide) (fr_mono (by decide) (by decide) k1)) ?_)
    rw [fI_sV_k (by decide)]
    exact f16
theorem c_endTurn (g : G h) (px : PXs h p u N K) (k4 : K ≤ 400) (e2 : fV h 24 2 = .ref p) (ej : fI h 24 15 = nI k) (es : fI h 24 14 = nI s) (s2 : s ≤ 200) (hk : k < K) (t6 : tK u N k = 6) (eb : hd0 (xo u N k) = bb) (hb : bb < K) (hT : tK u N bb = 5 → aF h 58 bb = nI T ∧ 1 ≤ T ∧ T ≤ 99) (H2 : ¬ (tK u N bb = 5 ∧ 1 < T) → ∀ h1, fr [] btF h h1 → fI h1 24 14 = nI s → fI h1 24 15 = nI (k + 1) → Q (some (.int 0)) h1) (H0 : tK u N bb = 5 → 1 < T → s = 200 → ∀ h1, fr [] btF h h1 → fI h1 24 16 = nI bb → Q (some (.int 1)) h1) (H1 : tK u N bb = 5 → 1 < T → s ≠ 200 → ∀ h1, fr [58] btF h h1 → fI h1 24 14 = nI (s + 1) → fI h1 24 15 = nI (bb + 2) → aF h1 58 = upd (aF h 58) bb (nI (T - 1)) → Q (some (.int 0)) h1) : jex X (d + 3) 187 [.ref 24] h Q := by
  have ob : obj h 24 7 := by simp only [gO g]
  rw [jE_X7_endTurn]
  refine jT_X7_endTurn_0 ?_
  rw [jgf_ob ob rfl, e2, jgI_ob ob rfl, ej, jrc_ob (px_ob g px)]
  refine c_psecond (d := d) g px k4 rfl hk (fun y _ y6 _ => ?_)
  have y6 := y6 t6
  rw [eb] at y6
  subst y6
  try dsimp only [jrI, jrN, jrA, jisr, jnul, jcat1]
  rw [jgf_ob ob rfl, e2, jrc_ob (px_ob g px)]
  refine c_pkind (d := d) g px k4 rfl hb ?_
  try dsimp only [jrI, jrN, jrA, jisr, jnul, jcat1]
  have tb : tK u N bb ≤ 20 := tkK_r _
  have ON : ∀ P : Prop, P → (P → ¬ (tK u N bb = 5 ∧ 1 < T)) → jgI h (.ref 24) 7 15 fun x1 => (jpf h (.ref 24) 7 15 (.int (x1 + 1)) fun h2 => (Q (some (.int 0)) h2)) := by
    intro P hP hn
    rw [jgI_ob ob rfl, ej, jpI_ob ob rfl, nI_1]
    refine H2 (hn hP) _ (fr_sV (by decide) fr_rfl) ?_ (fI_sV ob rfl)
    rw [fI_sV_k (by decide)]; exact es
  refine ⟨fun c => ?_, fun c => ?_⟩
  · have c := (nI_eq (b := 5) (by omega) (by omega)).1 c
    obtain ⟨T1, T2, T3⟩ := hT c
    have ivb : vp_in (nI bb) 400 := by rw [vp_inI, nI_toInt (by omega)]; omega
    have icb : (nI bb).toNatClampNeg = bb := nI_clamp (by omega)
    refine jif_n (nI_pos (by omega)) ?_
    rw [jgf_ob ob rfl, show fV h 24 13 = .ref 58 by simp only [gF g], jaln_arr (t := .int) (n := 400) (by simp only [gO g])]
    refine jif_t (nI_lt (b := 400) (by omega) (by omega)) ?_
    refine jT_X7_endTurn_42 (jif_n (by decide) ?_)
    rw [jgf_ob ob rfl, show fV h 24 13 = .ref 58 by simp only [gF g], jaI_ar (n := 400) (by simp only [gO g]), icb, T1]
    refine ⟨ivb, fun c1 => ?_, fun c1 => ?_⟩
    · have c1 := (nI_ltI (a := 1) (by omega) (by omega)).1 c1
      rw [jpI_ob ob rfl]
      have k1 : fr [] [(24, 16)] h (sV h 24 16 (.int (nI bb))) := fr_sV (by decide) fr_rfl
      have f16 : fI (sV h 24 16 (.int (nI bb))) 24 16 = nI bb := fI_sV ob rfl
      generalize sV h 24 16 (.int (nI bb)) = h2 at *
      have g2 := G_fr g rfl k1
      have ob2 : obj h2 24 7 := by simp only [gO g2]
      rw [jrc_ob ob2]
      refine c_countStep (d := d + 1) g2 (by rw [frI k1 (by decide) (by decide)]; exact es) s2 (fun ns => ?_) (fun e => ?_)
      · try dsimp only [jrI, jrN, jrA, jisr, jnul, jcat1]
        refine jif_n (by decide) ?_
        have k2 : fr [] [(24, 14)] h2 (sV h2 24 14 (.int (nI (s + 1)))) := fr_sV (by decide) fr_rfl
        have f14 : fI (sV h2 24 14 (.int (nI (s + 1)))) 24 14 = nI (s + 1) := fI_sV ob2 rfl
        generalize sV h2 24 14 (.int (nI (s + 1))) = h3 at *
        have g3 := G_fr g2 rfl k2
        have ob3 : obj h3 24 7 := by simp only [gO g3]
        have kk : fr [] btF h h3 := fr_trans (fr_mono (by decide) (by decide) k1) (fr_mono (by decide) (by decide) k2)
        have F58 : aF h3 58 = aF h 58 := frF kk (by decide)
        rw [jgf_ob ob3 rfl, show fV h3 24 13 = .ref 58 by simp only [gF g3]]
        try dsimp only [jcat1]
        rw [jaI_ar (n := 400) (by simp only [gO g3]), icb, F58, T1]
        refine ⟨ivb, ?_⟩
        rw [jwI_ar (n := 400) (by simp only [gO g3]), icb, F58, nI_p T2]
        refine ⟨ivb, ?_⟩
        have k3 : fr [58] [] h3 (wF h3 58 (upd (aF h 58) bb (nI (T - 1)))) := fr_wF (by decide) fr_rfl
        have q58 : aF (wF h3 58 (upd (aF h 58) bb (nI (T - 1)))) 58 = upd (aF h 58) bb (nI (T - 1)) := aF_wF (t := .int) (n := 400) (by simp only [gO g3])
        generalize wF h3 58 (upd (aF h 58) bb (nI (T - 1))) = h4 at *
        have g4 := G_fr g3 rfl k3
        have ob4 : obj h4 24 7 := by simp only [gO g4]
        rw [jpI_ob ob4 rfl, show nI bb + 2 = nI (bb + 2) from nI_add bb 2]
        refine H1 c c1 ns _ (fr_sV (by decide) (fr_trans (fr_mono (by decide) (fun _ w => w) kk) (fr_mono (by decide) (by decide) k3))) ?_ (fI_sV ob4 rfl) ?_
        · rw [fI_sV_k (by decide), frI k3 (by decide) (by decide)]; exact f14
        · rw [aF_sV, q58]
      · try dsimp only [jrI, jrN, jrA, jisr, jnul, jcat1]
        refine jif_t rfl (H0 c c1 e _ (fr_sV (by decide) (fr_mono (by decide) (by decide) k1)) ?_)
        rw [fI_sV_k (by decide)]
        exact f16
    · exact ON _ c1 (fun c1 w => c1 (nI_lt (a := 1) w.2 (by omega)))
  · refine jT_X7_endTurn_42 (jif_t rfl ?_)
    exact ON _ c (fun c w => c (by rw [w.1]; rfl))
theorem c_choose (g : G h) (px : PXs h p u N K) (k4 : K ≤ 400) (o : OKt u N K) (ff : fin u N K) (z0 : (sft u N K).1 = 0) (e2 : fV h 24 2 = .ref p) (hq : q = 25 ∨ q = 26) (e4 : fV h 24 4 = .ref q) (cv : CVs h q td vl) (ej : fI h 24 15 = nI k) (es : fI h 24 14 = nI s) (s2 : s ≤ 200) (hk : k < K) (t7 : tK u N k = 7) {z : Int × Bool} (ez : z = ifT u N k s td vl) (H0 : z.1 ≠ 0 → ∀ h1, fr [] chF h h1 → fI h1 24 16 = nI k → ∀ y : Int32, y.toInt = z.1 → Q (some (.int y)) h1) (H1 : z.1 = 0 → ∀ h1, fr [] chF h h1 → fI h1 24 14 = nI (s + 1) → fI h1 24 15 = nI (if z.2 = true then k + 4 + sur u N k else cl u N K k + 1) → Q (some (.int 0)) h1) : jex X (d + 4) 182 [.ref 24] h Q := by
  have ob : obj h 24 7 := by simp only [gO g]
  obtain ⟨w1, w2, w3, w4, w5, w6, w7, w8, w9, w10, w11, w12, w13⟩ := if_in o ff hk t7
  obtain ⟨cz, ce1, ce2, ce3, ce4, ce5⟩ := cl_end o ff hk (Or.inr (Or.inl t7))
  unfold ifT ifR at ez
  rw [jE_X7_choose]
  refine jT_X7_choose_0 ?_
  rw [jgI_ob ob rfl, ej, jpI_ob ob rfl]
  have k1 : fr [] [(24, 16)] h (sV h 24 16 (.int (nI k))) := fr_sV (by decide) fr_rfl
  have f16 : fI (sV h 24 16 (.int (nI k))) 24 16 = nI k := fI_sV ob rfl
  generalize sV h 24 16 (.int (nI k)) = h2 at *
  have g2 := G_fr g rfl k1
  have ob2 : obj h2 24 7 := by simp only [gO g2]
  rw [jrc_ob ob2]
  refine c_countStep (d := d + 2) g2 (by rw [frI k1 (by decide) (by decide)]; exact es) s2 (fun ns => ?_) (fun e => ?_)
  · rw [if_neg ns] at ez
    try dsimp only [jrI, jrN, jrA, jisr, jnul, jcat1]
    refine jif_n (by decide) ?_
    have k2 : fr [] [(24, 14)] h2 (sV h2 24 14 (.int (nI (s + 1)))) := fr_sV (by decide) fr_rfl
    have f14 : fI (sV h2 24 14 (.int (nI (s + 1)))) 24 14 = nI (s + 1) := fI_sV ob2 rfl
    generalize sV h2 24 14 (.int (nI (s + 1))) = h3 at *
    have g3 := G_fr g2 rfl k2
    have ob3 : obj h3 24 7 := by simp only [gO g3]
    have kk : fr [] btF h h3 := fr_trans (fr_mono (by decide) (by decide) k1) (fr_mono (by decide) (by decide) k2)
    have px3 : PXs h3 p u N K := PX_fr px kk (by decide) (by decide)
    have i2 : fV h3 24 2 = .ref p := by rw [frV kk (by decide) (by decide)]; exact e2
    have i4 : fV h3 24 4 = .ref q := by rw [frV kk (by decide) (by decide)]; exact e4
    have i15 : fI h3 24 15 = nI k := by rw [frI k2 (by decide) (by decide), frI k1 (by decide) (by decide)]; exact ej
    have i16 : fI h3 24 16 = nI k := by rw [frI k2 (by decide) (by decide)]; exact f16
    have cv3 : CVs h3 q td vl := CVs_fr cv kk (by decide)
    have tk1 : tK u N (k + 1) ≤ 20 := tkK_r _
    -- the comparison
    have CM : ∀ (a1 : Int32), a1 = bi (decide (sur u N k = 1)) → ∀ (a2 : Int32), a2 = nI (k + 1 + sur u N k) → ∀ (o2 o3 o4 o5 o6 : Option Value) (c s1 : Nat), jB_X7_choose_60 X (d + 3) Q 24 a1 o2 o3 o4 o5 o6 a2 h3 c s1 := by
      intro a1 ea1 a2 ea2 o2 o3 o4 o5 o6 c s1
      refine jT_X7_choose_60 ?_
      rw [jgf_ob ob3 rfl, show fV h3 24 5 = .ref 51 by simp only [gF g3], jrc_ob ob3]
      -- the second atom, and the end
      have SEC : ∀ (h4 : JH) (wl : Nat), fr [] (vO 51) h3 h4 → obj h4 wl 10 → 27 ≤ wl → wl ≤ 51 → ((fI h4 wl 0 = 0 ∧ ato u N td vl (k + 1 + sur u N k) = none) ∨ (fI h4 wl 0 = 1 ∧ ∃ v, ato u N td vl (k + 1 + sur u N k) = some v ∧ VBo h4 wl v)) → jgf h4 (.ref 24) 7 6 fun v5 => (jrc h4 (.ref 24) 7 (jex X (d + 3) 176 [.ref 24, .int (a2 + 2), v5] h4 fun r7 h6 => (jrA r7 fun v8 => (jisr v8 (jisr (.ref wl) (jgI h6 (.ref wl) 10 0 fun x9 => (jifp (x9 = 0) (Q (some (.int 6)) h6) (jisr v8 (jgI h6 v8 10 0 fun x10 => (jifp (x10 = 0) (Q (some (.int 6)) h6) (jgf h6 (.ref 24) 7 2 fun v11 => (jrc h6 v11 5 (jex X (d + 3) 54 [v11, .int (a2 + 1)] h6 fun r13 h12 => (jrI r13 fun x14 => (jifp (x14 = 18) (jB_X7_choose_122 X (d + 3) Q 24 a1 a2 (.ref wl) v8 o5 o6 1 h12 c s1) (jB_X7_choose_122 X (d + 3) Q 24 a1 a2 (.ref wl) v8 o5 o6 0 h12 c s1)))))))))))))))) := by
        intro h4 wl k3 ow wl1 wl2 hw
        have g4 := G_fr g3 rfl k3
        have ob4 : obj h4 24 7 := by simp only [gO g4]
        have px4 : PXs h4 p u N K := PX_fr px3 k3 (by decide) (by decide)
        have j2 : fV h4 24 2 = .ref p := by rw [frV k3 (by decide) (by decide)]; exact i2
        have j4 : fV h4 24 4 = .ref q := by rw [frV k3 (by decide) (by decide)]; exact i4
        have cv4 : CVs h4 q td vl := CVs_fr cv3 k3 (by decide)
        have kk4 : fr [] chF h h4 := fr_trans (fr_mono (fun _ w => w) (by decide) kk) (fr_mono (fun _ w => w) (by decide) k3)
        have j16 : fI h4 24 16 = nI k := by rw [frI k3 (by decide) (by decide)]; exact i16
        have j15 : fI h4 24 15 = nI k := by rw [frI k3 (by decide) (by decide)]; exact i15
        have j14 : fI h4 24 14 = nI (s + 1) := by rw [frI k3 (by decide) (by decide)]; exact f14
        have ea3 : a2 + 2 = nI (k + 3 + sur u N k) := by
          rw [ea2, show nI (k + 1 + sur u N k) + 2 = nI (k + 1 + sur u N k + 2) from nI_add _ 2]
          congr 1
          omega
        have nm52 : ∀ c, (wl, c) ∉ vO 52 := fun c => vO_n (by omega)
        rw [jgf_ob ob4 rfl, show fV h4 24 6 = .ref 52 by simp only [gF g4], jrc_ob ob4]
        refine c_atomAt (d := d) g4 px4 k4 o z0 j2 hq j4 cv4 ea3 (by omega) w5 (by simp only [gO g4]) (fun v2 ev2 gv2 h5 wr k5 vb2 t2 hr2 => ?_) (fun ev2 wr r1 r2 owr t2 => ?_)
        · have kk5 : fr [] chF h h5 := fr_trans kk4 (fr_mono (fun _ w => w) (by decide) k5)
          have g5 := G_fr g4 rfl k5
          have ob5 : obj h5 24 7 := by simp only [gO g5]
          have m16 : fI h5 24 16 = nI k := by rw [frI k5 (by decide) (by decide)]; exact j16
          have m15 : fI h5 24 15 = nI k := by rw [frI k5 (by decide) (by decide)]; exact j15
          have m14 : fI h5 24 14 = nI (s + 1) := by rw [frI k5 (by decide) (by decide)]; exact j14
          have m2 : fV h5 24 2 = .ref p := by rw [frV k5 (by decide) (by decide)]; exact j2
          have px5 : PXs h5 p u N K := PX_fr px4 k5 (by decide) (by decide)
          have ow5 : obj h5 wl 10 := by rw [frO k5]; exact ow
          have tl5 : fI h5 wl 0 = fI h4 wl 0 := frI k5 (nm52 0) (by omega)
          try dsimp only [jrI, jrN, jrA, jisr, jnul, jcat1]
          rw [jgI_ob ow5 rfl, tl5]
          rcases hw with ⟨tw, ev1⟩ | ⟨tw, v1, ev1, vb1⟩
          · rw [ev1] at ez
            have ez : z = (6, false) := ez
            rw [ez] at H0
            rw [tw]
            exact jif_t rfl (H0 (show ¬ (6 : Int) = 0 by decide) h5 kk5 m16 6 rfl)
          · rw [ev1, ev2] at ez
            have ez : z = (0, hdV (ifA u N k) v1 v2) := ez
            rw [ez] at H1
            have vb1 : VBo h5 wl v1 := VBo_fr vb1 k5 (fun c => nm52 _) (by omega)
            rw [tw]
            refine jif_n (by decide) ?_
            rw [jgI_ob vb2.1 rfl, t2]
            refine jif_n (by decide) ?_
            rw [jgf_ob ob5 rfl, m2, jrc_ob (px_ob g5 px5)]
            have ea4 : a2 + 1 = nI (k + 2 + sur u N k) := by
              rw [ea2, nI_1]
              congr 1
              omega
            refine c_pkind (d := d + 1) g5 px5 k4 ea4 (by omega) ?_
            try dsimp only [jrI, jrN, jrA, jisr, jnul, jcat1]
            have tt : tK u N (k + 2 + sur u N k) ≤ 20 := tkK_r _
            have fin0 : ∀ (w : Bool), w = hdV (ifA u N k) v1 v2 → ∀ (y : Int32), y = bi w → jifp (y = 0) (jgf h5 (.ref 24) 7 2 fun v4 => (jgI h5 (.ref 24) 7 15 fun x5 => (jrc h5 v4 5 (jex X (d + 3) 65 [v4, .int x5] h5 fun r7 h6 => (jrI r7 fun x8 => (jpf h6 (.ref 24) 7 15 (.int (x8 + 1)) fun h9 => (Q (some (.int 0)) h9))))))) (jpf h5 (.ref 24) 7 15 (.int (a2 + 3)) fun h10 => (Q (some (.int 0)) h10)) := by
              intro w ew y ey
              subst ey
              have H1 := H1 rfl
              have H1 : ∀ h1, fr [] chF h h1 → fI h1 24 14 = nI (s + 1) → fI h1 24 15 = nI (if w = true then k + 4 + sur u N k else cl u N K k + 1) → Q (some (.int 0)) h1 := by rw [ew]; exact H1
              cases w with
              | false =>
                rw [if_neg (by decide)] at H1
                refine jif_t rfl ?_
                rw [jgf_ob ob5 rfl, m2, jgI_ob ob5 rfl, m15, jrc_ob (px_ob g5 px5)]
                refine c_psecond (d := d + 1) g5 px5 k4 rfl (by omega) (fun y _ _ yc => ?_)
                have yc := yc cz (by omega)
                subst yc
                try dsimp only [jrI, jrN, jrA, jisr, jnul, jcat1]
                rw [jpI_ob ob5 rfl, nI_1]
                refine H1 _ (fr_sV (by decide) kk5) ?_ (fI_sV ob5 rfl)
                rw [fI_sV_k (by decide)]; exact m14
              | true =>
                rw [if_pos rfl] at H1
                refine jif_n (by decide) ?_
                have ea5 : a2 + 3 = nI (k + 4 + sur u N k) := by
                  rw [ea2, show nI (k + 1 + sur u N k) + 3 = nI (k + 1 + sur u N k + 3) from nI_add _ 3]
                  congr 1
                  omega
                rw [jpI_ob ob5 rfl, ea5]
                refine H1 _ (fr_sV (by decide) kk5) ?_ (fI_sV ob5 rfl)
                rw [fI_sV_k (by decide)]; exact m14
            have eA : ifA u N k = sur u N k + (if tK u N (k + 2 + sur u N k) = 17 then 2 else 0) := rfl
            refine ⟨fun c18 => ?_, fun c18 => ?_⟩
            · have c18 := (nI_eq (b := 18) (by omega) (by omega)).1 c18
              rw [if_neg (by omega)] at eA
              refine jT_X7_choose_122 (jif_n (by decide) ?_)
              try dsimp only [jisr]
              rw [jrc_ob vb1.1, ea1]
              refine c_vLess (d := d + 1) vb1 vb2 ?_
              try dsimp only [jrI, jrN, jrA, jisr, jnul, jcat1]
              refine fin0 _ ?_ _ rfl
              rw [eA]
              rcases (show sur u N k = 0 ∨ sur u N k = 1 by omega) with e | e <;> rw [e] <;> rfl
            · have c18 : ¬ tK u N (k + 2 + sur u N k) = 18 := fun w => c18 (by rw [w]; rfl)
              rw [if_pos (w4.resolve_right c18)] at eA
              refine jT_X7_choose_122 (jif_t rfl ?_)
              try dsimp only [jisr]
              rw [jrc_ob vb1.1, ea1]
              refine c_vSame (d := d + 1) vb1 vb2 ?_
              try dsimp only [jrI, jrN, jrA, jisr, jnul, jcat1]
              refine fin0 _ ?_ _ rfl
              rw [eA]
              rcases (show sur u N k = 0 ∨ sur u N k = 1 by omega) with e | e <;> rw [e] <;> rfl
        · try dsimp only [jrI, jrN, jrA, jisr, jnul, jcat1]
          rw [jgI_ob ow rfl]
          have e6 : z = (6, false) := by
            rcases hw with ⟨tw, ev1⟩ | ⟨tw, v1, ev1, vb1⟩
            · rw [ev1] at ez; exact ez
            · rw [ev1, ev2] at ez; exact ez
          rw [e6] at H0
          have H0 := H0 (show ¬ (6 : Int) = 0 by decide) h4 kk4 j16 6 rfl
          refine ⟨fun _ => H0, fun _ => ?_⟩
          rw [jgI_ob owr rfl, t2]
          exact jif_t rfl H0
      refine c_atomAt (d := d) g3 px3 k4 o z0 i2 hq i4 cv3 ea2 (by omega) w2 (by simp only [gO g3]) (fun v1 ev1 gv1 h4 wl k3 vb1 t1 hl => ?_) (fun ev1 wl l1 l2 owl t1 => ?_)
      · have wr : 27 ≤ wl ∧ wl ≤ 51 := by
          rcases hl with e | ⟨c, hc, e⟩
          · omega
          · rw [e]; have := kvo_r (q := q) hc; omega
        try dsimp only [jrI, jrN, jrA, jisr, jnul, jcat1]
        exact SEC h4 wl k3 vb1.1 wr.1 wr.2 (Or.inr ⟨t1, v1, ev1, vb1⟩)
      · try dsimp only [jrI, jrN, jrA, jisr, jnul, jcat1]
        exact SEC h3 wl fr_rfl owl l1 (by omega) (Or.inl ⟨t1, ev1⟩)
    rw [jgf_ob ob3 rfl, i2, jgI_ob ob3 rfl, i15, jrc_ob (px_ob g3 px3)]
    refine c_pkind (d := d + 1) g3 px3 k4 (nI_1 k) (by omega) ?_
    try dsimp only [jrI, jrN, jrA, jisr, jnul, jcat1]
    refine ⟨fun c8 => ?_, fun c8 => ?_⟩
    · have c8 := (nI_eq (b := 8) (by omega) (by omega)).1 c8
      have e1 := w11.2 c8
      refine jif_n (by decide) ?_
      rw [jgI_ob ob3 rfl, i15]
      exact CM 1 (by rw [e1]; rfl) _ (by rw [e1]; exact nI_add k 2) _ _ _ _ _ _ _
    · have e1 : sur u N k = 0 := by
        have : ¬ sur u N k = 1 := fun w => c8 (by rw [w11.1 w]; rfl)
        omega
      refine jif_t rfl ?_
      rw [jgI_ob ob3 rfl, i15]
      exact CM 0 (by rw [e1]; rfl) _ (by rw [e1]; exact nI_1 k) _ _ _ _ _ _ _
  · rw [if_pos e] at ez
    rw [ez] at H0
    try dsimp only [jrI, jrN, jrA, jisr, jnul, jcat1]
    refine jif_t rfl (H0 (show ¬ (1 : Int) = 0 by decide) _ (fr_sV (by decide) (fr_mono (by decide) (by decide) k1)) ?_ 1 rfl)
    rw [fI_sV_k (by decide)]
    exact f16
end CST
