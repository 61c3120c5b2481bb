/-! A RUN: the class calculates -/
section CC0
theorem fr_sym {A : List Nat} {F : List (Nat × Nat)} {h h1 : JH} (a : fr A F h h1) : fr A F h1 h := ⟨a.1.symm, a.2.1.symm, fun p hp => ⟨(a.2.2.1 p hp).1.symm, (a.2.2.1 p hp).2.1.symm, (a.2.2.1 p hp).2.2.symm⟩, fun p k hp hk => (a.2.2.2 p k hp hk).symm⟩
variable {X : JX} {d : Nat} {Q : JQ} {h : JH} {p : Nat} {x : S7} {hs : Int} {m e lo : Int32}
theorem c_startWith0 (H : Q (some (.int 2)) h) : jex X (d + 1) 171 [.ref p, .null, .int m, .int e, .int lo] h Q := by
  rw [jE_X2_startWith_n1]
  refine jT_X2_startWith_0 ?_
  try dsimp only [jisr, jnul]
  exact H
theorem c_divide0 (H : Q (some (.int 2)) h) : jex X (d + 1) 174 [.ref p, .null, .int m, .int e, .int lo] h Q := by
  rw [jE_X2_divide_n1]
  refine jT_X2_divide_0 ?_
  try dsimp only [jisr, jnul]
  exact H
theorem c_multiply0 (ho : obj h p 2) (hx : HS h p x) (bd : BE x) (e0 : (fI h p 0).toInt = hs) (h0 : 0 ≤ hs) (h20 : hs ≤ 20) {bh : Bool} (H : ∀ (h' : JH) (r : Int32), fr [] (hF p) h h' → r.toInt = (thn (pmul1 hs x bh) (fun y => (2, y))).1 → Q (some (.int r)) h') : jex X (d + 3) 175 [.ref p, .null, .int m, .int e, .int lo, .int (bi bh)] h Q := by
  have bD := BE_BD bd
  rw [jE_X2_multiply_n1]
  refine jT_X2_multiply_0 ?_
  cases bh
  · refine jif_t rfl ?_
    rw [jrc_ob ho]
    refine k_bslide ho hx bD e0 h0 h20 (c := 0) (lo := 0) rfl (by decide) (by decide) rfl (by decide) (by decide) (fun h1 w k hw hx1 => ?_)
    rw [Int.sub_zero, Int.add_zero] at hw hx1
    have ep : pmul1 hs x false = pslide x (zh x) (zv x + hs) := rfl
    rw [ep] at H
    unfold thn at H
    by_cases c : (pslide x (zh x) (zv x + hs)).1 = 0
    · rw [if_pos c] at H
      have w0 : w = 0 := by rw [ti_eq, hw, c]; rfl
      subst w0
      refine jT_X2_multiply_40 (jif_t rfl ?_)
      try dsimp only [jisr, jnul]
      exact H h1 2 k rfl
    · rw [if_neg c] at H
      refine jT_X2_multiply_40 (jif_n (fun q => c ?_) (H h1 w k hw))
      rw [ti_eq, hw] at q
      exact q
  · have e2 : (thn (pmul1 hs x true) (fun y => ((2 : Int), y))).1 = 2 := rfl
    rw [e2] at H
    refine jif_n (by decide) ?_
    rw [jgI_ob ho rfl]
    refine ⟨fun c => ?_, fun c => ?_⟩
    · rw [jgI_ob ho rfl, jpI_ob ho rfl]
      refine jT_X2_multiply_40 (jif_t rfl ?_)
      try dsimp only [jisr, jnul]
      exact H _ 2 (fr_h (by decide) (by decide) fr_rfl) rfl
    · refine jT_X2_multiply_40 (jif_t rfl ?_)
      try dsimp only [jisr, jnul]
      exact H h 2 fr_rfl rfl
end CC0
section CCA
variable {X : JX} {d : Nat} {Q : JQ} {h : JH} {n : Nat} {m ρ τ f : Nat → Nat} {b t : Nat → Bool} {fl : Nat → Nat → Int} {r : Nat} {N : Nat} {x : S7} {hs ey : Int} {ov : Nat → Bool} {vs : Nat → V6}
theorem HS_fr {A : List Nat} {F : List (Nat × Nat)} {h1 : JH} (hx : HS h 6 x) (k : fr A F h h1) (k4 : (6, 4) ∉ F) (k5 : (6, 5) ∉ F) (k6 : (6, 6) ∉ F) (k7 : (6, 7) ∉ F) (k8 : (6, 8) ∉ F) (k9 : (6, 9) ∉ F) (k10 : (6, 10) ∉ F) : HS h1 6 x := by
  unfold HS at hx ⊢
  rw [frI k k4 (by decide), frI k k5 (by decide), frI k k6 (by decide), frI k k7 (by decide), frI k k8 (by decide), frI k k9 (by decide), frI k k10 (by decide)]
  exact hx
theorem c_calculate (g : G h) (rb : RB h n m ρ τ b f t fl) (hr : r < n) (e62 : fV h 6 2 = .ref (ρ r)) (hx : HS h 6 x) (be : BUn x) (x1 : zsl x ≤ 950000) (x2 : zhm x ≤ 950000) (px0 : -10000000 ≤ zpl x) (px1 : zpl x ≤ 10000000) (e0 : (fI h 6 0).toInt = hs) (h0 : 0 ≤ hs) (h20 : hs ≤ 20) (ei : fI h 24 12 = nI N) (N1 : 1 ≤ N) (hN : N ≤ 210) (ar : ∀ i, i < N → ARs h i (vs i) (ov i)) (gv : ∀ k, k < N → GV (vs k)) (ov0 : ov 0 = false) (H : ∀ (h1 : JH) (y : Int32), fr [] (hF 6) h h1 → y.toInt = ((ltc hs (slf r (m r) b f t fl) ov vs x (N - 1))).1 → (((ltc hs (slf r (m r) b f t fl) ov vs x (N - 1))).1 = 0 → HS h1 6 ((ltc hs (slf r (m r) b f t fl) ov vs x (N - 1))).2) → Q (some (.int y)) h1) : jex X (d + 4) 168 [.ref 24] h Q := by
  have ob : obj h 24 7 := by simp only [gO g]
  have LB := fun j hj w => ltc_b (ov := ov) (sl := slf r (m r) b f t fl) gv be x1 x2 h0 hN j hj w
  have t0 : (0 : Int32).toInt = 0 := rfl
  -- the loop
  have L : ∀ (cv : Value), ((cv = .null ∧ slf r (m r) b f t fl false 1 false = none) ∨ ∃ k flk, cv = .ref (τ k) ∧ 126 ≤ τ k ∧ SC h (τ k) false 1 false flk ∧ slf r (m r) b f t fl false 1 false = some flk) → ∀ (rr i : Nat) (h1 : JH) (a1 : Int32) (c s : Nat), i + 1 + rr = N → fr [] (hF 6) h h1 → a1.toInt = ((ltc hs (slf r (m r) b f t fl) ov vs x i)).1 → (((ltc hs (slf r (m r) b f t fl) ov vs x i)).1 = 0 → HS h1 6 ((ltc hs (slf r (m r) b f t fl) ov vs x i)).2) → jB_X7_calculate_39 X (d + 3) Q 24 a1 cv (nI (i + 1)) h1 c s := by
    intro cv hcv rr
    induction rr with
    | zero =>
      intro i h1 a1 c s hi k1 ha hz
      have g1 := G_fr g rfl k1
      have f12 : fI h1 24 12 = nI N := by rw [frI k1 (by decide) (by decide)]; exact ei
      refine jT_X7_calculate_39 ?_
      rw [jgI_ob (c := 7) (by simp only [gO g1]) rfl, f12]
      refine jif_n (nI_nlt (by omega) (by omega)) ?_
      have : N - 1 = i := by omega
      rw [this] at H
      exact H h1 a1 k1 ha hz
    | succ rr ih =>
      intro i h1 a1 c s hi k1 ha hz
      have g1 := G_fr g rfl k1
      have ob1 : obj h1 24 7 := by simp only [gO g1]
      have o6 : obj h1 6 2 := by simp only [gO g1]
      have f12 : fI h1 24 12 = nI N := by rw [frI k1 (by decide) (by decide)]; exact ei
      have f60 : (fI h1 6 0).toInt = hs := by rw [frI k1 (by decide) (by decide)]; exact e0
      refine jT_X7_calculate_39 ?_
      rw [jgI_ob ob1 rfl, f12]
      refine jif_t (nI_lt (by omega) (by omega)) ?_
      rw [jgf_ob ob1 rfl, show fV h1 24 8 = .ref 54 by simp only [gF g1], jaln_arr (t := .int) (n := 400) (by simp only [gO g1])]
      refine jif_t (nI_lt (b := 400) (by omega) (by omega)) ?_
      refine ⟨fun c0 => ?_, fun c0 => ?_⟩
      · have w : ((ltc hs (slf r (m r) b f t fl) ov vs x i)).1 = 0 := by rw [← ha, c0]; rfl
        have hx1 := hz w
        obtain ⟨b1, b2, b3⟩ := LB i (by omega) w
        obtain ⟨r0, r1, r2, r3⟩ := ar (i + 1) (by omega)
        obtain ⟨s0, s1, s2, s3⟩ := ar i (by omega)
        have gi := gv (i + 1) (by omega)
        have a := gi.1 0 (by decide)
        simp only [Nat.mul_zero, Nat.zero_add] at a
        have vm := vmk1 gi
        have lb := lse_b gi (F := 1) (by decide) (by decide)
        have bE : BE ((ltc hs (slf r (m r) b f t fl) ov vs x i)).2 := by
          unfold LV BUn at *
          unfold BE
          omega
        have es : (ltc hs (slf r (m r) b f t fl) ov vs x (i + 1)) = thn ((ltc hs (slf r (m r) b f t fl) ov vs x i)) (fun y => if ov (i + 1) then pdC hs (slf r (m r) b f t fl false 1 false) (vs (i + 1)) y else pmC hs (slf r (m r) b f t fl false 1 false) (vs (i + 1)) (decide (1 < i + 1) && ov i) y) := rfl
        unfold thn at es
        rw [if_pos w] at es
        have eo : (decide (1 < i + 1) && ov i) = ov i := by
          by_cases z : i = 0
          · subst z; rw [ov0, Bool.and_false]
          · rw [decide_eq_true (by omega), Bool.true_and]
        rw [eo] at es
        have ivi : vp_in (nI (i + 1)) 400 := by rw [vp_inI, nI_toInt (by omega)]; omega
        have ici : (nI (i + 1)).toNatClampNeg = i + 1 := nI_clamp (by omega)
        have ivj : vp_in (nI i) 400 := by rw [vp_inI, nI_toInt (by omega)]; omega
        have icj : (nI i).toNatClampNeg = i := nI_clamp (by omega)
        have im : nI (i + 1) - 1 = nI i := nI_p (by omega)
        have F54 : aF h1 54 = aF h 54 := frF k1 (by decide)
        have F55 : aF h1 55 = aF h 55 := frF k1 (by decide)
        have F56 : aF h1 56 = aF h 56 := frF k1 (by decide)
        have F57 : aF h1 57 = aF h 57 := frF k1 (by decide)
        have NX : ∀ (h2 : JH) (y : Int32), fr [] (hF 6) h1 h2 → y.toInt = ((ltc hs (slf r (m r) b f t fl) ov vs x (i + 1))).1 → (((ltc hs (slf r (m r) b f t fl) ov vs x (i + 1))).1 = 0 → HS h2 6 ((ltc hs (slf r (m r) b f t fl) ov vs x (i + 1))).2) → jB_X7_calculate_39 X (d + 3) Q 24 y cv (nI (i + 1) + 1) h2 c s := by
          intro h2 y k2 hy hz2
          rw [nI_1]
          exact ih (i + 1) h2 y _ _ (by omega) (fr_trans k1 k2) hy hz2
        generalize ((ltc hs (slf r (m r) b f t fl) ov vs x i)).2 = y0 at *
        rw [jgf_ob ob1 rfl, show fV h1 24 11 = .ref 57 by simp only [gF g1], jaZ_ar (n := 400) (by simp only [gO g1]), ici, F57, r3]
        refine ⟨ivi, ?_⟩
        cases eov : ov (i + 1) with
        | true =>
          rw [eov] at es
          have es : (ltc hs (slf r (m r) b f t fl) ov vs x (i + 1)) = pdC hs (slf r (m r) b f t fl false 1 false) (vs (i + 1)) y0 := es
          refine jif_n (by decide) ?_
          rw [jgf_ob ob1 rfl, show fV h1 24 0 = .ref 6 by simp only [gF g1]]
          have JI : ∀ A, A → jisr cv A := by
            intro A hA
            rcases hcv with ⟨e, _⟩ | ⟨k, flk, e, _⟩ <;> subst e <;> exact hA
          refine JI _ ?_
          rw [jgf_ob ob1 rfl, show fV h1 24 8 = .ref 54 by simp only [gF g1], jaI_ar (n := 400) (by simp only [gO g1]), ici, F54]
          refine ⟨ivi, ?_⟩
          rw [jgf_ob ob1 rfl, show fV h1 24 9 = .ref 55 by simp only [gF g1], jaI_ar (n := 400) (by simp only [gO g1]), ici, F55]
          refine ⟨ivi, ?_⟩
          rw [jgf_ob ob1 rfl, show fV h1 24 10 = .ref 56 by simp only [gF g1], jaI_ar (n := 400) (by simp only [gO g1]), ici, F56]
          refine ⟨ivi, ?_⟩
          rw [jrc_ob o6]
          rcases hcv with ⟨e, en⟩ | ⟨k, flk, e, hp, sc, en⟩
          · subst e
            rw [en] at es
            have es : (ltc hs (slf r (m r) b f t fl) ov vs x (i + 1)) = (2, y0) := es
            refine c_divide0 (d := d + 2) ?_
            try dsimp only [jrI, jrN, jrA, jisr, jnul, jcat1]
            exact NX h1 2 fr_rfl (by rw [es]; rfl) (fun w => absurd w (by rw [es]; show ¬ (2 : Int) = 0; decide))
          · subst e
            rw [en] at es
            have es : (ltc hs (slf r (m r) b f t fl) ov vs x (i + 1)) = pdiv hs y0 (ct 1 false flk (vmk (vs (i + 1)) 1)) (vs (i + 1) 1) (lse (vs (i + 1)) 1) := es
            refine c_divide (d := d) (n := vmk (vs (i + 1)) 1) g1 (Or.inl rfl) o6 (SC_fr sc hp (lowA_of (by decide)) (lowF_of (by decide)) k1) hx1 bE f60 h0 h20 (by omega) (by omega) (by omega) (by omega) (by omega) (by omega) (by omega) (fun h2 y k2 hy hx2 => ?_)
            rw [r1, r2, ← es] at hy hx2
            try dsimp only [jrI, jrN, jrA, jisr, jnul, jcat1]
            exact NX h2 y k2 hy (fun _ => hx2)
        | false =>
          rw [eov] at es
          have es : (ltc hs (slf r (m r) b f t fl) ov vs x (i + 1)) = pmC hs (slf r (m r) b f t fl false 1 false) (vs (i + 1)) (ov i) y0 := es
          refine jif_t rfl ?_
          rw [jgf_ob ob1 rfl, show fV h1 24 0 = .ref 6 by simp only [gF g1]]
          have JI : ∀ A, A → jisr cv A := by
            intro A hA
            rcases hcv with ⟨e, _⟩ | ⟨k, flk, e, _⟩ <;> subst e <;> exact hA
          refine JI _ ?_
          rw [jgf_ob ob1 rfl, show fV h1 24 8 = .ref 54 by simp only [gF g1], jaI_ar (n := 400) (by simp only [gO g1]), ici, F54]
          refine ⟨ivi, ?_⟩
          rw [jgf_ob ob1 rfl, show fV h1 24 9 = .ref 55 by simp only [gF g1], jaI_ar (n := 400) (by simp only [gO g1]), ici, F55]
          refine ⟨ivi, ?_⟩
          rw [jgf_ob ob1 rfl, show fV h1 24 10 = .ref 56 by simp only [gF g1], jaI_ar (n := 400) (by simp only [gO g1]), ici, F56]
          refine ⟨ivi, ?_⟩
          rw [jgf_ob ob1 rfl, show fV h1 24 11 = .ref 57 by simp only [gF g1], im, jaZ_ar (n := 400) (by simp only [gO g1]), icj, F57, s3]
          refine ⟨ivj, ?_⟩
          rw [jrc_ob o6]
          unfold pmC at es
          rcases hcv with ⟨e, en⟩ | ⟨k, flk, e, hp, sc, en⟩
          · subst e
            rw [en] at es
            have es : (ltc hs (slf r (m r) b f t fl) ov vs x (i + 1)) = thn (pmul1 hs y0 (ov i)) (fun y => (2, y)) := es
            refine c_multiply0 (d := d) o6 hx1 bE f60 h0 h20 (fun h2 y k2 hy => ?_)
            rw [← es] at hy
            try dsimp only [jrI, jrN, jrA, jisr, jnul, jcat1]
            refine NX h2 y k2 hy (fun w => absurd w ?_)
            rw [es]
            unfold thn
            by_cases q : (pmul1 hs y0 (ov i)).1 = 0
            · rw [if_pos q]; show ¬ (2 : Int) = 0; decide
            · rw [if_neg q]; exact q
          · subst e
            rw [en] at es
            have es : (ltc hs (slf r (m r) b f t fl) ov vs x (i + 1)) = thn (pmul1 hs y0 (ov i)) (fun y => pmul2 hs y (ct 1 false flk (vmk (vs (i + 1)) 1)) (vs (i + 1) 1) (lse (vs (i + 1)) 1)) := es
            refine c_multiply (d := d) (n := vmk (vs (i + 1)) 1) g1 (Or.inl rfl) o6 (SC_fr sc hp (lowA_of (by decide)) (lowF_of (by decide)) k1) hx1 bE f60 h0 h20 (by omega) (by omega) (by omega) (by omega) (by omega) (by omega) (by omega) (fun h2 y k2 hy hx2 => ?_)
            rw [r1, r2, ← es] at hy hx2
            try dsimp only [jrI, jrN, jrA, jisr, jnul, jcat1]
            exact NX h2 y k2 hy (fun _ => hx2)
      · have nz : ((ltc hs (slf r (m r) b f t fl) ov vs x i)).1 ≠ 0 := by
          intro w
          refine c0 ?_
          rw [ti_eq, ha, w]
          rfl
        have up := ltc_up (hs := hs) (sl := slf r (m r) b f t fl) (ov := ov) (vs := vs) (x := x) nz (N - 1 - i)
        rw [show i + (N - 1 - i) = N - 1 by omega] at up
        rw [up] at H
        exact H h1 a1 k1 ha (fun w => absurd w nz)
  -- the beginning
  obtain ⟨r0, r1, r2, r3⟩ := ar 0 (by omega)
  have g0 := gv 0 (by omega)
  have a := g0.1 0 (by decide)
  simp only [Nat.mul_zero, Nat.zero_add] at a
  have vm := vmk1 g0
  have lb := lse_b g0 (F := 1) (by decide) (by decide)
  have iz : vp_in (0 : Int32) 400 := by rw [vp_inI]; decide
  have izc : (0 : Int32).toNatClampNeg = 0 := rfl
  have o6 : obj h 6 2 := by simp only [gO g]
  have ec0 : (ltc hs (slf r (m r) b f t fl) ov vs x 0) = match slf r (m r) b f t fl true 1 false with
    | none => (2, x)
    | some fl => pset hs (setp x (vs 0 1)) (ct 1 false fl (vmk (vs 0) 1)) true (lse (vs 0) 1) := rfl
  -- behind the first setting
  have S1 : ∀ (h1 : JH) (y : Int32) (c s : Nat), fr [] (hF 6) h h1 → y.toInt = ((ltc hs (slf r (m r) b f t fl) ov vs x 0)).1 → (((ltc hs (slf r (m r) b f t fl) ov vs x 0)).1 = 0 → HS h1 6 ((ltc hs (slf r (m r) b f t fl) ov vs x 0)).2) → jrc h1 (.ref 24) 7 (jex X (d + 3) 173 [.ref 24, .int 0] h1 fun r15 h14 => (jrA r15 fun v16 => (jisr v16 (jB_X7_calculate_39 X (d + 3) Q 24 y v16 1 h14 c s)))) := by
    intro h1 y c s k1 hy hz
    have g1 := G_fr g rfl k1
    rw [jrc_ob (by simp only [gO g1])]
    change jex X (d + 3) 173 [.ref 24, .int (bi false)] h1 _
    refine c_onSlide (d := d + 1) g1 (RB_fr rb k1 (by decide)) hr (by rw [frV k1 (by decide) (by decide)]; exact e62) (fun k flk p1 sc es => ?_) (fun es => ?_)
    · try dsimp only [jrI, jrN, jrA, jisr, jnul, jcat1]
      have sc' := SC_fr sc p1 (lowA_of (A := []) (by decide)) (lowF_of (F := hF 6) (by decide)) (fr_sym k1)
      exact L (.ref (τ k)) (Or.inr ⟨k, flk, rfl, p1, sc', es⟩) (N - 1) 0 h1 y c s (by omega) k1 hy hz
    · try dsimp only [jrI, jrN, jrA, jisr, jnul, jcat1]
      exact L .null (Or.inl ⟨rfl, es⟩) (N - 1) 0 h1 y c s (by omega) k1 hy hz
  rw [jE_X7_calculate]
  refine jT_X7_calculate_0 ?_
  rw [jgf_ob ob rfl, show fV h 24 0 = .ref 6 by simp only [gF g], jrc_ob ob]
  change jex X (d + 3) 169 [.ref 24, .int (nI 1)] h _
  refine c_onBody (d := d + 1) g rb hr e62 (by decide) (fun k flk p1 sc es => ?_) (fun es => ?_)
  · rw [es] at ec0
    have ec0 : (ltc hs (slf r (m r) b f t fl) ov vs x 0) = pset hs (setp x (vs 0 1)) (ct 1 false flk (vmk (vs 0) 1)) true (lse (vs 0) 1) := ec0
    try dsimp only [jrI, jrN, jrA, jisr, jnul, jcat1]
    rw [jgf_ob ob rfl, show fV h 24 8 = .ref 54 by simp only [gF g], jaI_ar (n := 400) (by simp only [gO g]), izc]
    refine ⟨iz, ?_⟩
    rw [jgf_ob ob rfl, show fV h 24 9 = .ref 55 by simp only [gF g], jaI_ar (n := 400) (by simp only [gO g]), izc]
    refine ⟨iz, ?_⟩
    rw [jgf_ob ob rfl, show fV h 24 10 = .ref 56 by simp only [gF g], jaI_ar (n := 400) (by simp only [gO g]), izc]
    refine ⟨iz, ?_⟩
    rw [jrc_ob o6]
    have bE : BE x := by
      unfold BUn at be
      unfold BE
      omega
    refine c_startWith (d := d) (n := vmk (vs 0) 1) g (Or.inl rfl) o6 sc hx bE e0 h0 h20 (by omega) (by omega) (by omega) (by omega) (by omega) (by omega) (by omega) (fun h2 y k2 hy hx2 => ?_)
    rw [r1, r2, ← ec0] at hy hx2
    try dsimp only [jrI, jrN, jrA, jisr, jnul, jcat1]
    exact S1 h2 y _ _ k2 hy (fun _ => hx2)
  · rw [es] at ec0
    have ec0 : (ltc hs (slf r (m r) b f t fl) ov vs x 0) = (2, x) := ec0
    try dsimp only [jrI, jrN, jrA, jisr, jnul, jcat1]
    rw [jgf_ob ob rfl, show fV h 24 8 = .ref 54 by simp only [gF g], jaI_ar (n := 400) (by simp only [gO g]), izc]
    refine ⟨iz, ?_⟩
    rw [jgf_ob ob rfl, show fV h 24 9 = .ref 55 by simp only [gF g], jaI_ar (n := 400) (by simp only [gO g]), izc]
    refine ⟨iz, ?_⟩
    rw [jgf_ob ob rfl, show fV h 24 10 = .ref 56 by simp only [gF g], jaI_ar (n := 400) (by simp only [gO g]), izc]
    refine ⟨iz, ?_⟩
    rw [jrc_ob o6]
    refine c_startWith0 (d := d + 2) ?_
    try dsimp only [jrI, jrN, jrA, jisr, jnul, jcat1]
    exact S1 h 2 _ _ fr_rfl (by rw [ec0]; rfl) (fun w => absurd w (by rw [ec0]; show ¬ (2 : Int) = 0; decide))
end CCA
