/-! A RUN: the model's let, from its first power to its end -/
section MLW
variable {X : JX} {d : Nat} {Q : JQ} {h : JH} {n : Nat} {m ρ τ f : Nat → Nat} {b t : Nat → Bool} {fl : Nat → Nat → Int} {r : Nat} {s : Nat} {x : S7} {hs ey : Int} {W : Nat → Int32} {O : Nat → Option V6} {ov : Nat → Bool} {a A0 N c : Nat}
theorem c_lets (g : G h) (rb : RB h n m ρ τ b f t fl) (hr : r < n) (e13 : fI h 81 13 = nI r) (mx : MX h x) (be : BUn x) (x1 : zsl x ≤ 900000) (x2 : zhm x ≤ 900000) (e10 : (fI h 81 10).toInt = hs) (h0 : 0 ≤ hs) (h20 : hs ≤ 20) (e11 : (fI h 81 11).toInt = ey) (y0 : 0 ≤ ey) (y40 : ey ≤ 40) (ha : a < 820) (hc : c < 12) (hN1 : 1 ≤ N) (hA : A0 + N ≤ 210) (e93 : aF h 93 a = nI c) (e94 : aF h 94 a = nI A0) (e95 : aF h 95 a = nI (A0 + N)) (av : ∀ j, j < N → AV h (A0 + j) (O j)) (gvo : ∀ j, j < N → ∀ v, O j = some v → GV v) (ew : ∀ j, j < N → aF h 97 (A0 + j) = W j) (eo : ∀ j, j < N → aF h 98 (A0 + j) = bi (ov j)) (es : fI h 81 48 = nI s) (s2 : s ≤ 200) {q : Int × S7 × V6} (eq : q = ltR hs ey (slf r (m r) b f t fl) W O ov s x N) (H1 : q.1 = 0 → ∀ h1, fr lF pF h h1 → MX h1 q.2.1 → aF h1 109 = upd (aF h 109) c 1 → (∀ w, w < 6 → (aF h1 110 (6 * c + w)).toInt = q.2.2 w) → (∀ j, (j < 6 * c ∨ 6 * c + 6 ≤ j) → aF h1 110 j = aF h 110 j) → fI h1 81 48 = nI (s + N) → Q (some (.int 1)) h1) (H0 : q.1 ≠ 0 → ∀ h1, fr lF pF h h1 → (fI h1 81 52).toInt = q.1 → Q (some (.int 0)) h1) : jex X (d + 7) 200 [.ref 81, .int (nI a)] h Q := by
  have iva : vp_in (nI a) 820 := by rw [vp_inI, nI_toInt (by omega)]; omega
  have ica : (nI a).toNatClampNeg = a := nI_clamp (by omega)
  have LB := ltp_b (hs := hs) (ey := ey) (sl := slf r (m r) b f t fl) (W := W) (x := x) gvo be x1 x2 h0 (show N ≤ 210 by omega) s2
  have iz1 : vp_in (1 : Int32) 1260 := by rw [vp_inI]; decide
  have ic1 : (1 : Int32).toNatClampNeg = 1 := rfl
  -- behind the powers
  have END : ∀ (h1 : JH) (o4 o5 o6 : Option Value) (c1 s1 : Nat), ((ltp hs ey (slf r (m r) b f t fl) W O s x) N).1 = 0 → fr [89, 111] pF h h1 → MX h1 ((ltp hs ey (slf r (m r) b f t fl) W O s x) N).2.1 → fI h1 81 48 = nI (s + N) → (∀ k, k < N → PW h1 k (((ltp hs ey (slf r (m r) b f t fl) W O s x) N).2.2 k)) → jB_X12_lets_16 X (d + 6) Q 81 (nI a) (nI N) (nI N) o4 o5 o6 h1 c1 s1 := by
    intro h1 o4 o5 o6 c1 s1 w k1 mx1 f48 pw
    obtain ⟨b1, b2, b3⟩ := LB N (Nat.le_refl _) w
    have g1 := G_fr g rfl k1
    have rb1 : RB h1 n m ρ τ b f t fl := RB_fr rb k1 (by decide)
    have f13 : fI h1 81 13 = nI r := by rw [frI k1 (by decide) (by decide)]; exact e13
    have f10 : (fI h1 81 10).toInt = hs := by rw [frI k1 (by decide) (by decide)]; exact e10
    have f11 : (fI h1 81 11).toInt = ey := by rw [frI k1 (by decide) (by decide)]; exact e11
    have f93 : aF h1 93 a = nI c := by rw [frF k1 (by decide)]; exact e93
    have f94 : aF h1 94 a = nI A0 := by rw [frF k1 (by decide)]; exact e94
    have f98 : ∀ j, j < N → aF h1 98 (A0 + j) = bi (ov j) := fun j hj => by rw [frF k1 (by decide)]; exact eo j hj
    have f109 : aF h1 109 = aF h 109 := frF k1 (by decide)
    have f110 : aF h1 110 = aF h 110 := frF k1 (by decide)
    have kk : fr lF pF h h1 := fr_mono (by decide) (by decide) k1
    unfold ltR at eq
    rw [if_pos w] at eq
    generalize ((ltp hs ey (slf r (m r) b f t fl) W O s x) N).2.2 = vs at *
    generalize ((ltp hs ey (slf r (m r) b f t fl) W O s x) N).2.1 = y at *
    have by1 : BUn y := BUn_L be x1 x2 (by omega) b1
    have yb : zsl y ≤ 950000 ∧ zhm y ≤ 950000 := by unfold LV at b1; omega
    have g0 := b2 0 (by omega)
    have pw0 := pw 0 (by omega)
    have a0 := g0.1 0 (by decide)
    simp only [Nat.mul_zero, Nat.zero_add] at a0
    have p1 : (aF h1 111 1).toInt = vs 0 1 := pw0 1 (by decide)
    have yu := by1
    obtain ⟨z1, z2, z3, z4, z5, z6, z7, z8, z9, z10, z11, z12⟩ := by1
    obtain ⟨m1, m2, m3, m4, m5, m6, m7⟩ := id mx1
    refine jT_X12_lets_16 (jif_n (nI_nlt (by omega) (by omega)) ?_)
    rw [jrc_ob (by simp only [gM g1])]
    change jex X (d + 5 + 1) 203 [.ref 81, .int (bi true), .int (nI 1), .int (bi false)] _ _
    refine c_find g1 rb1 hr f13 (by decide) (fun k flk sm es => ?_) (fun es => ?_)
    · have ec0 : ltc hs (slf r (m r) b f t fl) ov vs y 0 = pset hs (setp y (vs 0 1)) (ct 1 false flk (vmk (vs 0) 1)) true (lse (vs 0) 1) := by
        unfold ltc
        simp only [es]
      rw [es] at eq
      try dsimp only [jrI, jrN, jrA, jisr, jnul, jcat1]
      simp (decide := true) only [jgf_ob (c := 12), jpI_ob (c := 12), jrc_ob (c := 12), gM g1, gN g1, jaI_ar (p := 111) (n := 1260), iz1, ic1, true_and, obj_sV]
      have k2 : fr [] mF h1 (sV h1 81 57 (.int (aF h1 111 1))) := fr_sV (by decide) fr_rfl
      have mx2 : MX (sV h1 81 57 (.int (aF h1 111 1))) (setp y (vs 0 1)) := by
        unfold MX
        simp (decide := true) only [jgI_ob, jgf_ob, jgL_ob, jpI_ob, jpL_ob, jpR_ob, jpN_ob, jrc_ob, obj_sV, obj_wF, obj_wG, obj_wR, arr_sV, arr_wF, arr_wG, arr_wR, arL_sV, arL_wF, arL_wG, arL_wR, arR_sV, arR_wF, arR_wG, arR_wR, fI_sV (c := 0), fI_sV (c := 1), fI_sV (c := 2), fI_sV (c := 4), fI_sV (c := 5), fI_sV (c := 7), fI_sV (c := 8), fI_sV (c := 9), fI_sV (c := 10), fI_sV (c := 11), fI_sV (c := 12), fI_sV (c := 6), fL_sV (c := 9), fL_sV (c := 12), fI_sV_k, fL_sV_k, fV_sV_k, fI_wF, fI_wG, fI_wR, fL_wF, fL_wG, fL_wR, fV_wF, fV_wG, fV_wR, aF_sV, aG_sV, aR_sV, aF_wG, aF_wR, aG_wF, aG_wR, aR_wF, aR_wG, gM g1]
        exact ⟨m1, m2, m3, m4, m5, m6, p1⟩
      have sm2 : SM (sV h1 81 57 (.int (aF h1 111 1))) k true 1 false flk := by
        unfold SM at sm ⊢
        rw [frF k2 (by decide), frF k2 (by decide), frF k2 (by decide), frF k2 (by decide)]
        exact sm
      have g2 := G_fr g1 rfl k2
      have q10 : (fI (sV h1 81 57 (.int (aF h1 111 1))) 81 10).toInt = hs := by rw [frI k2 (by decide) (by decide)]; exact f10
      have pw2 := PW_fr pw0 k2 (by decide)
      generalize sV h1 81 57 (.int (aF h1 111 1)) = h2 at *
      change jex X (d + 1 + 5) 204 [.ref 81, .int (nI k), .int (nI 0)] _ _
      refine c_hairBy g2 sm2 mx2 (show -4096 ≤ zs y from z1) (show zs y ≤ 4096 from z2) (show 0 ≤ zu y from z5) (show zu y ≤ 100000000 by omega) (show 0 ≤ zhm y from z11) (show zhm y ≤ 100000000 by omega) q10 h0 h20 pw2 g0 (by decide) (fun e0 h3 k3 mx3 => ?_) (fun e0 h3 k3 e52 => ?_)
      · rw [← ec0] at e0 mx3
        have k13 : fr [] mF h1 h3 := fr_trans k2 k3
        have k13' : fr lF pF h1 h3 := fr_mono (by decide) (by decide) k13
        try dsimp only [jrI, jrN, jrA, jisr, jnul, jcat1]
        refine jif_n (by decide) ?_
        have sm3 : SM h3 k true 1 false flk := by
          unfold SM at sm2 ⊢
          rw [frF k3 (by decide), frF k3 (by decide), frF k3 (by decide), frF k3 (by decide)]
          exact sm2
        refine l_lets77 (x := y) (vs := vs) (A0 := A0) (G_fr g2 rfl k3) (RB_fr rb1 k13 (by decide)) hr (by rw [frI k13 (by decide) (by decide)]; exact f13) yu yb.1 yb.2 (by rw [frI k13 (by decide) (by decide)]; exact f10) h0 h20 (by rw [frI k13 (by decide) (by decide)]; exact f11) y0 y40 ha hc (by omega) hA (by rw [frF k13 (by decide)]; exact f93) (by rw [frF k13 (by decide)]; exact f94) (fun j hj => by rw [frF k13 (by decide)]; exact f98 j hj) b2 sm3 eq (fun c0 h4 k4 mx4 q109 q110 o110 e48 => ?_) (fun c0 h4 k4 e52 => H0 c0 h4 (fr_trans kk (fr_trans k13' k4)) e52) (N - 1) 0 h3 _ _ _ _ (by omega) e0 fr_rfl mx3 (fun i hi => PW_fr (pw i hi) k13 (by decide))
        refine H1 c0 h4 (fr_trans kk (fr_trans k13' k4)) mx4 ?_ q110 (fun i hi => ?_) ?_
        · rw [q109, frF k13 (by decide), f109]
        · rw [o110 i hi, frF k13 (by decide), f110]
        · rw [e48, frI k13 (by decide) (by decide), f48]
      · rw [← ec0] at e0 e52
        have up := ltc_up e0 (N - 1)
        rw [Nat.zero_add] at up
        rw [up, if_neg e0] at eq
        rw [eq] at H0
        try dsimp only [jrI, jrN, jrA, jisr, jnul, jcat1]
        exact jif_t rfl (H0 e0 h3 (fr_trans kk (fr_mono (by decide) (by decide) (fr_trans k2 k3))) e52)
    · have ec0 : ltc hs (slf r (m r) b f t fl) ov vs y 0 = (2, setp y (vs 0 1)) ∨ (ltc hs (slf r (m r) b f t fl) ov vs y 0).1 = 2 := by
        refine Or.inr ?_
        unfold ltc
        simp only [es]
      have ec2 : (ltc hs (slf r (m r) b f t fl) ov vs y 0).1 = 2 := by
        rcases ec0 with e | e
        · rw [e]
        · exact e
      have up := ltc_up (hs := hs) (sl := slf r (m r) b f t fl) (ov := ov) (vs := vs) (x := y) (j := 0) (by rw [ec2]; decide) (N - 1)
      rw [Nat.zero_add] at up
      rw [up, if_neg (by rw [ec2]; decide)] at eq
      rw [eq] at H0
      try dsimp only [jrI, jrN, jrA, jisr, jnul, jcat1]
      simp (decide := true) only [jgf_ob (c := 12), jpI_ob (c := 12), jrc_ob (c := 12), gM g1, gN g1, jaI_ar (p := 111) (n := 1260), iz1, ic1, true_and, obj_sV]
      have k2 : fr [] mF h1 (sV h1 81 57 (.int (aF h1 111 1))) := fr_sV (by decide) fr_rfl
      have g2 := G_fr g1 rfl k2
      change jex X (d + 1 + 5) 204 _ _ _
      refine c_hairBy0 g2 (fun h3 k3 e52 => ?_)
      try dsimp only [jrI, jrN, jrA, jisr, jnul, jcat1]
      exact jif_t rfl (H0 (show ¬ (ltc hs (slf r (m r) b f t fl) ov vs y 0).1 = 0 by rw [ec2]; decide) h3 (fr_trans kk (fr_mono (by decide) (by decide) (fr_trans k2 k3))) (e52.trans ec2.symm))
  have L : ∀ (rr j : Nat) (h1 : JH) (o4 o5 o6 : Option Value) (c1 s1 : Nat), j + rr = N → ((ltp hs ey (slf r (m r) b f t fl) W O s x) j).1 = 0 → fr [89, 111] pF h h1 → MX h1 ((ltp hs ey (slf r (m r) b f t fl) W O s x) j).2.1 → fI h1 81 48 = nI (s + j) → (∀ k, k < j → PW h1 k (((ltp hs ey (slf r (m r) b f t fl) W O s x) j).2.2 k)) → jB_X12_lets_16 X (d + 6) Q 81 (nI a) (nI N) (nI j) o4 o5 o6 h1 c1 s1 := by
    intro rr
    induction rr with
    | zero =>
      intro j h1 o4 o5 o6 c1 s1 hj w k1 mx1 f48 pw
      have ej : j = N := by omega
      subst ej
      exact END h1 _ _ _ _ _ w k1 mx1 f48 pw
    | succ rr ih =>
      intro j h1 o4 o5 o6 c1 s1 hj w k1 mx1 f48 pw
      obtain ⟨b1, b2, b3⟩ := LB j (by omega) w
      have g1 := G_fr g rfl k1
      have rb1 : RB h1 n m ρ τ b f t fl := RB_fr rb k1 (by decide)
      have f13 : fI h1 81 13 = nI r := by rw [frI k1 (by decide) (by decide)]; exact e13
      have f10 : (fI h1 81 10).toInt = hs := by rw [frI k1 (by decide) (by decide)]; exact e10
      have f11 : (fI h1 81 11).toInt = ey := by rw [frI k1 (by decide) (by decide)]; exact e11
      have f94 : aF h1 94 a = nI A0 := by rw [frF k1 (by decide)]; exact e94
      have f97 : aF h1 97 (A0 + j) = W j := by rw [frF k1 (by decide)]; exact ew j (by omega)
      have avj : AV h1 (A0 + j) (O j) := AV_eq (av j (by omega)) (frF k1 (by decide)) (frF k1 (by decide)) (frF k1 (by decide)) (frF k1 (by decide)) (frF k1 (by decide))
      have by1 := BUn_L be x1 x2 (show j ≤ 500 by omega) b1
      have i1 : nI A0 + nI j = nI (A0 + j) := nI_add _ _
      have e : (ltp hs ey (slf r (m r) b f t fl) W O s x) (j + 1) = ((pwS hs ey (slf r (m r) b f t fl) (W j) (s + j) (O j) ((ltp hs ey (slf r (m r) b f t fl) W O s x) j).2.1).1, (pwS hs ey (slf r (m r) b f t fl) (W j) (s + j) (O j) ((ltp hs ey (slf r (m r) b f t fl) W O s x) j).2.1).2.1, fun k => if k = j then (pwS hs ey (slf r (m r) b f t fl) (W j) (s + j) (O j) ((ltp hs ey (slf r (m r) b f t fl) W O s x) j).2.1).2.2 else ((ltp hs ey (slf r (m r) b f t fl) W O s x) j).2.2 k) := if_pos w
      refine jT_X12_lets_16 (jif_t (nI_lt (by omega) (by omega)) ?_)
      simp (decide := true) only [jgf_ob (c := 12), jrc_ob (c := 12), gM g1, gN g1, jaI_ar (p := 94) (n := 820), iva, ica, f94, i1, true_and]
      refine c_power g1 rb1 hr f13 mx1 by1 f10 h0 h20 f11 y0 y40 (by omega) (by omega) avj (gvo j (by omega)) f97 f48 b3 rfl (fun e0 h2 k2 mx2 pw2 oj2 e48 => ?_) (fun e0 h2 k2 e52 => ?_)
      · try dsimp only [jrI, jrN, jrA, jisr, jnul, jcat1]
        refine jif_n (by decide) ?_
        rw [nI_1]
        refine ih (j + 1) h2 _ _ _ _ _ (by omega) (by rw [e]; exact e0) (fr_trans k1 k2) (by rw [e]; exact mx2) e48 (fun k hk => ?_)
        rw [e]
        show PW h2 k (if k = j then (pwS hs ey (slf r (m r) b f t fl) (W j) (s + j) (O j) ((ltp hs ey (slf r (m r) b f t fl) W O s x) j).2.1).2.2 else ((ltp hs ey (slf r (m r) b f t fl) W O s x) j).2.2 k)
        by_cases z : k = j
        · rw [if_pos z, z]; exact pw2
        · rw [if_neg z]
          intro w hw
          rw [oj2 (6 * k + w) (by omega)]
          exact pw k (by omega) w hw
      · have ne : ((ltp hs ey (slf r (m r) b f t fl) W O s x) (j + 1)).1 ≠ 0 := by rw [e]; exact e0
        have up := ltp_up ne (N - (j + 1))
        rw [show j + 1 + (N - (j + 1)) = N by omega] at up
        unfold ltR at eq
        rw [up, if_neg ne] at eq
        rw [eq] at H0
        try dsimp only [jrI, jrN, jrA, jisr, jnul, jcat1]
        refine jif_t rfl (H0 ne h2 (fr_mono (by decide) (by decide) (fr_trans k1 k2)) ?_)
        rw [e52, e]
  have iN : nI (A0 + N) - nI A0 = nI N := by
    have q1 := nI_toInt (show A0 + N < 2147483648 by omega)
    have q2 := nI_toInt (show A0 < 2147483648 by omega)
    have q3 := nI_toInt (show N < 2147483648 by omega)
    have : (nI (A0 + N) - nI A0).toInt = (N : Int) := (by simp only [Int32.toInt_add, Int32.toInt_sub, Int32.toInt_mul, Int32.toInt_neg, Int.bmod_def, tl, t4]; omega)
    rw [ti_eq, this, q3]
  rw [jE_X12_lets]
  refine jT_X12_lets_0 ?_
  simp (decide := true) only [jgf_ob (c := 12), gM g, gN g, jaI_ar (p := 94) (n := 820), jaI_ar (p := 95) (n := 820), iva, ica, e94, e95, iN, true_and]
  exact L N 0 h _ _ _ _ _ (by omega) rfl fr_rfl mx es (fun k hk => absurd hk (Nat.not_lt_zero _))
end MLW
