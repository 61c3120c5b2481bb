/-! A RUN: the model finds scales, multiplies, divides -/
abbrev SL : Type := Bool → Nat → Bool → Option (Nat → Int)
/-- the scales of rule r, as a run finds them -/
def slf (r mr : Nat) (b : Nat → Bool) (f : Nat → Nat) (t : Nat → Bool) (fl : Nat → Nat → Int) : SL := fun B F T => if fdx mr (fun s => b (8 * r + s)) (fun s => f (8 * r + s)) (fun s => t (8 * r + s)) B F T < mr then some (fl (8 * r + fdx mr (fun s => b (8 * r + s)) (fun s => f (8 * r + s)) (fun s => t (8 * r + s)) B F T)) else none
def pmC (hs : Int) (c : Option (Nat → Int)) (v : V6) (behind : Bool) (x : S7) : Int × S7 := thn (pmul1 hs x behind) (fun y => match c with
  | none => (2, y)
  | some fl => pmul2 hs y (ct 1 false fl (vmk v 1)) (v 1) (lse v 1))
def pdC (hs : Int) (c : Option (Nat → Int)) (v : V6) (x : S7) : Int × S7 := match c with
  | none => (2, x)
  | some fl => pdiv hs x (ct 1 false fl (vmk v 1)) (v 1) (lse v 1)
section MFD
variable {X : JX} {d : Nat} {Q : JQ} {h : JH} {n : Nat} {m ρ τ f : Nat → Nat} {b t : Nat → Bool} {fl : Nat → Nat → Int} {r : Nat} {p : Nat} {x : S7} {hs : Int} {v : V6}
theorem c_find (g : G h) (rb : RB h n m ρ τ b f t fl) (hr : r < n) (e13 : fI h 81 13 = nI r) {B T : Bool} {F : Nat} (hF : F ≤ 3) (H1 : ∀ k flk, SM h k B F T flk → slf r (m r) b f t fl B F T = some flk → Q (some (.int (nI k))) h) (H0 : slf r (m r) b f t fl B F T = none → Q (some (.int (-1))) h) : jex X (d + 1) 203 [.ref 81, .int (bi B), .int (nI F), .int (bi T)] h Q := by
  have rn := rb.1
  obtain ⟨m8, aR1, r126, ob, f0, ar, f1, a83⟩ := rb.2.2.2.1 r hr
  have e83 : aF h 83 r = nI (m r) := by rw [ti_eq, nI_toInt (by omega)]; exact a83
  have ivr : vp_in (nI r) 4 := by rw [vp_inI, nI_toInt (by omega)]; omega
  have icr : (nI r).toNatClampNeg = r := nI_clamp (by omega)
  have beq : ∀ {u v : Bool}, bi u = bi v ↔ u = v := by intro u v; cases u <;> cases v <;> decide
  have L : ∀ (k s : Nat) (o : Option Value) (c z : Nat), s + k = m r → (∀ j, j < s → ((b (8 * r + j) == B) && ((f (8 * r + j) == F) && (t (8 * r + j) == T))) = false) → jB_X12_find_3 X d Q 81 (bi B) (nI F) (bi T) (nI s) o h c z := by
    intro k
    induction k with
    | zero =>
      intro s o c z hs hn
      refine jT_X12_find_3 ?_
      simp (decide := true) only [jgf_ob (c := 12), jgI_ob (c := 12), gM g, gN g, jaI_ar (p := 83) (n := 4), e13, ivr, icr, true_and, e83]
      refine jif_n (nI_nlt (by omega) (by omega)) (H0 ?_)
      have e : fdx (m r) (fun s => b (8 * r + s)) (fun s => f (8 * r + s)) (fun s => t (8 * r + s)) B F T = m r := fI_no (fun j hj => hn j (by omega))
      unfold slf
      rw [if_neg (by rw [e]; omega)]
    | succ k ih =>
      intro s o c z hs hn
      have hs' : s < m r := by omega
      obtain ⟨z1, z2, sc, sm⟩ := rb.2.2.2.2.1 r s hr hs'
      obtain ⟨k32, sf1, sf3, s84, s85, s86, _⟩ := id sm
      have ik : 8 * nI r + nI s = nI (8 * r + s) := by rw [show 8 * nI r = nI (8 * r) from pk_mul 8 r, nI_add]
      have ivk : vp_in (nI (8 * r + s)) 32 := by rw [vp_inI, nI_toInt (by omega)]; omega
      have ick : (nI (8 * r + s)).toNatClampNeg = 8 * r + s := nI_clamp (by omega)
      have NXT : ((b (8 * r + s) == B) && ((f (8 * r + s) == F) && (t (8 * r + s) == T))) = false → ∀ (o : Option Value), jB_X12_find_3 X d Q 81 (bi B) (nI F) (bi T) (nI s + 1) o h c z := by
        intro no o
        rw [nI_1]
        refine ih (s + 1) _ _ _ (by omega) (fun j hj => ?_)
        by_cases e : j = s
        · rw [e]; exact no
        · exact hn j (by omega)
      refine jT_X12_find_3 ?_
      simp (decide := true) only [jgf_ob (c := 12), jgI_ob (c := 12), gM g, gN g, jaI_ar (p := 83) (n := 4), jaZ_ar (p := 84) (n := 32), jaI_ar (p := 85) (n := 32), jaZ_ar (p := 86) (n := 32), e13, ivr, icr, true_and, e83, ik, ivk, ick, s84, s85, s86]
      refine jif_t (nI_lt hs' (by omega)) ?_
      refine ⟨fun c0 => ?_, fun c0 => NXT ?_ _⟩
      · have c0 := beq.1 c0
        refine ⟨fun c1 => ?_, fun c1 => NXT ?_ _⟩
        · have c1 := (nI_eq (by omega) (by omega)).1 c1
          refine ⟨fun c2 => ?_, fun c2 => NXT ?_ _⟩
          · have c2 := beq.1 c2
            rw [c0, c1, c2] at sm
            refine H1 (8 * r + s) _ sm ?_
            have e : fdx (m r) (fun s => b (8 * r + s)) (fun s => f (8 * r + s)) (fun s => t (8 * r + s)) B F T = s := fI_at hs' (by simp only [c0, c1, c2, beq_self_eq_true, Bool.and_self]) hn
            unfold slf
            rw [e, if_pos hs']
          · have : (t (8 * r + s) == T) = false := beq_eq_false_iff_ne.mpr (fun q => c2 (by rw [q]))
            rw [this, Bool.and_false, Bool.and_false]
        · have : (f (8 * r + s) == F) = false := beq_eq_false_iff_ne.mpr (fun q => c1 (by rw [q]))
          rw [this, Bool.false_and, Bool.and_false]
      · have : (b (8 * r + s) == B) = false := beq_eq_false_iff_ne.mpr (fun q => c0 (by rw [q]))
        rw [this, Bool.false_and]
  rw [jE_X12_find]
  refine jT_X12_find_0 ?_
  exact L (m r) 0 _ _ _ (by omega) (fun j hj => absurd hj (Nat.not_lt_zero _))
theorem vmk1 (gv : GV v) : (vmk v 1 : Int) + 100 = v 0 ∧ vmk v 1 ≤ 900 := by
  have := vmk_e gv (f := 1) (by decide)
  have e : v 1 % ((1 : Nat) : Int) = 0 := Int.emod_one _
  rw [e] at this
  omega
/-- the model multiplies: behind the slide's first move -/
theorem l_times50 (g : G h) (rb : RB h n m ρ τ b f t fl) (hr : r < n) (e13 : fI h 81 13 = nI r) (mx : MX h x) (s0 : -4096 ≤ zs x) (s1 : zs x ≤ 4096) (u0 : 0 ≤ zu x) (u1 : zu x ≤ 30000000) (l0 : 0 ≤ zsl x) (l1 : zsl x ≤ 10000001) (n0 : 0 ≤ zhm x) (n1 : zhm x ≤ 10000000) (q0 : -10000001 ≤ zpl x) (q1 : zpl x ≤ 10000001) (e10 : (fI h 81 10).toInt = hs) (h0 : 0 ≤ hs) (h20 : hs ≤ 20) (pv : PW h p v) (gv : GV v) (hp : p < 210) {q : Int × S7} (eq : q = match slf r (m r) b f t fl false 1 false with
  | none => (2, x)
  | some flc => pmul2 hs x (ct 1 false flc (vmk v 1)) (v 1) (lse v 1)) (H1 : q.1 = 0 → ∀ h1, fr [] mF h h1 → MX h1 q.2 → Q (some (.int 1)) h1) (H0 : q.1 ≠ 0 → ∀ h1, fr [] mF h h1 → (fI h1 81 52).toInt = q.1 → Q (some (.int 0)) h1) {o2 o3 o4 : Option Value} {c s : Nat} : jB_X12_timesBy_50 X (d + 5) Q 81 (nI p) o2 o3 o4 h c s := by
  have a := gv.1 0 (by decide)
  simp only [Nat.mul_zero, Nat.zero_add] at a
  have vm := vmk1 gv
  have e6 : 6 * nI p = nI (6 * p) := pk_mul 6 p
  have p0 : (aF h 111 (6 * p)).toInt = v 0 := pv 0 (by decide)
  have p1 := pv 1 (by decide)
  have iv0 : vp_in (nI (6 * p)) 1260 := by rw [vp_inI, nI_toInt (by omega)]; omega
  have ic0 : (nI (6 * p)).toNatClampNeg = 6 * p := nI_clamp (by omega)
  have iv1 : vp_in (nI (6 * p + 1)) 1260 := by rw [vp_inI, nI_toInt (by omega)]; omega
  have ic1 : (nI (6 * p + 1)).toNatClampNeg = 6 * p + 1 := nI_clamp (by omega)
  refine jT_X12_timesBy_50 ?_
  rw [jrc_ob (by simp only [gM g])]
  change jex X (d + 4 + 1) 203 [.ref 81, .int (bi false), .int (nI 1), .int (bi false)] h _
  refine c_find g rb hr e13 (by decide) (fun k flk sm es => ?_) (fun es => ?_)
  · rw [es] at eq
    have eq : q = pmul2 hs x (ct 1 false flk (vmk v 1)) (v 1) (lse v 1) := eq
    obtain ⟨k32, f1, f3, b84, b85, b86, fls, FLf⟩ := id sm
    try dsimp only [jrI, jrN, jrA, jisr, jnul, jcat1]
    refine jif_n (nI_pos (by omega)) ?_
    simp (decide := true) only [jgf_ob (c := 12), jrc_ob (c := 12), gM g, gN g, jaI_ar (p := 111) (n := 1260), e6, iv0, ic0, true_and]
    change jex X (d + 3 + 2) 120 _ _ _
    refine c_cutOf (n := vmk v 1) (e := 0) (m := (v 0).toNat) g sm (nI_toInt (by omega)) rfl (by rw [p0]; omega) (by omega) (by omega) (by omega) (by omega) (fun y hy => ?_)
    have yb : -5000 ≤ y.toInt ∧ y.toInt ≤ 5000 := by
      have c1 := ct_rg (t := false) FLf (by decide) (show vmk v 1 ≤ 900 * 1 by omega)
      have c2 := tp_rg (t := false) (f := 1) (by decide) (show vmk v 1 ≤ 900 * 1 by omega)
      omega
    try dsimp only [jrI, jrN, jrA, jisr, jnul, jcat1]
    obtain ⟨m1, m2, m3, m4, m5, m6, m7⟩ := id mx
    rw [jgI_ob (c := 12) (by simp only [gM g]) rfl]
    have esum : (y + fI h 81 14).toInt = ct 1 false flk (vmk v 1) + zs x := (by simp only [Int32.toInt_add, Int32.toInt_sub, Int32.toInt_mul, Int32.toInt_neg, Int.bmod_def, tl, t4]; omega)
    -- behind the slide's second move
    have FIN : ∀ (h2 : JH) (y2 : S7), fr [] mF h h2 → MX h2 y2 → -4096 ≤ zs y2 → zs y2 ≤ 4096 → 0 ≤ zu y2 → zu y2 ≤ 100000000 → 0 ≤ zhm y2 → zhm y2 ≤ 100000000 → -10000003 ≤ zpl y2 → zpl y2 ≤ 10000003 → q = pset hs (addp y2 (v 1)) (ct 1 false flk (vmk v 1)) false (lse v 1) → jgI h2 (.ref 81) 12 57 (fun x40 => (jgf h2 (.ref 81) 12 47 fun v41 => (jaI X h2 v41 (nI (6 * p) + 1) fun x42 => (jpf h2 (.ref 81) 12 57 (.int (x40 + x42)) fun h43 => (jrc h43 (.ref 81) 12 (jex X (d + 5) 204 [.ref 81, .int (nI k), .int (nI p)] h43 fun r45 h44 => (jrI r45 fun x46 => ((x46 : Int32) &&& 1 = x46 ∧ (Q (some (.int x46)) h44))))))))) := by
      intro h2 y2 k2 mx2 b1 b2 b3 b4 b5 b6 b7 b8 eq2
      have g2 := G_fr g rfl k2
      obtain ⟨w1, w2, w3, w4, w5, w6, w7⟩ := id mx2
      have e111 : aF h2 111 = aF h 111 := frF k2 (by decide)
      simp (decide := true) only [jgf_ob (c := 12), jgI_ob (c := 12), jpI_ob (c := 12), jrc_ob (c := 12), gM g2, gN g2, jaI_ar (p := 111) (n := 1260), nI_1, iv1, ic1, true_and, e111, obj_sV]
      have e57 : (fI h2 81 57 + aF h 111 (6 * p + 1)).toInt = zpl y2 + v 1 := (by simp only [Int32.toInt_add, Int32.toInt_sub, Int32.toInt_mul, Int32.toInt_neg, Int.bmod_def, tl, t4]; omega)
      generalize fI h2 81 57 + aF h 111 (6 * p + 1) = w57 at *
      have k3 : fr [] mF h (sV h2 81 57 (.int w57)) := fr_sV (by decide) k2
      have mx3 : MX (sV h2 81 57 (.int w57)) (addp y2 (v 1)) := by
        unfold MX
        simp (decide := true) only [jgI_ob, jgf_ob, jgL_ob, jpI_ob, jpL_ob, jpR_ob, jpN_ob, jrc_ob, obj_sV, obj_wF, obj_wG, obj_wR, arr_sV, arr_wF, arr_wG, arr_wR, arL_sV, arL_wF, arL_wG, arL_wR, arR_sV, arR_wF, arR_wG, arR_wR, fI_sV (c := 0), fI_sV (c := 1), fI_sV (c := 2), fI_sV (c := 4), fI_sV (c := 5), fI_sV (c := 7), fI_sV (c := 8), fI_sV (c := 9), fI_sV (c := 10), fI_sV (c := 11), fI_sV (c := 12), fI_sV (c := 6), fL_sV (c := 9), fL_sV (c := 12), fI_sV_k, fL_sV_k, fV_sV_k, fI_wF, fI_wG, fI_wR, fL_wF, fL_wG, fL_wR, fV_wF, fV_wG, fV_wR, aF_sV, aG_sV, aR_sV, aF_wG, aF_wR, aG_wF, aG_wR, aR_wF, aR_wG, gM g2]
        exact ⟨w1, w2, w3, w4, w5, w6, e57⟩
      have f10 : (fI (sV h2 81 57 (.int w57)) 81 10).toInt = hs := by rw [frI k3 (by decide) (by decide)]; exact e10
      have pv3 := PW_fr pv k3 (by decide)
      have sm3 : SM (sV h2 81 57 (.int w57)) k false 1 false flk := by
        unfold SM at sm ⊢
        rw [frF k3 (by decide), frF k3 (by decide), frF k3 (by decide), frF k3 (by decide)]
        exact sm
      generalize sV h2 81 57 (.int w57) = h3 at *
      have g3 := G_fr g rfl k3
      refine c_hairBy g3 sm3 mx3 b1 b2 b3 b4 b5 b6 f10 h0 h20 pv3 gv hp (fun e0 h4 k4 mx4 => ?_) (fun e0 h4 k4 e52 => ?_)
      · rw [← eq2] at e0 mx4
        try dsimp only [jrI, jrN, jrA, jisr, jnul, jcat1]
        exact ⟨by decide, H1 e0 h4 (fr_trans k3 k4) mx4⟩
      · rw [← eq2] at e0 e52
        try dsimp only [jrI, jrN, jrA, jisr, jnul, jcat1]
        exact ⟨by decide, H0 e0 h4 (fr_trans k3 k4) e52⟩
    have MOV : ∀ (dp : Int32) (z : Int) (st : Int32), dp.toInt = z → -1 ≤ z → z ≤ 1 → ∀ (a0 : Int), st.toInt = a0 → -10000 ≤ a0 → a0 ≤ 10000 → q = thn (pslide (addp x z) a0 (zu x + hs)) (fun y2 => pset hs (addp y2 (v 1)) (ct 1 false flk (vmk v 1)) false (lse v 1)) → ∀ (h2 : JH), h2 = sV h 81 57 (.int (fI h 81 57 + dp)) → jex X (d + 5) 212 [.ref 81, .int st, .int (fI h 81 16 + fI h 81 10)] h2 (fun r38 h37 => (jrI r38 fun x39 => (jifp (x39 = 0) (Q (some (.int 0)) h37) (jgI h37 (.ref 81) 12 57 fun x40 => (jgf h37 (.ref 81) 12 47 fun v41 => (jaI X h37 v41 (nI (6 * p) + 1) fun x42 => (jpf h37 (.ref 81) 12 57 (.int (x40 + x42)) fun h43 => (jrc h43 (.ref 81) 12 (jex X (d + 5) 204 [.ref 81, .int (nI k), .int (nI p)] h43 fun r45 h44 => (jrI r45 fun x46 => ((x46 : Int32) &&& 1 = x46 ∧ (Q (some (.int x46)) h44)))))))))))) := by
      intro dp z st ez z0 z1 a0 ea a00 a01 eqq h2 e2
      have e57 : (fI h 81 57 + dp).toInt = zpl x + z := (by simp only [Int32.toInt_add, Int32.toInt_sub, Int32.toInt_mul, Int32.toInt_neg, Int.bmod_def, tl, t4]; omega)
      have k2 : fr [] mF h h2 := by rw [e2]; exact fr_sV (by decide) fr_rfl
      have mx2 : MX h2 (addp x z) := by
        rw [e2]
        unfold MX
        simp (decide := true) only [jgI_ob, jgf_ob, jgL_ob, jpI_ob, jpL_ob, jpR_ob, jpN_ob, jrc_ob, obj_sV, obj_wF, obj_wG, obj_wR, arr_sV, arr_wF, arr_wG, arr_wR, arL_sV, arL_wF, arL_wG, arL_wR, arR_sV, arR_wF, arR_wG, arR_wR, fI_sV (c := 0), fI_sV (c := 1), fI_sV (c := 2), fI_sV (c := 4), fI_sV (c := 5), fI_sV (c := 7), fI_sV (c := 8), fI_sV (c := 9), fI_sV (c := 10), fI_sV (c := 11), fI_sV (c := 12), fI_sV (c := 6), fL_sV (c := 9), fL_sV (c := 12), fI_sV_k, fL_sV_k, fV_sV_k, fI_wF, fI_wG, fI_wR, fL_wF, fL_wG, fL_wR, fV_wF, fV_wG, fV_wR, aF_sV, aG_sV, aR_sV, aF_wG, aF_wR, aG_wF, aG_wR, aR_wF, aR_wG, gM g]
        exact ⟨m1, m2, m3, m4, m5, m6, e57⟩
      clear e2
      have g2 := G_fr g rfl k2
      have ed : (fI h 81 16 + fI h 81 10).toInt = zu x + hs := (by simp only [Int32.toInt_add, Int32.toInt_sub, Int32.toInt_mul, Int32.toInt_neg, Int.bmod_def, tl, t4]; omega)
      change jex X (d + 2 + 3) 212 _ _ _
      refine c_mslide g2 mx2 (show 0 ≤ zsl x from l0) (show zsl x ≤ 100000000 by omega) (fun rr h3 k3 mr => ?_)
      rw [ea, ed] at mr
      obtain ⟨mx3, mr⟩ := mr
      try dsimp only [jrI, jrN, jrA, jisr, jnul, jcat1]
      rcases mr with ⟨q1', q2', _⟩ | ⟨q1', q2', q3'⟩
      · subst q2'
        refine jif_n (by decide) ?_
        have bb := pslide_b q1'
        rw [show thn (pslide (addp x z) a0 (zu x + hs)) (fun y2 => pset hs (addp y2 (v 1)) (ct 1 false flk (vmk v 1)) false (lse v 1)) = pset hs (addp (pslide (addp x z) a0 (zu x + hs)).2 (v 1)) (ct 1 false flk (vmk v 1)) false (lse v 1) from if_pos q1'] at eqq
        have pp : zhm (pslide (addp x z) a0 (zu x + hs)).2 = zhm x ∧ zpl (pslide (addp x z) a0 (zu x + hs)).2 = zpl x + z := by
          unfold pslide
          split
          · exact ⟨rfl, rfl⟩
          · exact ⟨rfl, rfl⟩
        refine FIN h3 _ (fr_trans k2 k3) mx3 (by omega) (by omega) (by omega) (by omega) (by omega) (by omega) (by omega) (by omega) eqq
      · subst q2'
        rw [show thn (pslide (addp x z) a0 (zu x + hs)) (fun y2 => pset hs (addp y2 (v 1)) (ct 1 false flk (vmk v 1)) false (lse v 1)) = pslide (addp x z) a0 (zu x + hs) from if_neg q1'] at eqq
        rw [← eqq] at q1' q3'
        exact jif_t rfl (H0 q1' h3 (fr_trans k2 k3) q3')
    have t4096 : (4096 : Int32).toInt = 4096 := rfl
    have z0' : (0 : Int32).toInt = 0 := rfl
    unfold pmul2 at eq
    refine ⟨fun c1 => ?_, fun c1 => ⟨fun c2 => ?_, fun c2 => ?_⟩⟩
    · rw [ti_lt, esum, t4096] at c1
      rw [if_pos c1] at eq
      simp (decide := true) only [jgI_ob (c := 12), jpI_ob (c := 12), jrc_ob (c := 12), gM g, obj_sV, fI_sV_k, true_and]
      exact MOV 1 1 (fI h 81 14 - 4096) rfl (by omega) (by omega) (zs x - 4096) (by simp only [Int32.toInt_add, Int32.toInt_sub, Int32.toInt_mul, Int32.toInt_neg, Int.bmod_def, tl, t4]; omega) (by omega) (by omega) eq _ rfl
    · rw [ti_lt, esum, t4096] at c1
      rw [ti_lt, esum, z0'] at c2
      rw [if_neg c1, if_pos c2] at eq
      simp (decide := true) only [jgI_ob (c := 12), jpI_ob (c := 12), jrc_ob (c := 12), gM g, obj_sV, fI_sV_k, true_and]
      have em : fI h 81 57 - 1 = fI h 81 57 + (-1) := Int32.sub_eq_add_neg _ _
      rw [em]
      exact MOV (-1) (-1) (fI h 81 14 + 4096) rfl (by omega) (by omega) (zs x + 4096) (by simp only [Int32.toInt_add, Int32.toInt_sub, Int32.toInt_mul, Int32.toInt_neg, Int.bmod_def, tl, t4]; omega) (by omega) (by omega) eq _ rfl
    · rw [ti_lt, esum, t4096] at c1
      rw [ti_lt, esum, z0'] at c2
      rw [if_neg c1, if_neg c2] at eq
      have eq : q = pset hs (addp x (v 1)) (ct 1 false flk (vmk v 1)) false (lse v 1) := eq
      exact FIN h x fr_rfl mx s0 s1 u0 (by omega) n0 (by omega) (by omega) (by omega) eq
  · rw [es] at eq
    have eq : q = (2, x) := eq
    rw [eq] at H0
    try dsimp only [jrI, jrN, jrA, jisr, jnul, jcat1]
    refine jif_t (by decide) ?_
    rw [jrc_ob (by simp only [gM g])]
    change jex X (d + 4 + 1) 199 _ _ _
    refine c_breaks g ?_
    try dsimp only [jrI, jrN, jrA, jisr, jnul, jcat1]
    refine ⟨by decide, H0 (show ¬ (2 : Int) = 0 by decide) _ (fr_sV (by decide) fr_rfl) ?_⟩
    simp (decide := true) only [jgI_ob, jgf_ob, jgL_ob, jpI_ob, jpL_ob, jpR_ob, jpN_ob, jrc_ob, obj_sV, obj_wF, obj_wG, obj_wR, arr_sV, arr_wF, arr_wG, arr_wR, arL_sV, arL_wF, arL_wG, arL_wR, arR_sV, arR_wF, arR_wG, arR_wR, fI_sV (c := 0), fI_sV (c := 1), fI_sV (c := 2), fI_sV (c := 4), fI_sV (c := 5), fI_sV (c := 7), fI_sV (c := 8), fI_sV (c := 9), fI_sV (c := 10), fI_sV (c := 11), fI_sV (c := 12), fI_sV (c := 6), fL_sV (c := 9), fL_sV (c := 12), fI_sV_k, fL_sV_k, fV_sV_k, fI_wF, fI_wG, fI_wR, fL_wF, fL_wG, fL_wR, fV_wF, fV_wG, fV_wR, aF_sV, aG_sV, aR_sV, aF_wG, aF_wR, aG_wF, aG_wR, aR_wF, aR_wG, gM g]
end MFD
