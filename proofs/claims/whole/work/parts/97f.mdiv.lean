/-! A RUN: the model's two ways to reckon, whole -/
section MDV
variable {X : JX} {d : Nat} {Q : JQ} {h : JH} {n : Nat} {m ρ τ f : Nat → Nat} {b t : Nat → Bool} {fl : Nat → Nat → Int} {r : Nat} {p : Nat} {x : S7} {hs : Int} {v : V6}
theorem c_timesBy (g : G h) (rb : RB h n m ρ τ b f t fl) (hr : r < n) (e13 : fI h 81 13 = nI r) (mx : MX h x) (be : BE x) (e10 : (fI h 81 10).toInt = hs) (h0 : 0 ≤ hs) (h20 : hs ≤ 20) (pv : PW h p v) (gv : GV v) (hp : p < 210) {behind : Bool} {q : Int × S7} (eq : q = pmC hs (slf r (m r) b f t fl false 1 false) v behind x) (H1 : q.1 = 0 → ∀ h1, fr [] mF h h1 → MX h1 q.2 → Q (some (.int 1)) h1) (H0 : q.1 ≠ 0 → ∀ h1, fr [] mF h h1 → (fI h1 81 52).toInt = q.1 → Q (some (.int 0)) h1) : jex X (d + 6) 213 [.ref 81, .int (nI p), .int (bi behind)] h Q := by
  obtain ⟨m1, m2, m3, m4, m5, m6, m7⟩ := id mx
  obtain ⟨b1, b2, b3, b4, b5, b6, b7, b8, b9, b10, b11, b12, b13, b14⟩ := be
  rw [jE_X12_timesBy]
  refine jT_X12_timesBy_0 ?_
  unfold pmC at eq
  cases behind with
  | false =>
    refine jif_t (by decide) ?_
    simp (decide := true) only [jgI_ob (c := 12), jrc_ob (c := 12), gM g, true_and]
    have ed : (fI h 81 17 + fI h 81 10).toInt = zv x + hs := (by simp only [Int32.toInt_add, Int32.toInt_sub, Int32.toInt_mul, Int32.toInt_neg, Int.bmod_def, tl, t4]; omega)
    change jex X (d + 2 + 3) 212 _ _ _
    refine c_mslide g mx b9 (by omega) (fun rr h3 k3 mr => ?_)
    rw [m2, ed] at mr
    obtain ⟨mx3, mr⟩ := mr
    try dsimp only [jrI, jrN, jrA, jisr, jnul, jcat1]
    have e1 : pmul1 hs x false = pslide x (zh x) (zv x + hs) := rfl
    rw [e1] at eq
    rcases mr with ⟨q1', q2', _⟩ | ⟨q1', q2', q3'⟩
    · subst q2'
      refine jif_n (by decide) ?_
      have bb := pslide_b q1'
      have eq := eq.trans (if_pos q1')
      exact l_times50 (G_fr g rfl k3) (RB_fr rb k3 (by decide)) hr (by rw [frI k3 (by decide) (by decide)]; exact e13) mx3 (by omega) (by omega) (by omega) (by omega) (by omega) (by omega) (by omega) (by omega) (by omega) (by omega) (by rw [frI k3 (by decide) (by decide)]; exact e10) h0 h20 (PW_fr pv k3 (by decide)) gv hp eq (fun e h1 k1 => H1 e h1 (fr_trans k3 k1)) (fun e h1 k1 => H0 e h1 (fr_trans k3 k1))
    · subst q2'
      have eq := eq.trans (if_neg q1')
      rw [← eq] at q1' q3'
      exact jif_t rfl (H0 q1' h3 k3 q3')
  | true =>
    refine jif_n (by decide) ?_
    have e1 : pmul1 hs x true = (0, if zs x < 0 then addp x 1 else x) := rfl
    rw [e1] at eq
    have eq := eq.trans (if_pos rfl)
    have z0 : (0 : Int32).toInt = 0 := rfl
    have GO : ∀ (w : Int32) (z : Int), w.toInt = z → 0 ≤ z → z ≤ 1 → (if zs x < 0 then addp x 1 else x) = addp x z → jB_X12_timesBy_50 X (d + 5) Q 81 (nI p) (some (.int (bi true))) none none (sV h 81 57 (.int (fI h 81 57 + w))) 0 0 := by
      intro w z ew w0 w1 ez
      rw [ez] at eq
      have e57 : (fI h 81 57 + w).toInt = zpl x + z := (by simp only [Int32.toInt_add, Int32.toInt_sub, Int32.toInt_mul, Int32.toInt_neg, Int.bmod_def, tl, t4]; omega)
      have k2 : fr [] mF h (sV h 81 57 (.int (fI h 81 57 + w))) := fr_sV (by decide) fr_rfl
      have mx2 : MX (sV h 81 57 (.int (fI h 81 57 + w))) (addp x z) := by
        unfold MX
        simp (decide := true) only [jgI_ob, jgf_ob, jgL_ob, jpI_ob, jpL_ob, jpR_ob, jpN_ob, jrc_ob, obj_sV, obj_wF, obj_wG, obj_wR, arr_sV, arr_wF, arr_wG, arr_wR, arL_sV, arL_wF, arL_wG, arL_wR, arR_sV, arR_wF, arR_wG, arR_wR, fI_sV (c := 0), fI_sV (c := 1), fI_sV (c := 2), fI_sV (c := 4), fI_sV (c := 5), fI_sV (c := 7), fI_sV (c := 8), fI_sV (c := 9), fI_sV (c := 10), fI_sV (c := 11), fI_sV (c := 12), fI_sV (c := 6), fL_sV (c := 9), fL_sV (c := 12), fI_sV_k, fL_sV_k, fV_sV_k, fI_wF, fI_wG, fI_wR, fL_wF, fL_wG, fL_wR, fV_wF, fV_wG, fV_wR, aF_sV, aG_sV, aR_sV, aF_wG, aF_wR, aG_wF, aG_wR, aR_wF, aR_wG, gM g]
        exact ⟨m1, m2, m3, m4, m5, m6, e57⟩
      generalize sV h 81 57 (.int (fI h 81 57 + w)) = h3 at *
      have a1 : zs (addp x z) = zs x := rfl
      have a2 : zu (addp x z) = zu x := rfl
      have a3 : zsl (addp x z) = zsl x := rfl
      have a4 : zhm (addp x z) = zhm x := rfl
      have a5 : zpl (addp x z) = zpl x + z := rfl
      exact l_times50 (G_fr g rfl k2) (RB_fr rb k2 (by decide)) hr (by rw [frI k2 (by decide) (by decide)]; exact e13) mx2 (by omega) (by omega) (by omega) (by omega) (by omega) (by omega) (by omega) (by omega) (by omega) (by omega) (by rw [frI k2 (by decide) (by decide)]; exact e10) h0 h20 (PW_fr pv k2 (by decide)) gv hp eq (fun e h1 k1 => H1 e h1 (fr_trans k2 k1)) (fun e h1 k1 => H0 e h1 (fr_trans k2 k1))
    simp (decide := true) only [jgI_ob (c := 12), jpI_ob (c := 12), gM g, true_and]
    refine ⟨fun c => ?_, fun c => ?_⟩
    · rw [ti_lt, m1, z0] at c
      exact GO 1 1 rfl (by omega) (by omega) (if_pos c)
    · rw [ti_lt, m1, z0] at c
      exact GO 0 0 rfl (by omega) (by omega) (by rw [if_neg c]; unfold addp; rw [Int.add_zero]; rfl)
/-- the model divides: behind the slide -/
theorem l_over103 (g : G h) (mx : MX h x) (u0 : 0 ≤ zu x) (u1 : zu x ≤ 30000000) (n0 : 0 ≤ zhm x) (n1 : zhm x ≤ 10000000) (q0 : -10000001 ≤ zpl x) (q1 : zpl x ≤ 10000001) (e10 : (fI h 81 10).toInt = hs) (h0 : 0 ≤ hs) (h20 : hs ≤ 20) (pv : PW h p v) (gv : GV v) (hp : p < 210) {y s0 : Int32} {z w : Int} (ey : y.toInt = z) (z0 : 0 ≤ z) (z1 : z ≤ 4096) (es : s0.toInt = w) (w0 : 0 ≤ w) (w1 : w ≤ 1) {q : Int × S7} (eq : q = phair hs (addp x (-(v 1) - w)) z (zu x)) (H1 : q.1 = 0 → ∀ h1, fr [] mF h h1 → MX h1 q.2 → Q (some (.int 1)) h1) (H0 : q.1 ≠ 0 → ∀ h1, fr [] mF h h1 → (fI h1 81 52).toInt = q.1 → Q (some (.int 0)) h1) {o2 : Option Value} {c s : Nat} : jB_X12_overBy_103 X (d + 4) Q 81 (nI p) o2 y s0 (fI h 81 57) (.ref 81) h c s := by
  obtain ⟨m1, m2, m3, m4, m5, m6, m7⟩ := id mx
  have a := gv.1 0 (by decide)
  simp only [Nat.mul_zero, Nat.zero_add] at a
  have e6 : 6 * nI p = nI (6 * p) := pk_mul 6 p
  have p1 : (aF h 111 (6 * p + 1)).toInt = v 1 := pv 1 (by decide)
  have iv1 : vp_in (nI (6 * p + 1)) 1260 := by rw [vp_inI, nI_toInt (by omega)]; omega
  have ic1 : (nI (6 * p + 1)).toNatClampNeg = 6 * p + 1 := nI_clamp (by omega)
  have t0 : (0 : Int32).toInt = 0 := rfl
  have t1 : (4096 : Int32).toInt = 4096 := rfl
  refine jT_X12_overBy_103 ?_
  rw [jpI_ob (c := 12) (by simp only [gM g]) rfl]
  refine jif_n (by rw [ti_lt, ey, t0]; omega) (jif_n (by rw [ti_lt, ey, t1]; omega) ?_)
  have ep : phair hs (addp x (-(v 1) - w)) z (zu x) = (jd (s7 (zs x) z (zu x) (hs + zu x) (zsl x) (zhm x + 1) (zpl x + (-(v 1) - w))), s7 (zs x) z (zu x) (hs + zu x) (zsl x) (zhm x + 1) (zpl x + (-(v 1) - w))) := by
    unfold phair
    rw [if_neg (by omega)]
    rfl
  rw [ep] at eq
  rw [eq] at H0 H1
  have e57 : (fI h 81 57 - s0 - aF h 111 (6 * p + 1)).toInt = zpl x + (-(v 1) - w) := (by simp only [Int32.toInt_add, Int32.toInt_sub, Int32.toInt_mul, Int32.toInt_neg, Int.bmod_def, tl, t4]; omega)
  have e17 : (fI h 81 16 + fI h 81 10).toInt = hs + zu x := (by simp only [Int32.toInt_add, Int32.toInt_sub, Int32.toInt_mul, Int32.toInt_neg, Int.bmod_def, tl, t4]; omega)
  have e50 : (fI h 81 50 + 1).toInt = zhm x + 1 := (by simp only [Int32.toInt_add, Int32.toInt_sub, Int32.toInt_mul, Int32.toInt_neg, Int.bmod_def, tl, t4]; omega)
  simp (decide := true) only [jgf_ob (c := 12), jgI_ob (c := 12), jpI_ob (c := 12), jrc_ob (c := 12), obj_sV, arr_sV, gM g, gN g, fI_sV_k, fI_sV (c := 12), fV_sV_k, aF_sV, jaI_ar (p := 111) (n := 1260), e6, nI_1, iv1, ic1, true_and]
  refine (fun S : (∀ hh, hh = _ → jex X (d + 4) 208 [.ref 81] hh _) => S _ rfl) (fun hh ee => ?_)
  have k1 : fr [] mF h hh := by rw [ee]; exact fr_sV (by decide) (fr_sV (by decide) (fr_sV (by decide) (fr_sV (by decide) (fr_sV (by decide) fr_rfl))))
  have mx2 : MX hh (s7 (zs x) z (zu x) (hs + zu x) (zsl x) (zhm x + 1) (zpl x + (-(v 1) - w))) := by
    rw [ee]
    unfold MX
    simp (decide := true) only [jgI_ob, jgf_ob, jgL_ob, jpI_ob, jpL_ob, jpR_ob, jpN_ob, jrc_ob, obj_sV, obj_wF, obj_wG, obj_wR, arr_sV, arr_wF, arr_wG, arr_wR, arL_sV, arL_wF, arL_wG, arL_wR, arR_sV, arR_wF, arR_wG, arR_wR, fI_sV (c := 0), fI_sV (c := 1), fI_sV (c := 2), fI_sV (c := 4), fI_sV (c := 5), fI_sV (c := 7), fI_sV (c := 8), fI_sV (c := 9), fI_sV (c := 10), fI_sV (c := 11), fI_sV (c := 12), fI_sV (c := 6), fL_sV (c := 9), fL_sV (c := 12), fI_sV_k, fL_sV_k, fV_sV_k, fI_wF, fI_wG, fI_wR, fL_wF, fL_wG, fL_wR, fV_wF, fV_wG, fV_wR, aF_sV, aG_sV, aR_sV, aF_wG, aF_wR, aG_wF, aG_wR, aR_wF, aR_wG, gM g]
    exact ⟨m1, ey, m3, e17, m5, e50, e57⟩
  clear ee
  have g1 := G_fr g rfl k1
  change jex X (d + 2 + 2) 208 _ _ _
  refine c_held g1 mx2 (fun c => ?_) (fun c => ?_)
  · try dsimp only [jrI, jrN, jrA, jisr, jnul, jcat1]
    refine ⟨by decide, H0 (by rw [c]; show ¬ (4 : Int) = 0; decide) _ (fr_sV (by decide) k1) ?_⟩
    rw [c]
    simp (decide := true) only [jgI_ob, jgf_ob, jgL_ob, jpI_ob, jpL_ob, jpR_ob, jpN_ob, jrc_ob, obj_sV, obj_wF, obj_wG, obj_wR, arr_sV, arr_wF, arr_wG, arr_wR, arL_sV, arL_wF, arL_wG, arL_wR, arR_sV, arR_wF, arR_wG, arR_wR, fI_sV (c := 0), fI_sV (c := 1), fI_sV (c := 2), fI_sV (c := 4), fI_sV (c := 5), fI_sV (c := 7), fI_sV (c := 8), fI_sV (c := 9), fI_sV (c := 10), fI_sV (c := 11), fI_sV (c := 12), fI_sV (c := 6), fL_sV (c := 9), fL_sV (c := 12), fI_sV_k, fL_sV_k, fV_sV_k, fI_wF, fI_wG, fI_wR, fL_wF, fL_wG, fL_wR, fV_wF, fV_wG, fV_wR, aF_sV, aG_sV, aR_sV, aF_wG, aF_wR, aG_wF, aG_wR, aR_wF, aR_wG, gM g1]
  · try dsimp only [jrI, jrN, jrA, jisr, jnul, jcat1]
    exact ⟨by decide, H1 c _ k1 mx2⟩
theorem c_overBy (g : G h) (rb : RB h n m ρ τ b f t fl) (hr : r < n) (e13 : fI h 81 13 = nI r) (mx : MX h x) (be : BE x) (e10 : (fI h 81 10).toInt = hs) (h0 : 0 ≤ hs) (h20 : hs ≤ 20) (pv : PW h p v) (gv : GV v) (hp : p < 210) {q : Int × S7} (eq : q = pdC hs (slf r (m r) b f t fl false 1 false) v x) (H1 : q.1 = 0 → ∀ h1, fr [] mF h h1 → MX h1 q.2 → Q (some (.int 1)) h1) (H0 : q.1 ≠ 0 → ∀ h1, fr [] mF h h1 → (fI h1 81 52).toInt = q.1 → Q (some (.int 0)) h1) : jex X (d + 5) 211 [.ref 81, .int (nI p)] h Q := by
  obtain ⟨m1, m2, m3, m4, m5, m6, m7⟩ := id mx
  obtain ⟨b1, b2, b3, b4, b5, b6, b7, b8, b9, b10, b11, b12, b13, b14⟩ := be
  have a := gv.1 0 (by decide)
  simp only [Nat.mul_zero, Nat.zero_add] at a
  have vm := vmk1 gv
  have lb := lse_b gv (F := 1) (by decide) (by decide)
  have e6 : 6 * nI p = nI (6 * p) := pk_mul 6 p
  have p0 : (aF h 111 (6 * p)).toInt = v 0 := pv 0 (by decide)
  have iv0 : vp_in (nI (6 * p)) 1260 := by rw [vp_inI, nI_toInt (by omega)]; omega
  have ic0 : (nI (6 * p)).toNatClampNeg = 6 * p := nI_clamp (by omega)
  rw [jE_X12_overBy]
  refine jT_X12_overBy_0 ?_
  rw [jrc_ob (by simp only [gM g])]
  unfold pdC at eq
  change jex X (d + 3 + 1) 203 [.ref 81, .int (bi false), .int (nI 1), .int (bi false)] h _
  refine c_find g rb hr e13 (by decide) (fun k flk sm es => ?_) (fun es => ?_)
  · rw [es] at eq
    have eq : q = pdiv hs x (ct 1 false flk (vmk v 1)) (v 1) (lse v 1) := eq
    obtain ⟨k32, f1, f3, b84, b85, b86, fls, FLf⟩ := id sm
    try dsimp only [jrI, jrN, jrA, jisr, jnul, jcat1]
    refine jif_n (nI_pos (by omega)) ?_
    simp (decide := true) only [jgf_ob (c := 12), jgI_ob (c := 12), jrc_ob (c := 12), gM g, gN g, jaI_ar (p := 111) (n := 1260), e6, iv0, ic0, true_and]
    change jex X (d + 2 + 2) 120 _ _ _
    refine c_cutOf (n := vmk v 1) (e := 0) (m := (v 0).toNat) g sm (nI_toInt (by omega)) rfl (by rw [p0]; omega) (by omega) (by omega) (by omega) (by omega) (fun y hy => ?_)
    have yb : -5000 ≤ y.toInt ∧ y.toInt ≤ 5000 := by
      have c1 := ct_rg (t := false) FLf (by decide) (show vmk v 1 ≤ 900 * 1 by omega)
      have c2 := tp_rg (t := false) (f := 1) (by decide) (show vmk v 1 ≤ 900 * 1 by omega)
      omega
    try dsimp only [jrI, jrN, jrA, jisr, jnul, jcat1]
    simp (decide := true) only [jgI_ob (c := 12), jrc_ob (c := 12), gM g, true_and]
    change jex X (d + 1 + 3) 205 [.ref 81, .int (nI p), .int (nI 1)] _ _
    refine c_loose g pv gv hp (by decide) (by decide) (fun lo hlo => ?_)
    try dsimp only [jrI, jrN, jrA, jisr, jnul, jcat1]
    rw [jrc_ob (by simp only [gM g])]
    have ea : (fI h 81 15 - y).toInt = zh x - ct 1 false flk (vmk v 1) := (by simp only [Int32.toInt_add, Int32.toInt_sub, Int32.toInt_mul, Int32.toInt_neg, Int.bmod_def, tl, t4]; omega)
    have ed : (fI h 81 17 + fI h 81 10 + lo).toInt = zv x + hs + lse v 1 := (by simp only [Int32.toInt_add, Int32.toInt_sub, Int32.toInt_mul, Int32.toInt_neg, Int.bmod_def, tl, t4]; omega)
    change jex X (d + 1 + 3) 212 _ _ _
    refine c_mslide g mx b9 (by omega) (fun rr h3 k3 mr => ?_)
    rw [ea, ed] at mr
    obtain ⟨mx3, mr⟩ := mr
    try dsimp only [jrI, jrN, jrA, jisr, jnul, jcat1]
    unfold pdiv at eq
    rcases mr with ⟨q1', q2', _⟩ | ⟨q1', q2', q3'⟩
    · subst q2'
      refine jif_n (by decide) ?_
      have bb := pslide_b q1'
      have eq := eq.trans (if_pos q1')
      generalize (pslide x (zh x - ct 1 false flk (vmk v 1)) (zv x + hs + lse v 1)).2 = y3 at *
      have g3 := G_fr g rfl k3
      obtain ⟨w1, w2, w3, w4, w5, w6, w7⟩ := id mx3
      have z0 : (0 : Int32).toInt = 0 := rfl
      have f10 : (fI h3 81 10).toInt = hs := by rw [frI k3 (by decide) (by decide)]; exact e10
      have pv3 := PW_fr pv k3 (by decide)
      simp (decide := true) only [jgI_ob (c := 12), gM g3, true_and]
      refine ⟨fun c => jif_t c ?_, fun c => jif_n c ?_⟩
      · have c' := c
        rw [ti_lt, w1, z0] at c'
        have es : (fI h3 81 14 + 4096).toInt = zs y3 + 4096 := (by simp only [Int32.toInt_add, Int32.toInt_sub, Int32.toInt_mul, Int32.toInt_neg, Int.bmod_def, tl, t4]; omega)
        refine l_over103 g3 mx3 (by omega) (by omega) (by omega) (by omega) (by omega) (by omega) f10 h0 h20 pv3 gv hp es (by omega) (by omega) (w := 1) rfl (by decide) (by decide) (eq.trans (if_pos c')) (fun e h1 k1 => H1 e h1 (fr_trans k3 k1)) (fun e h1 k1 => H0 e h1 (fr_trans k3 k1))
      · have c' := c
        rw [ti_lt, w1, z0] at c'
        refine l_over103 g3 mx3 (by omega) (by omega) (by omega) (by omega) (by omega) (by omega) f10 h0 h20 pv3 gv hp w1 (by omega) (by omega) (w := 0) rfl (by decide) (by decide) ((eq.trans (if_neg c')).trans (by rw [Int.sub_zero])) (fun e h1 k1 => H1 e h1 (fr_trans k3 k1)) (fun e h1 k1 => H0 e h1 (fr_trans k3 k1))
    · subst q2'
      have eq := eq.trans (if_neg q1')
      rw [← eq] at q1' q3'
      exact jif_t rfl (H0 q1' h3 k3 q3')
  · rw [es] at eq
    have eq : q = (2, x) := eq
    rw [eq] at H0
    try dsimp only [jrI, jrN, jrA, jisr, jnul, jcat1]
    refine jif_t (by decide) ?_
    rw [jrc_ob (by simp only [gM g])]
    change jex X (d + 3 + 1) 199 _ _ _
    refine c_breaks g ?_
    try dsimp only [jrI, jrN, jrA, jisr, jnul, jcat1]
    refine ⟨by decide, H0 (show ¬ (2 : Int) = 0 by decide) _ (fr_sV (by decide) fr_rfl) ?_⟩
    simp (decide := true) only [jgI_ob, jgf_ob, jgL_ob, jpI_ob, jpL_ob, jpR_ob, jpN_ob, jrc_ob, obj_sV, obj_wF, obj_wG, obj_wR, arr_sV, arr_wF, arr_wG, arr_wR, arL_sV, arL_wF, arL_wG, arL_wR, arR_sV, arR_wF, arR_wG, arR_wR, fI_sV (c := 0), fI_sV (c := 1), fI_sV (c := 2), fI_sV (c := 4), fI_sV (c := 5), fI_sV (c := 7), fI_sV (c := 8), fI_sV (c := 9), fI_sV (c := 10), fI_sV (c := 11), fI_sV (c := 12), fI_sV (c := 6), fL_sV (c := 9), fL_sV (c := 12), fI_sV_k, fL_sV_k, fV_sV_k, fI_wF, fI_wG, fI_wR, fL_wF, fL_wG, fL_wR, fV_wF, fV_wG, fV_wR, aF_sV, aG_sV, aR_sV, aF_wG, aF_wR, aG_wF, aG_wR, aR_wF, aR_wG, gM g]
end MDV
