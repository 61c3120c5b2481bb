/-! A RUN: values; the model's hair and look -/
abbrev V6 : Type := Nat → Int
def rch (v : V6) (i : Nat) : Int := (lgU (v (2 * i) - 100).toNat : Nat) + 4096 * v (2 * i + 1)
def lsm (v : V6) : Int := max (rch v 0 - rch v 1) (rch v 2 - rch v 0)
def lse (v : V6) (F : Nat) : Int := if lsm v ≤ 0 then 0 else (lsm v + F - 1) / F
def GV (v : V6) : Prop := (∀ i, i < 3 → 100 ≤ v (2 * i) ∧ v (2 * i) ≤ 999 ∧ -99 ≤ v (2 * i + 1) ∧ v (2 * i + 1) ≤ 99) ∧ rch v 1 ≤ rch v 2
theorem lg_b {z : Int} (h0 : 100 ≤ z) (h1 : z ≤ 999) : ((lgU (z - 100).toNat : Nat) : Int) ≤ 4095 := by
  have := lgU_lt (z - 100).toNat
  have e : (z - 100).toNat / 900 = 0 := by omega
  rw [e] at this
  omega
theorem rch_b {v : V6} (g : GV v) {i : Nat} (hi : i < 3) : -405504 ≤ rch v i ∧ rch v i ≤ 409599 := by
  have a := g.1 i hi
  have b := lg_b a.1 a.2.1
  unfold rch
  omega
theorem lse_b {v : V6} (g : GV v) {F : Nat} (h1 : 1 ≤ F) (h3 : F ≤ 3) : 0 ≤ lse v F ∧ lse v F ≤ 1000000 := by
  have r0 := rch_b g (i := 0) (by decide)
  have r1 := rch_b g (i := 1) (by decide)
  have r2 := rch_b g (i := 2) (by decide)
  unfold lse lsm
  split
  · omega
  · rcases (show F = 1 ∨ F = 2 ∨ F = 3 by omega) with e | e | e <;> subst e <;> omega
/-- a value among the model's powers -/
def PW (h : JH) (p : Nat) (v : V6) : Prop := ∀ w, w < 6 → (aF h 111 (6 * p + w)).toInt = v w
/-- the mark that a value's number has on a scale of that fold -/
def vmk (v : V6) (F : Nat) : Nat := (900 * (v 1 % F) + v 0 - 100).toNat
section MPW
variable {X : JX} {d : Nat} {Q : JQ} {h : JH} {k p f : Nat} {b t : Bool} {fl : Nat → Int} {x : S7} {hs : Int} {v : V6}
theorem vmk_e (g : GV v) (h1 : 1 ≤ f) : (vmk v f : Int) + 100 = 900 * (v 1 % f) + v 0 ∧ 0 ≤ v 1 % (f : Int) ∧ v 1 % (f : Int) < f ∧ vmk v f ≤ 900 * f := by
  have a := g.1 0 (by decide)
  have m0 : 0 ≤ v 1 % (f : Int) := Int.emod_nonneg _ (by omega)
  have m1 : v 1 % (f : Int) < f := Int.emod_lt_of_pos _ (by omega)
  simp only [Nat.mul_zero, Nat.zero_add] at a
  unfold vmk
  omega
theorem PW_fr {A : List Nat} {F : List (Nat × Nat)} {h1 : JH} (x : PW h p v) (a : fr A F h h1) (k : 111 ∉ A) : PW h1 p v := by
  unfold PW
  rw [frF a k]
  exact x
theorem c_reach (g : G h) {a e : Int32} (a0 : 100 ≤ a.toInt) (a1 : a.toInt ≤ 999) (e0 : -99 ≤ e.toInt) (e1 : e.toInt ≤ 99) (H : ∀ y : Int32, y.toInt = (lgU (a.toInt - 100).toNat : Nat) + 4096 * e.toInt → Q (some (.int y)) h) : jex X (d + 1) 207 [.ref 81, .int a, .int e] h Q := by
  have mu := g.2.2.2.2.2.2.1
  have mv := muF_v (m := a.toInt.toNat) (by omega) (by omega)
  have lb := lg_b a0 a1
  rw [jE_X12_reach]
  refine jT_X12_reach_0 ?_
  rw [jgf_ob (c := 12) (by simp only [gM g]) rfl, show fV h 81 12 = .ref 88 by simp only [gN g], jaI_ar (n := 1001) (by simp only [gM g])]
  refine ⟨by rw [vp_inI]; omega, H _ ?_⟩
  rw [ti_clamp, mu]
  rw [show (a.toInt - 100).toNat = a.toInt.toNat - 100 by omega] at lb ⊢
  generalize muF a.toInt.toNat = y at *
  have f1 : (4096 * e).toInt = 4096 * e.toInt := (by simp only [Int32.toInt_add, Int32.toInt_sub, Int32.toInt_mul, Int32.toInt_neg, Int.bmod_def, tl, t4]; omega)
  generalize 4096 * e = z at f1
  have f2 : (y + z).toInt = y.toInt + z.toInt := (by simp only [Int32.toInt_add, Int32.toInt_sub, Int32.toInt_mul, Int32.toInt_neg, Int.bmod_def, tl, t4]; omega)
  omega
theorem c_reachAt (g : G h) (pv : PW h p v) (gv : GV v) (hp : p < 210) {i : Nat} (hi : i < 3) (H : ∀ y : Int32, y.toInt = rch v i → Q (some (.int y)) h) : jex X (d + 2) 206 [.ref 81, .int (nI p), .int (nI i)] h Q := by
  have e1 : 6 * nI p + 2 * nI i = nI (6 * p + 2 * i) := by
    rw [show 6 * nI p = nI (6 * p) from pk_mul 6 p, show 2 * nI i = nI (2 * i) from pk_mul 2 i, nI_add]
  have a := gv.1 i hi
  have p0 := pv (2 * i) (by omega)
  have p1 := pv (2 * i + 1) (by omega)
  rw [jE_X12_reachAt]
  refine jT_X12_reachAt_0 ?_
  rw [jgf_ob (c := 12) (by simp only [gM g]) rfl, show fV h 81 47 = .ref 111 by simp only [gN g], jaI_ar (n := 1260) (by simp only [gM g]), e1]
  refine ⟨by rw [vp_inI, nI_toInt (by omega)]; omega, ?_⟩
  rw [nI_clamp (by omega), jgf_ob (c := 12) (by simp only [gM g]) rfl, show fV h 81 47 = .ref 111 by simp only [gN g], jaI_ar (n := 1260) (by simp only [gM g]), nI_1]
  refine ⟨by rw [vp_inI, nI_toInt (by omega)]; omega, ?_⟩
  rw [nI_clamp (by omega), jrc_ob (by simp only [gM g])]
  rw [show 6 * p + 2 * i + 1 = 6 * p + (2 * i + 1) by omega]
  refine c_reach g (by rw [p0]; exact a.1) (by rw [p0]; exact a.2.1) (by rw [p1]; exact a.2.2.1) (by rw [p1]; exact a.2.2.2) (fun y hy => ?_)
  try dsimp only [jrI, jrN, jrA, jisr, jnul, jcat1]
  refine H y ?_
  rw [hy, p0, p1]
  rfl
theorem c_loose (g : G h) (pv : PW h p v) (gv : GV v) (hp : p < 210) (f1 : 1 ≤ f) (f3 : f ≤ 3) (H : ∀ y : Int32, y.toInt = lse v f → Q (some (.int y)) h) : jex X (d + 3) 205 [.ref 81, .int (nI p), .int (nI f)] h Q := by
  have r0 := rch_b gv (i := 0) (by decide)
  have r1 := rch_b gv (i := 1) (by decide)
  have r2 := rch_b gv (i := 2) (by decide)
  have ef : (nI f).toInt = (f : Int) := nI_toInt (by omega)
  rw [jE_X12_loose]
  refine jT_X12_loose_0 ?_
  rw [jrc_ob (by simp only [gM g])]
  refine c_reachAt (i := 0) g pv gv hp (by decide) (fun y0 h0 => ?_)
  try dsimp only [jrI, jrN, jrA, jisr, jnul, jcat1]
  rw [jrc_ob (by simp only [gM g])]
  refine c_reachAt (i := 1) g pv gv hp (by decide) (fun y1 h1 => ?_)
  try dsimp only [jrI, jrN, jrA, jisr, jnul, jcat1]
  rw [jrc_ob (by simp only [gM g])]
  refine c_reachAt (i := 2) g pv gv hp (by decide) (fun y2 h2 => ?_)
  try dsimp only [jrI, jrN, jrA, jisr, jnul, jcat1]
  rw [jrc_ob (by simp only [gM g])]
  refine c_reachAt (i := 0) g pv gv hp (by decide) (fun y3 h3 => ?_)
  try dsimp only [jrI, jrN, jrA, jisr, jnul, jcat1]
  have d1 : (y0 - y1).toInt = rch v 0 - rch v 1 := (by simp only [Int32.toInt_add, Int32.toInt_sub, Int32.toInt_mul, Int32.toInt_neg, Int.bmod_def, tl, t4]; omega)
  have d2 : (y2 - y3).toInt = rch v 2 - rch v 0 := (by simp only [Int32.toInt_add, Int32.toInt_sub, Int32.toInt_mul, Int32.toInt_neg, Int.bmod_def, tl, t4]; omega)
  have z0 : (0 : Int32).toInt = 0 := rfl
  have DV : ∀ u : Int32, u.toInt = lsm v → 0 < lsm v → ((u + nI f - 1) / nI f).toInt = lse v f := by
    intro u eu pos
    have lb : lsm v ≤ 900000 := by unfold lsm; omega
    have a1 : (u + nI f).toInt = lsm v + f := (by simp only [Int32.toInt_add, Int32.toInt_sub, Int32.toInt_mul, Int32.toInt_neg, Int.bmod_def, tl, t4]; omega)
    generalize u + nI f = w1 at a1
    have a2 : (w1 - 1).toInt = lsm v + f - 1 := (by simp only [Int32.toInt_add, Int32.toInt_sub, Int32.toInt_mul, Int32.toInt_neg, Int.bmod_def, tl, t4]; omega)
    generalize w1 - 1 = w2 at a2
    rw [ti_divp (by omega) (by omega), a2, ef]
    unfold lse
    rw [if_neg (by omega)]
  have nz : ¬ nI f = 0 := nI_ne0 (by omega) (by omega)
  refine ⟨fun c => ⟨fun c2 => ⟨nz, H _ (DV _ ?_ ?_)⟩, fun c2 => H 0 ?_⟩, fun c => ⟨fun c2 => ⟨nz, H _ (DV _ ?_ ?_)⟩, fun c2 => H 0 ?_⟩⟩
  · rw [ti_lt, d1, d2] at c; rw [d1]; unfold lsm; omega
  · rw [ti_lt, d1, d2] at c; rw [ti_lt, d1, z0] at c2; unfold lsm; omega
  · rw [ti_lt, d1, d2] at c; rw [ti_lt, d1, z0] at c2; unfold lse lsm; rw [if_pos (by omega)]; rfl
  · rw [ti_lt, d1, d2] at c; rw [d2]; unfold lsm; omega
  · rw [ti_lt, d1, d2] at c; rw [ti_lt, d2, z0] at c2; unfold lsm; omega
  · rw [ti_lt, d1, d2] at c; rw [ti_lt, d2, z0] at c2; unfold lse lsm; rw [if_pos (by omega)]; rfl
/-- hair to a value's mark; k is -1 where there is no such scale -/
theorem c_hairBy0 (g : G h) {e : Int32} (H0 : ∀ h1, fr [] mF h h1 → (fI h1 81 52).toInt = 2 → Q (some (.int 0)) h1) : jex X (d + 5) 204 [.ref 81, .int (-1), .int e] h Q := by
  rw [jE_X12_hairBy]
  refine jT_X12_hairBy_0 (jif_t (by decide) ?_)
  rw [jrc_ob (by simp only [gM g])]
  refine c_breaks g ?_
  try dsimp only [jrI, jrN, jrA, jisr, jnul, jcat1]
  refine ⟨by decide, H0 _ (fr_sV (by decide) fr_rfl) ?_⟩
  simp (decide := true) only [jgI_ob, jgf_ob, jgL_ob, jpI_ob, jpL_ob, jpR_ob, jpN_ob, jrc_ob, obj_sV, obj_wF, obj_wG, obj_wR, arr_sV, arr_wF, arr_wG, arr_wR, arL_sV, arL_wF, arL_wG, arL_wR, arR_sV, arR_wF, arR_wG, arR_wR, fI_sV (c := 0), fI_sV (c := 1), fI_sV (c := 2), fI_sV (c := 4), fI_sV (c := 5), fI_sV (c := 7), fI_sV (c := 8), fI_sV (c := 9), fI_sV (c := 10), fI_sV (c := 11), fI_sV (c := 12), fI_sV (c := 6), fL_sV (c := 9), fL_sV (c := 12), fI_sV_k, fL_sV_k, fV_sV_k, fI_wF, fI_wG, fI_wR, fL_wF, fL_wG, fL_wR, fV_wF, fV_wG, fV_wR, aF_sV, aG_sV, aR_sV, aF_wG, aF_wR, aG_wF, aG_wR, aR_wF, aR_wG, gM g]
theorem c_hairBy (g : G h) (sm : SM h k b f t fl) (mx : MX h x) (s0 : -4096 ≤ zs x) (s1 : zs x ≤ 4096) (u0 : 0 ≤ zu x) (u1 : zu x ≤ 100000000) (n0 : 0 ≤ zhm x) (n1 : zhm x ≤ 100000000) (e10 : (fI h 81 10).toInt = hs) (h0 : 0 ≤ hs) (h20 : hs ≤ 20) (pv : PW h p v) (gv : GV v) (hp : p < 210) (H1 : (pset hs x (ct f t fl (vmk v f)) b (lse v f)).1 = 0 → ∀ h1, fr [] mF h h1 → MX h1 (pset hs x (ct f t fl (vmk v f)) b (lse v f)).2 → Q (some (.int 1)) h1) (H0 : (pset hs x (ct f t fl (vmk v f)) b (lse v f)).1 ≠ 0 → ∀ h1, fr [] mF h h1 → (fI h1 81 52).toInt = (pset hs x (ct f t fl (vmk v f)) b (lse v f)).1 → Q (some (.int 0)) h1) : jex X (d + 5) 204 [.ref 81, .int (nI k), .int (nI p)] h Q := by
  obtain ⟨m1, m2, m3, m4, m5, m6, m7⟩ := id mx
  obtain ⟨k32, f1, f3, b84, b85, b86, fls, FLf⟩ := id sm
  have ef : (nI f).toInt = (f : Int) := nI_toInt (by omega)
  have a := gv.1 0 (by decide)
  simp only [Nat.mul_zero, Nat.zero_add] at a
  have vm := vmk_e gv f1
  have lb := lse_b gv f1 f3
  have e6 : 6 * nI p = nI (6 * p) := pk_mul 6 p
  have p0 : (aF h 111 (6 * p)).toInt = v 0 := pv 0 (by decide)
  have p1 := pv 1 (by decide)
  have ivk : vp_in (nI k) 32 := by rw [vp_inI, nI_toInt (by omega)]; omega
  have ick : (nI k).toNatClampNeg = k := nI_clamp (by omega)
  have iv0 : vp_in (nI (6 * p)) 1260 := by rw [vp_inI, nI_toInt (by omega)]; omega
  have ic0 : (nI (6 * p)).toNatClampNeg = 6 * p := nI_clamp (by omega)
  have iv1 : vp_in (nI (6 * p + 1)) 1260 := by rw [vp_inI, nI_toInt (by omega)]; omega
  have ic1 : (nI (6 * p + 1)).toNatClampNeg = 6 * p + 1 := nI_clamp (by omega)
  rw [jE_X12_hairBy]
  refine jT_X12_hairBy_0 (jif_n (nI_pos (by omega)) ?_)
  simp (decide := true) only [jgf_ob (c := 12), gM g, gN g, jaI_ar (p := 111) (n := 1260), jaI_ar (p := 85) (n := 32), e6, nI_1, ivk, ick, iv0, ic0, iv1, ic1, true_and, b85]
  refine c_decade (by omega) ?_
  try dsimp only [jrI, jrN, jrA, jisr, jnul, jcat1]
  simp (decide := true) only [jgf_ob (c := 12), jrc_ob (c := 12), gM g, gN g, jaI_ar (p := 111) (n := 1260), jaI_ar (p := 85) (n := 32), ivk, ick, iv0, ic0, true_and, b85]
  refine c_loose (d := d + 1) g pv gv hp f1 f3 (fun lo hlo => ?_)
  try dsimp only [jrI, jrN, jrA, jisr, jnul, jcat1]
  rw [jrc_ob (by simp only [gM g])]
  have ez : (zI ((aF h 111 (6 * p + 1)).toInt % (nI f).toInt)).toInt = ((v 1 % (f : Int)).toNat : Nat) := by
    rw [ef, p1, zt (by omega) (by omega)]
    omega
  change jex X (d + 1 + 3) 148 _ _ _
  refine c_hairTo (n := vmk v f) (e := (v 1 % (f : Int)).toNat) (m := (v 0).toNat) g sm (nI_toInt (by omega)) ez (by rw [p0]; omega) (by omega) (by omega) (by omega) vm.2.2.2 (by omega) (by omega) (fun c => ?_) (fun y y0 y1 y2 => ?_)
  · rw [m1] at c
    have eq : pset hs x (ct f t fl (vmk v f)) b (lse v f) = (5, x) := by unfold pset phair; rw [if_pos c]
    rw [eq] at H0
    try dsimp only [jrI, jrN, jrA, jisr, jnul, jcat1]
    refine jif_t rfl ?_
    rw [jrc_ob (by simp only [gM g])]
    refine c_breaks g ?_
    try dsimp only [jrI, jrN, jrA, jisr, jnul, jcat1]
    refine ⟨by decide, H0 (show ¬ (5 : Int) = 0 by decide) _ (fr_sV (by decide) fr_rfl) ?_⟩
    simp (decide := true) only [jgI_ob, jgf_ob, jgL_ob, jpI_ob, jpL_ob, jpR_ob, jpN_ob, jrc_ob, obj_sV, obj_wF, obj_wG, obj_wR, arr_sV, arr_wF, arr_wG, arr_wR, arL_sV, arL_wF, arL_wG, arL_wR, arR_sV, arR_wF, arR_wG, arR_wR, fI_sV (c := 0), fI_sV (c := 1), fI_sV (c := 2), fI_sV (c := 4), fI_sV (c := 5), fI_sV (c := 7), fI_sV (c := 8), fI_sV (c := 9), fI_sV (c := 10), fI_sV (c := 11), fI_sV (c := 12), fI_sV (c := 6), fL_sV (c := 9), fL_sV (c := 12), fI_sV_k, fL_sV_k, fV_sV_k, fI_wF, fI_wG, fI_wR, fL_wF, fL_wG, fL_wR, fV_wF, fV_wG, fV_wR, aF_sV, aG_sV, aR_sV, aF_wG, aF_wR, aG_wF, aG_wR, aR_wF, aR_wG, gM g]
  · rw [m1] at y2
    have eq : pset hs x (ct f t fl (vmk v f)) b (lse v f) = (jd (s7 (zs x) (ct f t fl (vmk v f) + if b then 0 else zs x) (zu x) (hs + ((if b then 0 else zu x) + lse v f)) (zsl x) (zhm x + 1) (zpl x)), s7 (zs x) (ct f t fl (vmk v f) + if b then 0 else zs x) (zu x) (hs + ((if b then 0 else zu x) + lse v f)) (zsl x) (zhm x + 1) (zpl x)) := by unfold pset phair; rw [if_neg (by omega)]
    rw [eq] at H0 H1
    try dsimp only [jrI, jrN, jrA, jisr, jnul, jcat1]
    refine jif_n (by decide) ?_
    have e17 : (fI h 81 10 + lo + (if b then 0 else fI h 81 16)).toInt = hs + ((if b then 0 else zu x) + lse v f) := by
      have w1 : (fI h 81 10 + lo).toInt = hs + lse v f := (by simp only [Int32.toInt_add, Int32.toInt_sub, Int32.toInt_mul, Int32.toInt_neg, Int.bmod_def, tl, t4]; omega)
      generalize fI h 81 10 + lo = w at w1
      cases b
      · simp only [Bool.false_eq_true, if_false]
        have : (w + fI h 81 16).toInt = w.toInt + (fI h 81 16).toInt := (by simp only [Int32.toInt_add, Int32.toInt_sub, Int32.toInt_mul, Int32.toInt_neg, Int.bmod_def, tl, t4]; omega)
        omega
      · simp only [if_true]
        have : (w + 0).toInt = w.toInt + (0 : Int32).toInt := (by simp only [Int32.toInt_add, Int32.toInt_sub, Int32.toInt_mul, Int32.toInt_neg, Int.bmod_def, tl, t4]; omega)
        have z : (0 : Int32).toInt = 0 := rfl
        omega
    generalize fI h 81 10 + lo + (if b then 0 else fI h 81 16) = w17 at *
    have e50 : (fI h 81 50 + 1).toInt = zhm x + 1 := (by simp only [Int32.toInt_add, Int32.toInt_sub, Int32.toInt_mul, Int32.toInt_neg, Int.bmod_def, tl, t4]; omega)
    simp (decide := true) only [jgI_ob (c := 12), jpI_ob (c := 12), jrc_ob (c := 12), obj_sV, gM g, fI_sV_k]
    refine (fun S : (∀ hh, hh = sV (sV (sV h 81 15 (.int y)) 81 17 (.int w17)) 81 50 (.int (fI h 81 50 + 1)) → jex X (d + 4) 208 [.ref 81] hh (fun r21 h20 => (jrI r21 fun x22 => ((x22 : Int32) &&& 1 = x22 ∧ (Q (some (.int x22)) h20))))) => S _ rfl) (fun hh ee => ?_)
    have k1 : fr [] mF h hh := by rw [ee]; exact fr_sV (by decide) (fr_sV (by decide) (fr_sV (by decide) fr_rfl))
    have mx2 : MX hh (s7 (zs x) (ct f t fl (vmk v f) + if b then 0 else zs x) (zu x) (hs + ((if b then 0 else zu x) + lse v f)) (zsl x) (zhm x + 1) (zpl x)) := by
      rw [ee]
      unfold MX
      simp (decide := true) only [jgI_ob, jgf_ob, jgL_ob, jpI_ob, jpL_ob, jpR_ob, jpN_ob, jrc_ob, obj_sV, obj_wF, obj_wG, obj_wR, arr_sV, arr_wF, arr_wG, arr_wR, arL_sV, arL_wF, arL_wG, arL_wR, arR_sV, arR_wF, arR_wG, arR_wR, fI_sV (c := 0), fI_sV (c := 1), fI_sV (c := 2), fI_sV (c := 4), fI_sV (c := 5), fI_sV (c := 7), fI_sV (c := 8), fI_sV (c := 9), fI_sV (c := 10), fI_sV (c := 11), fI_sV (c := 12), fI_sV (c := 6), fL_sV (c := 9), fL_sV (c := 12), fI_sV_k, fL_sV_k, fV_sV_k, fI_wF, fI_wG, fI_wR, fL_wF, fL_wG, fL_wR, fV_wF, fV_wG, fV_wR, aF_sV, aG_sV, aR_sV, aF_wG, aF_wR, aG_wF, aG_wR, aR_wF, aR_wG, gM g]
      exact ⟨m1, y2, m3, e17, m5, e50, m7⟩
    clear ee
    have g1 := G_fr g rfl k1
    change jex X (d + 2 + 2) 208 _ _ _
    refine c_held g1 mx2 (fun c => ?_) (fun c => ?_)
    · try dsimp only [jrI, jrN, jrA, jisr, jnul, jcat1]
      refine ⟨by decide, H0 (by rw [c]; show ¬ (4 : Int) = 0; decide) _ (fr_sV (by decide) k1) ?_⟩
      rw [c]
      simp (decide := true) only [jgI_ob, jgf_ob, jgL_ob, jpI_ob, jpL_ob, jpR_ob, jpN_ob, jrc_ob, obj_sV, obj_wF, obj_wG, obj_wR, arr_sV, arr_wF, arr_wG, arr_wR, arL_sV, arL_wF, arL_wG, arL_wR, arR_sV, arR_wF, arR_wG, arR_wR, fI_sV (c := 0), fI_sV (c := 1), fI_sV (c := 2), fI_sV (c := 4), fI_sV (c := 5), fI_sV (c := 7), fI_sV (c := 8), fI_sV (c := 9), fI_sV (c := 10), fI_sV (c := 11), fI_sV (c := 12), fI_sV (c := 6), fL_sV (c := 9), fL_sV (c := 12), fI_sV_k, fL_sV_k, fV_sV_k, fI_wF, fI_wG, fI_wR, fL_wF, fL_wG, fL_wR, fV_wF, fV_wG, fV_wR, aF_sV, aG_sV, aR_sV, aF_wG, aF_wR, aG_wF, aG_wR, aR_wF, aR_wG, gM g1]
    · try dsimp only [jrI, jrN, jrA, jisr, jnul, jcat1]
      exact ⟨by decide, H1 c _ k1 mx2⟩
end MPW
