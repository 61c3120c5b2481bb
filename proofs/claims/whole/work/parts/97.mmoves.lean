/-! A CALCULATION'S MOVES: the model's -/
def mF : List (Nat × Nat) := [(81, 14), (81, 15), (81, 16), (81, 17), (81, 49), (81, 50), (81, 57), (81, 52)]
/-- the model's hand stands so -/
def MX (h : JH) (x : S7) : Prop := (fI h 81 14).toInt = zs x ∧ (fI h 81 15).toInt = zh x ∧ (fI h 81 16).toInt = zu x ∧ (fI h 81 17).toInt = zv x ∧ (fI h 81 49).toInt = zsl x ∧ (fI h 81 50).toInt = zhm x ∧ (fI h 81 57).toInt = zpl x
/-- a move's end: it was made, or it broke and 52 tells why -/
def MRr (h h1 : JH) (q : Int × S7) (r : Int32) : Prop := MX h1 q.2 ∧ ((q.1 = 0 ∧ r = 1 ∧ fI h1 81 52 = fI h 81 52) ∨ (q.1 ≠ 0 ∧ r = 0 ∧ (fI h1 81 52).toInt = q.1))
section MMV
variable {X : JX} {d : Nat} {Q : JQ} {h h1 : JH} {x : S7}
theorem c_held (g : G h) (mx : MX h x) (H0 : jd x = 4 → Q (some (.int 0)) (sV h 81 52 (.int 4))) (H1 : jd x = 0 → Q (some (.int 1)) h) : jex X (d + 2) 208 [.ref 81] h Q := by
  obtain ⟨m1, m2, m3, m4, m5, m6, m7⟩ := mx
  have B : 999 < zu x ∨ 999 < zv x → jex X (d + 1) 199 [.ref 81, .int 4] h (fun r3 h2 => jrI r3 fun x4 => jifp (x4 = 0) ((0 : Int32) &&& 1 = 0 ∧ (Q (some (.int 0)) h2)) ((1 : Int32) &&& 1 = 1 ∧ (Q (some (.int 1)) h2))) := by
    intro c
    rw [jE_X12_breaks]
    refine jT_X12_breaks_0 ?_
    simp (decide := true) only [jgI_ob, jgf_ob, jgL_ob, jpI_ob, jpL_ob, jpR_ob, jpN_ob, jrc_ob, obj_sV, obj_wF, obj_wG, obj_wR, arr_sV, arr_wF, arr_wG, arr_wR, arL_sV, arL_wF, arL_wG, arL_wR, arR_sV, arR_wF, arR_wG, arR_wR, fI_sV (c := 0), fI_sV (c := 1), fI_sV (c := 2), fI_sV (c := 4), fI_sV (c := 5), fI_sV (c := 7), fI_sV (c := 8), fI_sV (c := 9), fI_sV (c := 10), fI_sV (c := 11), fI_sV (c := 12), fI_sV (c := 6), fL_sV (c := 9), fL_sV (c := 12), fI_sV_k, fL_sV_k, fV_sV_k, fI_wF, fI_wG, fI_wR, fL_wF, fL_wG, fL_wR, fV_wF, fV_wG, fV_wR, aF_sV, aG_sV, aR_sV, aF_wG, aF_wR, aG_wF, aG_wR, aR_wF, aR_wG, gM g]
    refine ⟨trivial, ?_⟩
    try dsimp only [jrI, jrN, jrA, jisr, jnul, jcat1]
    exact jif_t rfl ⟨trivial, H0 (by unfold jd; rw [if_pos c])⟩
  rw [jE_X12_isHeld]
  refine jT_X12_isHeld_0 ?_
  rw [jgI_ob (c := 12) (by simp only [gM g]) rfl, jrc_ob (by simp only [gM g])]
  have e999 : (999 : Int32).toInt = 999 := by decide
  refine ⟨fun c => B (Or.inl (by rw [ti_lt, e999] at c; omega)), fun c => ?_⟩
  rw [jgI_ob (c := 12) (by simp only [gM g]) rfl]
  rw [ti_lt, e999] at c
  refine ⟨fun c2 => B (Or.inr (by rw [ti_lt, e999] at c2; omega)), fun c2 => ?_⟩
  rw [ti_lt, e999] at c2
  exact ⟨by decide, H1 (by unfold jd; rw [if_neg (by omega)])⟩
theorem MX_eq (mx : MX h x) (e1 : fI h1 81 14 = fI h 81 14) (e2 : fI h1 81 15 = fI h 81 15) (e3 : fI h1 81 16 = fI h 81 16) (e4 : fI h1 81 17 = fI h 81 17) (e5 : fI h1 81 49 = fI h 81 49) (e6 : fI h1 81 50 = fI h 81 50) (e7 : fI h1 81 57 = fI h 81 57) : MX h1 x := by
  unfold MX at *
  rw [e1, e2, e3, e4, e5, e6, e7]
  exact mx
theorem c_breaks (g : G h) {a : Int32} (H : Q (some (.int 0)) (sV h 81 52 (.int a))) : jex X (d + 1) 199 [.ref 81, .int a] h Q := by
  rw [jE_X12_breaks]
  refine jT_X12_breaks_0 ?_
  rw [jpI_ob (c := 12) (by simp only [gM g]) rfl]
  exact ⟨by decide, H⟩
theorem MX_52 (mx : MX h x) {a : Int32} : MX (sV h 81 52 (.int a)) x := by
  have k : fr [] [(81, 52)] h (sV h 81 52 (.int a)) := fr_sV (by decide) fr_rfl
  exact MX_eq mx (frI k (by decide) (by decide)) (frI k (by decide) (by decide)) (frI k (by decide) (by decide)) (frI k (by decide) (by decide)) (frI k (by decide) (by decide)) (frI k (by decide) (by decide)) (frI k (by decide) (by decide))
theorem c_mslide (g : G h) (mx : MX h x) (b0 : 0 ≤ zsl x) (b1 : zsl x ≤ 100000000) {a e : Int32} (H : ∀ (r : Int32) (h' : JH), fr [] mF h h' → MRr h h' (pslide x a.toInt e.toInt) r → Q (some (.int r)) h') : jex X (d + 3) 212 [.ref 81, .int a, .int e] h Q := by
  obtain ⟨m1, m2, m3, m4, m5, m6, m7⟩ := id mx
  rw [jE_X12_slideBy]
  refine jT_X12_slideBy_0 ?_
  rw [jrc_ob (by simp only [gM g])]
  refine c_slideTo g (fun c => ?_) (fun c1 c2 => ?_)
  · have ep : pslide x a.toInt e.toInt = (5, x) := by unfold pslide; rw [if_pos c]
    rw [ep] at H
    try dsimp only [jrI, jrN, jrA, jisr, jnul, jcat1]
    refine jif_t rfl ?_
    rw [jrc_ob (by simp only [gM g])]
    refine c_breaks g ?_
    try dsimp only [jrI, jrN, jrA, jisr, jnul, jcat1]
    refine ⟨by decide, H 0 _ (fr_sV (by decide) fr_rfl) ⟨MX_52 mx, Or.inr ⟨show ¬ (5 : Int) = 0 by decide, rfl, ?_⟩⟩⟩
    simp (decide := true) only [jgI_ob, jgf_ob, jgL_ob, jpI_ob, jpL_ob, jpR_ob, jpN_ob, jrc_ob, obj_sV, obj_wF, obj_wG, obj_wR, arr_sV, arr_wF, arr_wG, arr_wR, arL_sV, arL_wF, arL_wG, arL_wR, arR_sV, arR_wF, arR_wG, arR_wR, fI_sV (c := 0), fI_sV (c := 1), fI_sV (c := 2), fI_sV (c := 4), fI_sV (c := 5), fI_sV (c := 7), fI_sV (c := 8), fI_sV (c := 9), fI_sV (c := 10), fI_sV (c := 11), fI_sV (c := 12), fI_sV (c := 6), fL_sV (c := 9), fL_sV (c := 12), fI_sV_k, fL_sV_k, fV_sV_k, fI_wF, fI_wG, fI_wR, fL_wF, fL_wG, fL_wR, fV_wF, fV_wG, fV_wR, aF_sV, aG_sV, aR_sV, aF_wG, aF_wR, aG_wF, aG_wR, aR_wF, aR_wG, gM g]
  · try dsimp only [jrI, jrN, jrA, jisr, jnul, jcat1]
    refine jif_n (by decide) ?_
    simp (decide := true) only [jgI_ob, jgf_ob, jgL_ob, jpI_ob, jpL_ob, jpR_ob, jpN_ob, jrc_ob, obj_sV, obj_wF, obj_wG, obj_wR, arr_sV, arr_wF, arr_wG, arr_wR, arL_sV, arL_wF, arL_wG, arL_wR, arR_sV, arR_wF, arR_wG, arR_wR, fI_sV (c := 0), fI_sV (c := 1), fI_sV (c := 2), fI_sV (c := 4), fI_sV (c := 5), fI_sV (c := 7), fI_sV (c := 8), fI_sV (c := 9), fI_sV (c := 10), fI_sV (c := 11), fI_sV (c := 12), fI_sV (c := 6), fL_sV (c := 9), fL_sV (c := 12), fI_sV_k, fL_sV_k, fV_sV_k, fI_wF, fI_wG, fI_wR, fL_wF, fL_wG, fL_wR, fV_wF, fV_wG, fV_wR, aF_sV, aG_sV, aR_sV, aF_wG, aF_wR, aG_wF, aG_wR, aR_wF, aR_wG, gM g, fI_sV_ne]
    have ep : pslide x a.toInt e.toInt = (jd (s7 a.toInt (zh x) e.toInt (zv x) (zsl x + 1) (zhm x) (zpl x)), s7 a.toInt (zh x) e.toInt (zv x) (zsl x + 1) (zhm x) (zpl x)) := by unfold pslide; rw [if_neg (by omega)]
    rw [ep] at H
    refine (fun S : (∀ hh, hh = _ → jex X (d + 2) 208 [.ref 81] hh _) => S _ rfl) (fun hh ee => ?_)
    have k1 : fr [] mF h hh := by rw [ee]; exact fr_sV (by decide) (fr_sV (by decide) (fr_sV (by decide) fr_rfl))
    have e52 : fI hh 81 52 = fI h 81 52 := by rw [ee]; simp (decide := true) only [jgI_ob, jgf_ob, jgL_ob, jpI_ob, jpL_ob, jpR_ob, jpN_ob, jrc_ob, obj_sV, obj_wF, obj_wG, obj_wR, arr_sV, arr_wF, arr_wG, arr_wR, arL_sV, arL_wF, arL_wG, arL_wR, arR_sV, arR_wF, arR_wG, arR_wR, fI_sV (c := 0), fI_sV (c := 1), fI_sV (c := 2), fI_sV (c := 4), fI_sV (c := 5), fI_sV (c := 7), fI_sV (c := 8), fI_sV (c := 9), fI_sV (c := 10), fI_sV (c := 11), fI_sV (c := 12), fI_sV (c := 6), fL_sV (c := 9), fL_sV (c := 12), fI_sV_k, fL_sV_k, fV_sV_k, fI_wF, fI_wG, fI_wR, fL_wF, fL_wG, fL_wR, fV_wF, fV_wG, fV_wR, aF_sV, aG_sV, aR_sV, aF_wG, aF_wR, aG_wF, aG_wR, aR_wF, aR_wG, gM g, fI_sV_ne]
    have e49 : (fI h 81 49 + 1).toInt = zsl x + 1 := (by simp only [Int32.toInt_add, Int32.toInt_sub, Int32.toInt_mul, Int32.toInt_neg, Int.bmod_def, tl]; omega)
    have mx2 : MX hh (s7 a.toInt (zh x) e.toInt (zv x) (zsl x + 1) (zhm x) (zpl x)) := by
      rw [ee]
      unfold MX
      simp (decide := true) only [jgI_ob, jgf_ob, jgL_ob, jpI_ob, jpL_ob, jpR_ob, jpN_ob, jrc_ob, obj_sV, obj_wF, obj_wG, obj_wR, arr_sV, arr_wF, arr_wG, arr_wR, arL_sV, arL_wF, arL_wG, arL_wR, arR_sV, arR_wF, arR_wG, arR_wR, fI_sV (c := 0), fI_sV (c := 1), fI_sV (c := 2), fI_sV (c := 4), fI_sV (c := 5), fI_sV (c := 7), fI_sV (c := 8), fI_sV (c := 9), fI_sV (c := 10), fI_sV (c := 11), fI_sV (c := 12), fI_sV (c := 6), fL_sV (c := 9), fL_sV (c := 12), fI_sV_k, fL_sV_k, fV_sV_k, fI_wF, fI_wG, fI_wR, fL_wF, fL_wG, fL_wR, fV_wF, fV_wG, fV_wR, aF_sV, aG_sV, aR_sV, aF_wG, aF_wR, aG_wF, aG_wR, aR_wF, aR_wG, gM g, fI_sV_ne, e49, m2, m4, m6, m7]
      exact ⟨rfl, rfl, rfl, rfl, rfl, rfl, rfl⟩
    clear ee
    have g1 := G_fr g rfl k1
    refine c_held g1 mx2 (fun c => ?_) (fun c => ?_)
    · try dsimp only [jrI, jrN, jrA, jisr, jnul, jcat1]
      refine ⟨by decide, H 0 _ (fr_sV (by decide) k1) ⟨MX_52 mx2, Or.inr ⟨by rw [c]; show ¬ (4 : Int) = 0; decide, rfl, ?_⟩⟩⟩
      rw [c]
      simp (decide := true) only [jgI_ob, jgf_ob, jgL_ob, jpI_ob, jpL_ob, jpR_ob, jpN_ob, jrc_ob, obj_sV, obj_wF, obj_wG, obj_wR, arr_sV, arr_wF, arr_wG, arr_wR, arL_sV, arL_wF, arL_wG, arL_wR, arR_sV, arR_wF, arR_wG, arR_wR, fI_sV (c := 0), fI_sV (c := 1), fI_sV (c := 2), fI_sV (c := 4), fI_sV (c := 5), fI_sV (c := 7), fI_sV (c := 8), fI_sV (c := 9), fI_sV (c := 10), fI_sV (c := 11), fI_sV (c := 12), fI_sV (c := 6), fL_sV (c := 9), fL_sV (c := 12), fI_sV_k, fL_sV_k, fV_sV_k, fI_wF, fI_wG, fI_wR, fL_wF, fL_wG, fL_wR, fV_wF, fV_wG, fV_wR, aF_sV, aG_sV, aR_sV, aF_wG, aF_wR, aG_wF, aG_wR, aR_wF, aR_wG, gM g1]
    · try dsimp only [jrI, jrN, jrA, jisr, jnul, jcat1]
      exact ⟨by decide, H 1 _ k1 ⟨mx2, Or.inl ⟨c, rfl, e52⟩⟩⟩
end MMV
