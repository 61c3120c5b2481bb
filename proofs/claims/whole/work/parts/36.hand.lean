/-! THE HAND: setting hair and slide, and looking -/
section HAND
variable {X : JX} {d : Nat} {Q : JQ} {h : JH} {p τ k f n : Nat} {b t : Bool} {fl : Nat → Int}
theorem zI_nat {v : Int} (h0 : 0 ≤ v) (h1 : v < 2147483648) : (zI v).toInt = (v.toNat : Nat) := by
  rw [zt (by omega) h1]; omega
theorem c_markOfNumber (sc : SC h τ b f t fl) {m e : Int32} (m0 : 100 ≤ m.toInt) (m1 : m.toInt ≤ 999) (H : ∀ (r : Int32) (j : Nat), r.toInt = j → (j : Int) + 100 = 900 * (e.toInt % f) + m.toInt → j ≤ 900 * f → Q (some (.int r)) h) : jex X (d + 2) 141 [.ref τ, .int m, .int e] h Q := by
  obtain ⟨ho, f1, f3, e0, e1, e2, e3, e4, ha, hv, hf⟩ := sc
  have ef : (nI f).toInt = f := nI_toInt (by omega)
  have r0 := Int.emod_nonneg e.toInt (show (f : Int) ≠ 0 by omega)
  have r1 := Int.emod_lt_of_pos e.toInt (show (0 : Int) < f by omega)
  rw [jE_X8_markOfNumber]
  refine jT_X8_markOfNumber_0 ?_
  rw [jgI_ob ho rfl, e1]
  refine c_max ?_
  dsimp only [jrI]
  rw [show zI (max (1 : Int32).toInt (nI f).toInt) = nI f by
    have t1 : (1 : Int32).toInt = 1 := rfl
    rw [← Int32.toInt_inj, zt (by omega) (by omega)]
    omega]
  refine c_floorMod (by omega) ?_
  dsimp only [jrI]
  rw [ef]
  have ez : (zI (e.toInt % f)).toInt = e.toInt % f := zt (by omega) (by omega)
  refine c_markFor (by omega) (by omega) (fun r hr => ?_)
  dsimp only [jrI]
  rw [ez] at hr
  exact H r (900 * (e.toInt % f) + m.toInt - 100).toNat (by omega) (by omega) (by omega)
theorem c_bringHair (g : G h) (ho : obj h p 2) (sc : SC h τ b f t fl) {mk lo : Int32} (hm : mk.toInt = n) (hn : n ≤ 900 * f) (hs0 : -4096 ≤ (fI h p 4).toInt) (hs1 : (fI h p 4).toInt ≤ 4096) (H0 : (ct f t fl n + (if b then 0 else (fI h p 4).toInt) < 0 ∨ 4096 < ct f t fl n + (if b then 0 else (fI h p 4).toInt)) → Q (some (.int 0)) h) (H1 : ∀ x : Int32, 0 ≤ x.toInt → x.toInt ≤ 4096 → x.toInt = ct f t fl n + (if b then 0 else (fI h p 4).toInt) → Q (some (.int 1)) (sV (sV (sV h p 5 (.int x)) p 7 (.int (fI h p 0 + ((if b then 0 else fI h p 6) + lo)))) p 9 (.int (fI h p 9 + 1)))) : jex X (d + 2) 143 [.ref p, .ref τ, .int mk, .int lo] h Q := by
  obtain ⟨hoS, f1, f3, e0, e1, e2, e3, e4, ha, hv, hf⟩ := id sc
  have hyr := ct_rg (t := t) hf f1 hn
  have htr := tp_rg (t := t) f1 hn
  rw [jE_X2_bringHair]
  refine jT_X2_bringHair_0 ?_
  dsimp only [jisr]
  rw [jrc_ob hoS]
  refine c_cutPlace g sc hm hn (fun y hy => ?_)
  dsimp only [jrI]
  cases b
  · simp (decide := true) only [jgI_ob, jgf_ob, jgL_ob, jpI_ob, jpL_ob, jpR_ob, jpN_ob, jrc_ob, obj_sV, obj_wF, obj_wG, obj_wR, arr_sV, arr_wF, arr_wG, arr_wR, arL_sV, arL_wF, arL_wG, arL_wR, arR_sV, arR_wF, arR_wG, arR_wR, fI_sV (c := 0), fI_sV (c := 1), fI_sV (c := 2), fI_sV (c := 4), fI_sV (c := 5), fI_sV (c := 7), fI_sV (c := 8), fI_sV (c := 9), fI_sV (c := 10), fI_sV (c := 11), fI_sV (c := 12), fI_sV (c := 6), fL_sV (c := 9), fL_sV (c := 12), fI_sV_k, fL_sV_k, fV_sV_k, fI_wF, fI_wG, fI_wR, fL_wF, fL_wG, fL_wR, fV_wF, fV_wG, fV_wR, aF_sV, aG_sV, aR_sV, aF_wG, aF_wR, aG_wF, aG_wR, aR_wF, aR_wG, hoS, e0, bi_f, jif_T, ho]
    have e : (y + fI h p 4).toInt = ct f t fl n + (fI h p 4).toInt := (by simp only [Int32.toInt_add, Int32.toInt_sub, Int32.toInt_mul, Int32.toInt_neg, Int.bmod_def, tl]; omega)
    refine c_putHair ho (fun c => ?_) (fun c1 c2 => ?_)
    · dsimp only [jrI]
      refine ⟨by decide, H0 ?_⟩
      rw [if_neg (by decide)]
      omega
    · dsimp only [jrI]
      refine ⟨by decide, H1 _ c1 c2 ?_⟩
      rw [if_neg (by decide)]
      exact e
  · simp (decide := true) only [jgI_ob, jgf_ob, jgL_ob, jpI_ob, jpL_ob, jpR_ob, jpN_ob, jrc_ob, obj_sV, obj_wF, obj_wG, obj_wR, arr_sV, arr_wF, arr_wG, arr_wR, arL_sV, arL_wF, arL_wG, arL_wR, arR_sV, arR_wF, arR_wG, arR_wR, fI_sV (c := 0), fI_sV (c := 1), fI_sV (c := 2), fI_sV (c := 4), fI_sV (c := 5), fI_sV (c := 7), fI_sV (c := 8), fI_sV (c := 9), fI_sV (c := 10), fI_sV (c := 11), fI_sV (c := 12), fI_sV (c := 6), fL_sV (c := 9), fL_sV (c := 12), fI_sV_k, fL_sV_k, fV_sV_k, fI_wF, fI_wG, fI_wR, fL_wF, fL_wG, fL_wR, fV_wF, fV_wG, fV_wR, aF_sV, aG_sV, aR_sV, aF_wG, aF_wR, aG_wF, aG_wR, aR_wF, aR_wG, hoS, e0, bi_t, jif_F, ho]
    have e : (y + 0).toInt = ct f t fl n := (by simp only [Int32.toInt_add, Int32.toInt_sub, Int32.toInt_mul, Int32.toInt_neg, Int.bmod_def, tl]; omega)
    refine c_putHair ho (fun c => ?_) (fun c1 c2 => ?_)
    · dsimp only [jrI]
      refine ⟨by decide, H0 ?_⟩
      rw [if_pos rfl]
      omega
    · dsimp only [jrI]
      refine ⟨by decide, H1 _ c1 c2 ?_⟩
      rw [if_pos rfl]
      omega
theorem c_putSlide (ho : obj h p 2) {a e : Int32} (H0 : (a.toInt < -4096 ∨ 4096 < a.toInt) → Q (some (.int 0)) h) (H1 : -4096 ≤ a.toInt → a.toInt ≤ 4096 → Q (some (.int 1)) (sV (sV (sV h p 4 (.int a)) p 6 (.int e)) p 8 (.int (fI h p 8 + 1)))) : jex X (d + 1) 151 [.ref p, .int a, .int e] h Q := by
  rw [jE_X2_putSlide]
  refine jT_X2_putSlide_0 ?_
  simp (decide := true) only [jgI_ob, jgf_ob, jgL_ob, jpI_ob, jpL_ob, jpR_ob, jpN_ob, jrc_ob, obj_sV, obj_wF, obj_wG, obj_wR, arr_sV, arr_wF, arr_wG, arr_wR, arL_sV, arL_wF, arL_wG, arL_wR, arR_sV, arR_wF, arR_wG, arR_wR, fI_sV (c := 0), fI_sV (c := 1), fI_sV (c := 2), fI_sV (c := 4), fI_sV (c := 5), fI_sV (c := 7), fI_sV (c := 8), fI_sV (c := 9), fI_sV (c := 10), fI_sV (c := 11), fI_sV (c := 12), fI_sV (c := 6), fL_sV (c := 9), fL_sV (c := 12), fI_sV_k, fL_sV_k, fV_sV_k, fI_wF, fI_wG, fI_wR, fL_wF, fL_wG, fL_wR, fV_wF, fV_wG, fV_wR, aF_sV, aG_sV, aR_sV, aF_wG, aF_wR, aG_wF, aG_wR, aR_wF, aR_wG, ho, ti_lt, tl, true_and]
  exact ⟨fun c => H0 (by omega), fun c => ⟨fun c2 => H0 (by omega), fun c2 => H1 (by omega) (by omega)⟩⟩
theorem c_bringSlide (ho : obj h p 2) {a e : Int32} (H0 : ((fI h p 5 - a).toInt < -4096 ∨ 4096 < (fI h p 5 - a).toInt) → Q (some (.int 0)) h) (H1 : -4096 ≤ (fI h p 5 - a).toInt → (fI h p 5 - a).toInt ≤ 4096 → Q (some (.int 1)) (sV (sV (sV h p 4 (.int (fI h p 5 - a))) p 6 (.int (fI h p 7 + fI h p 0 + e))) p 8 (.int (fI h p 8 + 1)))) : jex X (d + 2) 150 [.ref p, .int a, .int e] h Q := by
  rw [jE_X2_bringSlide]
  refine jT_X2_bringSlide_0 ?_
  simp (decide := true) only [jgI_ob, jgf_ob, jgL_ob, jpI_ob, jpL_ob, jpR_ob, jpN_ob, jrc_ob, obj_sV, obj_wF, obj_wG, obj_wR, arr_sV, arr_wF, arr_wG, arr_wR, arL_sV, arL_wF, arL_wG, arL_wR, arR_sV, arR_wF, arR_wG, arR_wR, fI_sV (c := 0), fI_sV (c := 1), fI_sV (c := 2), fI_sV (c := 4), fI_sV (c := 5), fI_sV (c := 7), fI_sV (c := 8), fI_sV (c := 9), fI_sV (c := 10), fI_sV (c := 11), fI_sV (c := 12), fI_sV (c := 6), fL_sV (c := 9), fL_sV (c := 12), fI_sV_k, fL_sV_k, fV_sV_k, fI_wF, fI_wG, fI_wR, fL_wF, fL_wG, fL_wR, fV_wF, fV_wG, fV_wR, aF_sV, aG_sV, aR_sV, aF_wG, aF_wR, aG_wF, aG_wR, aR_wF, aR_wG, ho]
  refine c_putSlide ho (fun c => ?_) (fun c1 c2 => ?_)
  · exact ⟨by decide, H0 c⟩
  · exact ⟨by decide, H1 c1 c2⟩
/-- where a scale is looked at, and within how much -/
def lkx (h : JH) (p : Nat) (b : Bool) : Int := (fI h p 5).toInt - (if b then 0 else (fI h p 4).toInt)
def lkq (h : JH) (p : Nat) (b : Bool) : Int := (fI h p 1).toInt + (fI h p 7).toInt + (if b then 0 else (fI h p 6).toInt)
theorem c_shows (g : G h) (ho : obj h p 2) (sc : SC h τ b f t fl) (hp : 126 ≤ τ) (s0 : -4096 ≤ (fI h p 4).toInt) (s1 : (fI h p 4).toInt ≤ 4096) (h0 : 0 ≤ (fI h p 5).toInt) (h1 : (fI h p 5).toInt ≤ 4096) (e0 : 0 ≤ (fI h p 1).toInt) (e1 : (fI h p 1).toInt ≤ 40) (u0 : 0 ≤ (fI h p 6).toInt) (u1 : (fI h p 6).toInt ≤ 1000000) (v0 : 0 ≤ (fI h p 7).toInt) (v1 : (fI h p 7).toInt ≤ 1000000) (H0 : (lkx h p b < 0 ∨ 4096 < lkx h p b) → Q (some (.int 0)) h) (H1 : ∀ (h2 : JH) (a l u : Nat), fr [] [] h h2 → 0 ≤ lkx h p b → lkx h p b ≤ 4096 → SEEN (gp f t fl (lkx h p b)) (900 * f) (lkq h p b) a l u → (fI h2 τ 5).toInt = a → (fI h2 τ 6).toInt = l → (fI h2 τ 7).toInt = u → Q (some (.int 1)) h2) : jex X (d + 3) 157 [.ref p, .ref τ] h Q := by
  obtain ⟨hoS, f1, f3, z0, z1, z2, z3, z4, ha, hv, hf⟩ := id sc
  unfold lkx lkq at *
  rw [jE_X2_shows]
  refine jT_X2_shows_0 ?_
  dsimp only [jisr]
  cases b
  · simp (decide := true) only [jgI_ob, jgf_ob, jgL_ob, jpI_ob, jpL_ob, jpR_ob, jpN_ob, jrc_ob, obj_sV, obj_wF, obj_wG, obj_wR, arr_sV, arr_wF, arr_wG, arr_wR, arL_sV, arL_wF, arL_wG, arL_wR, arR_sV, arR_wF, arR_wG, arR_wR, fI_sV (c := 0), fI_sV (c := 1), fI_sV (c := 2), fI_sV (c := 4), fI_sV (c := 5), fI_sV (c := 7), fI_sV (c := 8), fI_sV (c := 9), fI_sV (c := 10), fI_sV (c := 11), fI_sV (c := 12), fI_sV (c := 6), fL_sV (c := 9), fL_sV (c := 12), fI_sV_k, fL_sV_k, fV_sV_k, fI_wF, fI_wG, fI_wR, fL_wF, fL_wG, fL_wR, fV_wF, fV_wG, fV_wR, aF_sV, aG_sV, aR_sV, aF_wG, aF_wR, aG_wF, aG_wR, aR_wF, aR_wG, hoS, z0, bi_f, jif_T, ho, ti_lt, tl, true_and]
    simp only [Bool.false_eq_true, if_false] at H0 H1
    have ex : (fI h p 5 - fI h p 4).toInt = (fI h p 5).toInt - (fI h p 4).toInt := (by simp only [Int32.toInt_add, Int32.toInt_sub, Int32.toInt_mul, Int32.toInt_neg, Int.bmod_def, tl]; omega)
    have eq : (fI h p 1 + fI h p 7 + fI h p 6).toInt = (fI h p 1).toInt + (fI h p 7).toInt + (fI h p 6).toInt := (by simp only [Int32.toInt_add, Int32.toInt_sub, Int32.toInt_mul, Int32.toInt_neg, Int.bmod_def, tl]; omega)
    refine ⟨fun c => H0 (by omega), fun c => ⟨fun c2 => H0 (by omega), fun c2 => ?_⟩⟩
    refine c_lookAt g sc hp (by omega) (by omega) (by omega) (by omega) (fun h2 a l u hf1 hs i5 i6 i7 => ?_)
    rw [ex, eq] at hs
    exact H1 h2 a l u hf1 (by omega) (by omega) hs i5 i6 i7
  · simp (decide := true) only [jgI_ob, jgf_ob, jgL_ob, jpI_ob, jpL_ob, jpR_ob, jpN_ob, jrc_ob, obj_sV, obj_wF, obj_wG, obj_wR, arr_sV, arr_wF, arr_wG, arr_wR, arL_sV, arL_wF, arL_wG, arL_wR, arR_sV, arR_wF, arR_wG, arR_wR, fI_sV (c := 0), fI_sV (c := 1), fI_sV (c := 2), fI_sV (c := 4), fI_sV (c := 5), fI_sV (c := 7), fI_sV (c := 8), fI_sV (c := 9), fI_sV (c := 10), fI_sV (c := 11), fI_sV (c := 12), fI_sV (c := 6), fL_sV (c := 9), fL_sV (c := 12), fI_sV_k, fL_sV_k, fV_sV_k, fI_wF, fI_wG, fI_wR, fL_wF, fL_wG, fL_wR, fV_wF, fV_wG, fV_wR, aF_sV, aG_sV, aR_sV, aF_wG, aF_wR, aG_wF, aG_wR, aR_wF, aR_wG, hoS, z0, bi_t, jif_F, ho, ti_lt, tl, true_and]
    simp only [if_true, Int.sub_zero, Int.add_zero] at H0 H1
    have eq : (fI h p 1 + fI h p 7 + 0).toInt = (fI h p 1).toInt + (fI h p 7).toInt := (by simp only [Int32.toInt_add, Int32.toInt_sub, Int32.toInt_mul, Int32.toInt_neg, Int.bmod_def, tl]; omega)
    refine ⟨fun c => H0 (by omega), fun c => ⟨fun c2 => H0 (by omega), fun c2 => ?_⟩⟩
    refine c_lookAt g sc hp (by omega) (by omega) (by omega) (by omega) (fun h2 a l u hf1 hs i5 i6 i7 => ?_)
    rw [eq] at hs
    exact H1 h2 a l u hf1 (by omega) (by omega) hs i5 i6 i7
theorem c_sightedMark {τ : Nat} (ho : obj h τ 8) {w : Int32} (H : ∀ r : Int32, (w.toInt = 0 → r = fI h τ 5) → (w.toInt = 1 → r = fI h τ 6) → (w.toInt = 2 → r = fI h τ 7) → Q (some (.int r)) h) : jex X (d + 1) 128 [.ref τ, .int w] h Q := by
  rw [jE_X8_sightedMark]
  refine jT_X8_sightedMark_0 ?_
  simp (decide := true) only [jgI_ob, jgf_ob, jgL_ob, jpI_ob, jpL_ob, jpR_ob, jpN_ob, jrc_ob, obj_sV, obj_wF, obj_wG, obj_wR, arr_sV, arr_wF, arr_wG, arr_wR, arL_sV, arL_wF, arL_wG, arL_wR, arR_sV, arR_wF, arR_wG, arR_wR, fI_sV (c := 0), fI_sV (c := 1), fI_sV (c := 2), fI_sV (c := 4), fI_sV (c := 5), fI_sV (c := 7), fI_sV (c := 8), fI_sV (c := 9), fI_sV (c := 10), fI_sV (c := 11), fI_sV (c := 12), fI_sV (c := 6), fL_sV (c := 9), fL_sV (c := 12), fI_sV_k, fL_sV_k, fV_sV_k, fI_wF, fI_wG, fI_wR, fL_wF, fL_wG, fL_wR, fV_wF, fV_wG, fV_wR, aF_sV, aG_sV, aR_sV, aF_wG, aF_wR, aG_wF, aG_wR, aR_wF, aR_wG, ho, ti_eq, tl]
  exact ⟨fun c => H _ (fun _ => rfl) (fun c2 => by omega) (fun c2 => by omega), fun c => ⟨fun c2 => H _ (fun c3 => by omega) (fun _ => rfl) (fun c3 => by omega), fun c2 => H _ (fun c3 => by omega) (fun c3 => by omega) (fun _ => rfl)⟩⟩
theorem c_sighted {τ : Nat} (ho : obj h τ 8) {w : Int32} {a l u : Nat} (i5 : (fI h τ 5).toInt = a) (i6 : (fI h τ 6).toInt = l) (i7 : (fI h τ 7).toInt = u) (ha : a ≤ 2700) (hl : l ≤ 2700) (hu : u ≤ 2700) (w0 : 0 ≤ w.toInt) (w1 : w.toInt ≤ 2) (H : ∀ r : Int32, (w.toInt = 0 → r.toInt = enc a) → (w.toInt = 1 → r.toInt = enc l) → (w.toInt = 2 → r.toInt = enc u) → Q (some (.int r)) h) : jex X (d + 2) 127 [.ref τ, .int w] h Q := by
  rw [jE_X8_sighted]
  refine jT_X8_sighted_0 ?_
  rw [jrc_ob ho]
  refine c_sightedMark ho (fun r r0 r1 r2 => ?_)
  dsimp only [jrI]
  have hr : ∃ j : Nat, r.toInt = j ∧ j ≤ 2700 ∧ (w.toInt = 0 → j = a) ∧ (w.toInt = 1 → j = l) ∧ (w.toInt = 2 → j = u) := by
    rcases (show w.toInt = 0 ∨ w.toInt = 1 ∨ w.toInt = 2 by omega) with c | c | c
    · exact ⟨a, by rw [r0 c]; exact i5, ha, by omega, by omega, by omega⟩
    · exact ⟨l, by rw [r1 c]; exact i6, hl, by omega, by omega, by omega⟩
    · exact ⟨u, by rw [r2 c]; exact i7, hu, by omega, by omega, by omega⟩
  obtain ⟨j, hj, hjl, j0, j1, j2⟩ := hr
  refine c_decadeOf hj (fun x hx => ?_)
  dsimp only [jrI]
  refine c_digitsOf hj (fun y hy => ?_)
  dsimp only [jrI]
  have e : (1000 * x + y).toInt = enc j := by
    have : (1000 * x + y).toInt = 1000 * x.toInt + y.toInt := (by simp only [Int32.toInt_add, Int32.toInt_sub, Int32.toInt_mul, Int32.toInt_neg, Int.bmod_def, tl]; omega)
    rw [this, hx, hy]
    unfold enc
    omega
  exact H _ (fun c => by rw [e, j0 c]) (fun c => by rw [e, j1 c]) (fun c => by rw [e, j2 c])
/-! the model's -/
theorem c_mNumber {m e : Int32} (H0 : ¬ (100 ≤ m.toInt ∧ m.toInt ≤ 999 ∧ -99 ≤ e.toInt ∧ e.toInt ≤ 99) → Q (some (.int 0)) h) (H1 : (100 ≤ m.toInt ∧ m.toInt ≤ 999 ∧ -99 ≤ e.toInt ∧ e.toInt ≤ 99) → Q (some (.int 1)) h) : jex X (d + 2) 146 [.int m, .int e] h Q := by
  rw [jE_X12_isNumber]
  refine jT_X12_isNumber_0 (c_isDigits (fun c => ?_) (fun c1 c2 => ?_))
  · exact jif_t rfl ⟨by decide, H0 (by omega)⟩
  · refine jif_n (by decide) ?_
    simp (decide := true) only [ti_lt, tl, true_and]
    exact ⟨fun c => H0 (by omega), fun c => ⟨fun c2 => H0 (by omega), fun c2 => H1 (by omega)⟩⟩
theorem c_cNumber {m e : Int32} (H0 : ¬ (100 ≤ m.toInt ∧ m.toInt ≤ 999 ∧ -99 ≤ e.toInt ∧ e.toInt ≤ 99) → Q (some (.int 0)) h) (H1 : (100 ≤ m.toInt ∧ m.toInt ≤ 999 ∧ -99 ≤ e.toInt ∧ e.toInt ≤ 99) → Q (some (.int 1)) h) : jex X (d + 1) 140 [.int m, .int e] h Q := by
  refine c_isNumber ?_
  by_cases c : 100 ≤ m.toInt ∧ m.toInt ≤ 999 ∧ -99 ≤ e.toInt ∧ e.toInt ≤ 99
  · rw [decide_eq_true c]; exact H1 c
  · rw [decide_eq_false c]; exact H0 c
theorem c_hairTo (g : G h) (sm : SM h k b f t fl) {a1 a2 a3 lo : Int32} {e m : Nat} (h1 : a1.toInt = k) (h2 : a2.toInt = e) (h3 : a3.toInt = m) (m0 : 100 ≤ m) (m1 : m ≤ 1000) (hn : n + 100 = 900 * e + m) (hN : n ≤ 900 * f) (hs0 : -4096 ≤ (fI h 81 14).toInt) (hs1 : (fI h 81 14).toInt ≤ 4096) (H0 : (ct f t fl n + (if b then 0 else (fI h 81 14).toInt) < 0 ∨ 4096 < ct f t fl n + (if b then 0 else (fI h 81 14).toInt)) → Q (some (.int 0)) h) (H1 : ∀ x : Int32, 0 ≤ x.toInt → x.toInt ≤ 4096 → x.toInt = ct f t fl n + (if b then 0 else (fI h 81 14).toInt) → Q (some (.int 1)) (sV (sV h 81 15 (.int x)) 81 17 (.int (fI h 81 10 + lo + (if b then 0 else fI h 81 16))))) : jex X (d + 3) 148 [.ref 81, .int a1, .int a2, .int a3, .int lo] h Q := by
  obtain ⟨k1, f1, f3, e1, e2, e3, hv, hf⟩ := id sm
  have hyr := ct_rg (t := t) hf f1 hN
  have htr := tp_rg (t := t) f1 hN
  have iv : vp_in a1 32 := by rw [vp_inI]; omega
  rw [jE_X12_hairTo]
  refine jT_X12_hairTo_0 ?_
  simp (decide := true) only [jgI_ob, jgf_ob, jgL_ob, jpI_ob, jpL_ob, jpR_ob, jpN_ob, jrc_ob, obj_sV, obj_wF, obj_wG, obj_wR, arr_sV, arr_wF, arr_wG, arr_wR, arL_sV, arL_wF, arL_wG, arL_wR, arR_sV, arR_wF, arR_wG, arR_wR, fI_sV (c := 0), fI_sV (c := 1), fI_sV (c := 2), fI_sV (c := 4), fI_sV (c := 5), fI_sV (c := 7), fI_sV (c := 8), fI_sV (c := 9), fI_sV (c := 10), fI_sV (c := 11), fI_sV (c := 12), fI_sV (c := 6), fL_sV (c := 9), fL_sV (c := 12), fI_sV_k, fL_sV_k, fV_sV_k, fI_wF, fI_wG, fI_wR, fL_wF, fL_wG, fL_wR, fV_wF, fV_wG, fV_wR, aF_sV, aG_sV, aR_sV, aF_wG, aF_wR, aG_wF, aG_wR, aR_wF, aR_wG, gM g]
  refine c_cutOf g sm h1 h2 h3 m0 m1 hn hN (fun y hy => ?_)
  dsimp only [jrI]
  cases b
  · simp (decide := true) only [jgI_ob, jgf_ob, jgL_ob, jpI_ob, jpL_ob, jpR_ob, jpN_ob, jrc_ob, obj_sV, obj_wF, obj_wG, obj_wR, arr_sV, arr_wF, arr_wG, arr_wR, arL_sV, arL_wF, arL_wG, arL_wR, arR_sV, arR_wF, arR_wG, arR_wR, fI_sV (c := 0), fI_sV (c := 1), fI_sV (c := 2), fI_sV (c := 4), fI_sV (c := 5), fI_sV (c := 7), fI_sV (c := 8), fI_sV (c := 9), fI_sV (c := 10), fI_sV (c := 11), fI_sV (c := 12), fI_sV (c := 6), fL_sV (c := 9), fL_sV (c := 12), fI_sV_k, fL_sV_k, fV_sV_k, fI_wF, fI_wG, fI_wR, fL_wF, fL_wG, fL_wR, fV_wF, fV_wG, fV_wR, aF_sV, aG_sV, aR_sV, aF_wG, aF_wR, aG_wF, aG_wR, aR_wF, aR_wG, kC, kM, gM g, gN g, fV_sV_k, iv, ti_clamp, h1, Int.toNat_natCast, e1, bi_f, jif_T, ti_lt, tl, true_and]
    simp only [Bool.false_eq_true, if_false] at H0 H1
    have e : (y + fI h 81 14).toInt = ct f t fl n + (fI h 81 14).toInt := (by simp only [Int32.toInt_add, Int32.toInt_sub, Int32.toInt_mul, Int32.toInt_neg, Int.bmod_def, tl]; omega)
    exact ⟨fun c => H0 (by omega), fun c => ⟨fun c2 => H0 (by omega), fun c2 => H1 _ (by omega) (by omega) e⟩⟩
  · simp (decide := true) only [jgI_ob, jgf_ob, jgL_ob, jpI_ob, jpL_ob, jpR_ob, jpN_ob, jrc_ob, obj_sV, obj_wF, obj_wG, obj_wR, arr_sV, arr_wF, arr_wG, arr_wR, arL_sV, arL_wF, arL_wG, arL_wR, arR_sV, arR_wF, arR_wG, arR_wR, fI_sV (c := 0), fI_sV (c := 1), fI_sV (c := 2), fI_sV (c := 4), fI_sV (c := 5), fI_sV (c := 7), fI_sV (c := 8), fI_sV (c := 9), fI_sV (c := 10), fI_sV (c := 11), fI_sV (c := 12), fI_sV (c := 6), fL_sV (c := 9), fL_sV (c := 12), fI_sV_k, fL_sV_k, fV_sV_k, fI_wF, fI_wG, fI_wR, fL_wF, fL_wG, fL_wR, fV_wF, fV_wG, fV_wR, aF_sV, aG_sV, aR_sV, aF_wG, aF_wR, aG_wF, aG_wR, aR_wF, aR_wG, kC, kM, gM g, gN g, fV_sV_k, iv, ti_clamp, h1, Int.toNat_natCast, e1, bi_t, jif_F, ti_lt, tl, true_and]
    simp only [if_true, Int.add_zero] at H0 H1
    have e : (y + 0).toInt = ct f t fl n := (by simp only [Int32.toInt_add, Int32.toInt_sub, Int32.toInt_mul, Int32.toInt_neg, Int.bmod_def, tl]; omega)
    exact ⟨fun c => H0 (by omega), fun c => ⟨fun c2 => H0 (by omega), fun c2 => H1 _ (by omega) (by omega) e⟩⟩
theorem c_slideTo (g : G h) {a e : Int32} (H0 : (a.toInt < -4096 ∨ 4096 < a.toInt) → Q (some (.int 0)) h) (H1 : -4096 ≤ a.toInt → a.toInt ≤ 4096 → Q (some (.int 1)) (sV (sV h 81 14 (.int a)) 81 16 (.int e))) : jex X (d + 1) 153 [.ref 81, .int a, .int e] h Q := by
  rw [jE_X12_slideTo]
  refine jT_X12_slideTo_0 ?_
  simp (decide := true) only [jgI_ob, jgf_ob, jgL_ob, jpI_ob, jpL_ob, jpR_ob, jpN_ob, jrc_ob, obj_sV, obj_wF, obj_wG, obj_wR, arr_sV, arr_wF, arr_wG, arr_wR, arL_sV, arL_wF, arL_wG, arL_wR, arR_sV, arR_wF, arR_wG, arR_wR, fI_sV (c := 0), fI_sV (c := 1), fI_sV (c := 2), fI_sV (c := 4), fI_sV (c := 5), fI_sV (c := 7), fI_sV (c := 8), fI_sV (c := 9), fI_sV (c := 10), fI_sV (c := 11), fI_sV (c := 12), fI_sV (c := 6), fL_sV (c := 9), fL_sV (c := 12), fI_sV_k, fL_sV_k, fV_sV_k, fI_wF, fI_wG, fI_wR, fL_wF, fL_wG, fL_wR, fV_wF, fV_wG, fV_wR, aF_sV, aG_sV, aR_sV, aF_wG, aF_wR, aG_wF, aG_wR, aR_wF, aR_wG, gM g, ti_lt, tl, true_and]
  exact ⟨fun c => H0 (by omega), fun c => ⟨fun c2 => H0 (by omega), fun c2 => H1 (by omega) (by omega)⟩⟩
def mkx (h : JH) (b : Bool) : Int := (fI h 81 15).toInt - (if b then 0 else (fI h 81 14).toInt)
def mkq (h : JH) (b : Bool) : Int := (fI h 81 11).toInt + (fI h 81 17).toInt + (if b then 0 else (fI h 81 16).toInt)
theorem c_looks (g : G h) (sm : SM h k b f t fl) {a1 : Int32} (h1 : a1.toInt = k) (s0 : -4096 ≤ (fI h 81 14).toInt) (s1 : (fI h 81 14).toInt ≤ 4096) (h0 : 0 ≤ (fI h 81 15).toInt) (h4 : (fI h 81 15).toInt ≤ 4096) (e0 : 0 ≤ (fI h 81 11).toInt) (e1 : (fI h 81 11).toInt ≤ 40) (u0 : 0 ≤ (fI h 81 16).toInt) (u1 : (fI h 81 16).toInt ≤ 1000000) (v0 : 0 ≤ (fI h 81 17).toInt) (v1 : (fI h 81 17).toInt ≤ 1000000) (H0 : (mkx h b < 0 ∨ 4096 < mkx h b) → Q (some (.int 0)) h) (H1 : ∀ (h2 : JH) (a l u : Nat), fr [89] [] h h2 → 0 ≤ mkx h b → mkx h b ≤ 4096 → SEEN (gp f t fl (mkx h b)) (900 * f) (mkq h b) a l u → (aF h2 89 0).toInt = enc a → (aF h2 89 1).toInt = enc l → (aF h2 89 2).toInt = enc u → Q (some (.int 1)) h2) : jex X (d + 4) 159 [.ref 81, .int a1] h Q := by
  obtain ⟨k1, f1, f3, z1, z2, z3, hv, hf⟩ := id sm
  have iv : vp_in a1 32 := by rw [vp_inI]; omega
  unfold mkx mkq at *
  rw [jE_X12_looks]
  refine jT_X12_looks_0 ?_
  cases b
  · simp (decide := true) only [jgI_ob, jgf_ob, jgL_ob, jpI_ob, jpL_ob, jpR_ob, jpN_ob, jrc_ob, obj_sV, obj_wF, obj_wG, obj_wR, arr_sV, arr_wF, arr_wG, arr_wR, arL_sV, arL_wF, arL_wG, arL_wR, arR_sV, arR_wF, arR_wG, arR_wR, fI_sV (c := 0), fI_sV (c := 1), fI_sV (c := 2), fI_sV (c := 4), fI_sV (c := 5), fI_sV (c := 7), fI_sV (c := 8), fI_sV (c := 9), fI_sV (c := 10), fI_sV (c := 11), fI_sV (c := 12), fI_sV (c := 6), fL_sV (c := 9), fL_sV (c := 12), fI_sV_k, fL_sV_k, fV_sV_k, fI_wF, fI_wG, fI_wR, fL_wF, fL_wG, fL_wR, fV_wF, fV_wG, fV_wR, aF_sV, aG_sV, aR_sV, aF_wG, aF_wR, aG_wF, aG_wR, aR_wF, aR_wG, kC, kM, gM g, gN g, iv, ti_clamp, h1, Int.toNat_natCast, z1, bi_f, jif_T, ti_lt, tl, true_and]
    simp only [Bool.false_eq_true, if_false] at H0 H1
    have ex : (fI h 81 15 - fI h 81 14).toInt = (fI h 81 15).toInt - (fI h 81 14).toInt := (by simp only [Int32.toInt_add, Int32.toInt_sub, Int32.toInt_mul, Int32.toInt_neg, Int.bmod_def, tl]; omega)
    have eq : (fI h 81 11 + fI h 81 17 + fI h 81 16).toInt = (fI h 81 11).toInt + (fI h 81 17).toInt + (fI h 81 16).toInt := (by simp only [Int32.toInt_add, Int32.toInt_sub, Int32.toInt_mul, Int32.toInt_neg, Int.bmod_def, tl]; omega)
    refine ⟨fun c => H0 (by omega), fun c => ⟨fun c2 => H0 (by omega), fun c2 => ?_⟩⟩
    refine c_see g sm h1 (by omega) (by omega) (fun h2 a l u hf1 hs i5 i6 i7 => ?_)
    rw [ex, eq] at hs
    exact H1 h2 a l u hf1 (by omega) (by omega) hs i5 i6 i7
  · simp (decide := true) only [jgI_ob, jgf_ob, jgL_ob, jpI_ob, jpL_ob, jpR_ob, jpN_ob, jrc_ob, obj_sV, obj_wF, obj_wG, obj_wR, arr_sV, arr_wF, arr_wG, arr_wR, arL_sV, arL_wF, arL_wG, arL_wR, arR_sV, arR_wF, arR_wG, arR_wR, fI_sV (c := 0), fI_sV (c := 1), fI_sV (c := 2), fI_sV (c := 4), fI_sV (c := 5), fI_sV (c := 7), fI_sV (c := 8), fI_sV (c := 9), fI_sV (c := 10), fI_sV (c := 11), fI_sV (c := 12), fI_sV (c := 6), fL_sV (c := 9), fL_sV (c := 12), fI_sV_k, fL_sV_k, fV_sV_k, fI_wF, fI_wG, fI_wR, fL_wF, fL_wG, fL_wR, fV_wF, fV_wG, fV_wR, aF_sV, aG_sV, aR_sV, aF_wG, aF_wR, aG_wF, aG_wR, aR_wF, aR_wG, kC, kM, gM g, gN g, iv, ti_clamp, h1, Int.toNat_natCast, z1, bi_t, jif_F, ti_lt, tl, true_and]
    simp only [if_true, Int.sub_zero, Int.add_zero] at H0 H1
    have eq : (fI h 81 11 + fI h 81 17 + 0).toInt = (fI h 81 11).toInt + (fI h 81 17).toInt := (by simp only [Int32.toInt_add, Int32.toInt_sub, Int32.toInt_mul, Int32.toInt_neg, Int.bmod_def, tl]; omega)
    refine ⟨fun c => H0 (by omega), fun c => ⟨fun c2 => H0 (by omega), fun c2 => ?_⟩⟩
    refine c_see g sm h1 (by omega) (by omega) (fun h2 a l u hf1 hs i5 i6 i7 => ?_)
    rw [eq] at hs
    exact H1 h2 a l u hf1 (by omega) (by omega) hs i5 i6 i7
end HAND
