/-! TOKENS: the class's -/
def bt (h : JH) (i : Nat) : Int := (aF h 8 i).toInt
/-- the class's tape: N bytes -/
def TB (h : JH) (N : Nat) : Prop := fI h 7 1 = nI N ∧ N ≤ 2000 ∧ ∀ i, i < N → 0 ≤ bt h i ∧ bt h i ≤ 255
def byO (t : Nat → Int) (N i : Nat) : Int := if i < N then t i else -1
def TF : List (Nat × Nat) := [(7, 3), (7, 4), (7, 5), (7, 6), (7, 7), (7, 8), (7, 9)]
/-- the token that was cut -/
def TC (h : JH) (t : Nat → Int) (N b : Nat) : Prop := fI h 7 4 = nI b ∧ fI h 7 3 = nI (tkZ t N b) ∧ (tkK t N b = 2 → fL h 7 5 = lN (c27 t b (tkE tkL t N b - b))) ∧ (tkK t N b = 3 → fI h 7 6 = nI (dgs t N b) ∧ fI h 7 7 = zI (dpl t N b) ∧ fI h 7 8 = nI (whl t b (ptE t N b - b)) ∧ fI h 7 9 = bi (ptd t N b))
def kwC (k : Nat) : Nat := if k = 4 then 8903 else if k = 5 then 261256151 else if k = 6 then 4027 else if k = 7 then 249 else if k = 8 then 284147782 else if k = 9 then 107681 else if k = 10 then 282078293 else if k = 11 then 74417 else if k = 12 then 365654 else if k = 13 then 10793335 else if k = 14 then 311436 else 0
theorem wd_tab : ∀ k, 4 ≤ k → k ≤ 14 → wdK 11 k = lN (kwC k) := by
  have h : ∀ k, k < 15 → 4 ≤ k → wdK 11 k = lN (kwC k) := by decide +kernel
  exact fun k h1 h2 => h k (by omega) h1
theorem lN_big {a b : Nat} (ha : a < 9223372036854775808) (hb : b < 9223372036854775808) : lN a = lN b ↔ a = b := by
  constructor
  · intro e
    have e2 := congrArg Int64.toInt e
    unfold lN at e2
    rw [Int64.toInt_ofNat_of_lt ha, Int64.toInt_ofNat_of_lt hb] at e2
    omega
  · intro e; rw [e]
theorem byO_t {t : Nat → Int} {N i : Nat} (h : i < N) : byO t N i = t i := if_pos h
theorem byO_n {t : Nat → Int} {N i : Nat} (h : ¬ i < N) : byO t N i = -1 := if_neg h
theorem byO_P {P : Int → Bool} {t : Nat → Int} {N i : Nat} (hP : P (-1) = false) : (P (byO t N i) = true ↔ i < N ∧ P (t i) = true) := by
  by_cases c : i < N
  · rw [byO_t c]; exact ⟨fun e => ⟨c, e⟩, fun e => e.2⟩
  · rw [byO_n c, hP]; exact ⟨fun e => (by cases e), fun e => absurd e.1 c⟩
theorem byO_go {P : Int → Bool} {t : Nat → Int} {N i : Nat} (hP : P (-1) = false) (h : P (byO t N i) = true) : i < N ∧ P (t i) = true ∧ tkE P t N i = tkE P t N (i + 1) := by
  have a := (byO_P hP).1 h
  exact ⟨a.1, a.2, tkE_go a.1 a.2⟩
theorem byO_st {P : Int → Bool} {t : Nat → Int} {N i : Nat} (hP : P (-1) = false) (h : P (byO t N i) = false) : tkE P t N i = i := by
  refine tkE_st (fun c => ?_)
  rw [byO_t c] at h
  exact h
section CTK
variable {X : JX} {d : Nat} {Q : JQ} {h : JH} {N : Nat}
theorem TB_fr {F : List (Nat × Nat)} {A : List Nat} {h1 : JH} (tb : TB h N) (k : fr A F h h1) (hF : (7, 1) ∉ F) (hA : 8 ∉ A) : TB h1 N ∧ bt h1 = bt h := by
  have e : bt h1 = bt h := by funext i; unfold bt; rw [frF k hA]
  refine ⟨⟨?_, tb.2.1, ?_⟩, e⟩
  · rw [frI k hF (by decide)]; exact tb.1
  · rw [e]; exact tb.2.2
theorem byO_r (tb : TB h N) (i : Nat) : -1 ≤ byO (bt h) N i ∧ byO (bt h) N i ≤ 255 := by
  by_cases c : i < N
  · rw [byO_t c]; have := tb.2.2 i c; omega
  · rw [byO_n c]; omega
theorem c_byteAt (g : G h) (tb : TB h N) {i : Nat} (hi : i < 10000) (H : ∀ x : Int32, x.toInt = byO (bt h) N i → Q (some (.int x)) h) : jex X (d + 1) 40 [.ref 7, .int (nI i)] h Q := by
  have hN := tb.2.1
  rw [jE_X9_byteAt]
  refine jT_X9_byteAt_0 (jif_n (nI_pos (by omega)) ?_)
  simp (decide := true) only [jgI_ob, jgf_ob, jgL_ob, jpI_ob, jpL_ob, jpR_ob, jpN_ob, jrc_ob, obj_sV, obj_wF, obj_wG, obj_wR, arr_sV, arr_wF, arr_wG, arr_wR, arL_sV, arL_wF, arL_wG, arL_wR, arR_sV, arR_wF, arR_wG, arR_wR, fI_sV (c := 0), fI_sV (c := 1), fI_sV (c := 2), fI_sV (c := 4), fI_sV (c := 5), fI_sV (c := 7), fI_sV (c := 8), fI_sV (c := 9), fI_sV (c := 10), fI_sV (c := 11), fI_sV (c := 12), fI_sV (c := 6), fL_sV (c := 9), fL_sV (c := 12), fI_sV_k, fL_sV_k, fV_sV_k, fI_wF, fI_wG, fI_wR, fL_wF, fL_wG, fL_wR, fV_wF, fV_wG, fV_wR, aF_sV, aG_sV, aR_sV, aF_wG, aF_wR, aG_wF, aG_wR, aR_wF, aR_wG, kC, kM, gO g, gF g, tb.1]
  by_cases c : i < N
  · refine jif_t (nI_lt c (by omega)) (jif_t (nI_lt (b := 2000) (by omega) (by omega)) ⟨by rw [vp_inI, nI_toInt (by omega)]; omega, ?_⟩)
    rw [nI_clamp (by omega)]
    exact H _ (byO_t (t := bt h) c).symm
  · exact jif_n (nI_nlt (by omega) (by omega)) (H _ (by rw [byO_n (t := bt h) c]; rfl))
theorem c_isBlank {x : Int32} (H1 : tkB x.toInt = true → Q (some (.int 1)) h) (H0 : tkB x.toInt = false → Q (some (.int 0)) h) : jex X (d + 1) 41 [.int x] h Q := by
  have h1 : (x.toInt = 9 ∨ x.toInt = 10 ∨ x.toInt = 13 ∨ x.toInt = 32) → Q (some (.int 1)) h := fun c => H1 (decide_eq_true c)
  have h0 : ¬ (x.toInt = 9 ∨ x.toInt = 10 ∨ x.toInt = 13 ∨ x.toInt = 32) → Q (some (.int 0)) h := fun c => H0 (decide_eq_false c)
  rw [jE_X9_isBlank]
  refine jT_X9_isBlank_0 ?_
  simp (decide := true) only [ti_eq, tl, true_and]
  repeat (first | (refine ⟨fun c => ?_, fun c => ?_⟩) | (exact h1 (by omega)) | (exact h0 (by omega)))
theorem c_isLetter {x : Int32} (H1 : tkL x.toInt = true → Q (some (.int 1)) h) (H0 : tkL x.toInt = false → Q (some (.int 0)) h) : jex X (d + 1) 42 [.int x] h Q := by
  have h1 : (97 ≤ x.toInt ∧ x.toInt ≤ 122) → Q (some (.int 1)) h := fun c => H1 (decide_eq_true c)
  have h0 : ¬ (97 ≤ x.toInt ∧ x.toInt ≤ 122) → Q (some (.int 0)) h := fun c => H0 (decide_eq_false c)
  rw [jE_X9_isLetter]
  refine jT_X9_isLetter_0 ?_
  simp (decide := true) only [ti_lt, tl, t4, true_and]
  repeat (first | (refine ⟨fun c => ?_, fun c => ?_⟩) | (exact h1 (by omega)) | (exact h0 (by omega)))
theorem c_isDigit {x : Int32} (H1 : tkD x.toInt = true → Q (some (.int 1)) h) (H0 : tkD x.toInt = false → Q (some (.int 0)) h) : jex X (d + 1) 44 [.int x] h Q := by
  have h1 : (48 ≤ x.toInt ∧ x.toInt ≤ 57) → Q (some (.int 1)) h := fun c => H1 (decide_eq_true c)
  have h0 : ¬ (48 ≤ x.toInt ∧ x.toInt ≤ 57) → Q (some (.int 0)) h := fun c => H0 (decide_eq_false c)
  rw [jE_X9_isDigit]
  refine jT_X9_isDigit_0 ?_
  simp (decide := true) only [ti_lt, tl, t4, true_and]
  repeat (first | (refine ⟨fun c => ?_, fun c => ?_⟩) | (exact h1 (by omega)) | (exact h0 (by omega)))
theorem c_digitsEnd (g : G h) (tb : TB h N) {i : Nat} (hi : i ≤ 2001) (H : Q (some (.int (nI (tkE tkD (bt h) N i)))) h) : jex X (d + 2) 46 [.ref 7, .int (nI i)] h Q := by
  have hN := tb.2.1
  have L : ∀ (r n : Nat) (o : Option Value) (c z : Nat), n + r = 2000 → tkE tkD (bt h) N i = tkE tkD (bt h) N (i + n) → jB_X9_digitsEnd_4 X (d + 1) Q 7 o (nI (i + n)) (nI n) h c z := by
    intro r
    induction r with
    | zero =>
      intro n o c z hn e
      rw [tkE_cap (i := i + n) (by omega)] at e
      rw [e] at H
      exact jT_X9_digitsEnd_4 (jif_n (nI_nlt (a := n) (b := 2000) (by omega) (by omega)) H)
    | succ r ih =>
      intro n o c z hn e
      refine jT_X9_digitsEnd_4 (jif_t (nI_lt (b := 2000) (by omega) (by omega)) ?_)
      rw [jrc_ob (by simp only [gO g])]
      refine c_byteAt g tb (by omega) (fun x hx => ?_)
      try dsimp only [jrI, jrN, jrA, jisr, jnul, jcat1]
      refine c_isDigit (fun q => ?_) (fun q => ?_)
      · rw [hx] at q
        have w := byO_go (by decide) q
        try dsimp only [jrI, jrN, jrA, jisr, jnul, jcat1]
        refine jif_n (by decide) ?_
        rw [nI_1, nI_1]
        exact ih (n + 1) _ _ _ (by omega) (by rw [e, w.2.2]; rfl)
      · rw [hx] at q
        try dsimp only [jrI, jrN, jrA, jisr, jnul, jcat1]
        refine jif_t rfl ?_
        rw [e, byO_st (by decide) q] at H
        exact H
  rw [jE_X9_digitsEnd]
  exact jT_X9_digitsEnd_0 (L 2000 0 _ _ _ (by omega) rfl)
theorem c_readWhole (g : G h) (tb : TB h N) {b p : Nat} (h4 : fI h 7 4 = nI b) (hb : b ≤ p) (hp : p ≤ N) (hl : p - b ≤ 4) (hd : ∀ i, b ≤ i → i < p → 48 ≤ bt h i ∧ bt h i ≤ 57) (H : ∀ h1, fr [] [(7, 8)] h h1 → fI h1 7 8 = nI (whl (bt h) b (p - b)) → Q none h1) : jex X (d + 2) 47 [.ref 7, .int (nI p)] h Q := by
  have hN := tb.2.1
  have L : ∀ (r n : Nat) (h1 : JH) (c z : Nat), b + n + r = p → fr [] [(7, 8)] h h1 → fI h1 7 8 = nI (whl (bt h) b n) → jB_X9_readWhole_10 X (d + 1) Q 7 (nI p) (nI (b + n)) h1 c z := by
    intro r
    induction r with
    | zero =>
      intro n h1 c z hn k e
      refine jT_X9_readWhole_10 (jif_n (nI_nlt (by omega) (by omega)) ?_)
      rw [show n = p - b by omega] at e
      exact H h1 k e
    | succ r ih =>
      intro n h1 c z hn k e
      have g1 := G_fr g rfl k
      obtain ⟨tb1, eb⟩ := TB_fr tb k (by decide) (by decide)
      have hw := whl_lt (t := bt h) (b := b) n (fun i hi => hd _ (by omega) (by omega))
      have hw4 : (10 : Nat) ^ n ≤ 10 ^ 3 := Nat.pow_le_pow_right (by decide) (by omega)
      have dg := hd (b + n) (by omega) (by omega)
      refine jT_X9_readWhole_10 (jif_t (nI_lt (by omega) (by omega)) ?_)
      rw [jgI_ob (c := 9) (by simp only [gO g1]) rfl, jrc_ob (by simp only [gO g1])]
      refine c_byteAt g1 tb1 (by omega) (fun x hx => ?_)
      rw [eb, byO_t (by omega)] at hx
      try dsimp only [jrI, jrN, jrA, jisr, jnul, jcat1]
      rw [jpI_ob (c := 9) (by simp only [gO g1]) rfl, e, nI_1]
      have ex : nI (whl (bt h) b n) * 10 + x - 48 = nI (whl (bt h) b (n + 1)) := by
        rw [ti_eq, nI_toInt (by show 10 * whl (bt h) b n + (bt h (b + n) - 48).toNat < _; omega)]
        have e1 : (nI (whl (bt h) b n)).toInt = whl (bt h) b n := nI_toInt (by omega)
        have e2 : (nI (whl (bt h) b n) * 10).toInt = 10 * (whl (bt h) b n : Int) := (by simp only [Int32.toInt_add, Int32.toInt_sub, Int32.toInt_mul, Int32.toInt_neg, Int.bmod_def, tl, t4]; omega)
        generalize nI (whl (bt h) b n) * 10 = y at e2
        have e3 : (y + x).toInt = 10 * (whl (bt h) b n : Int) + bt h (b + n) := (by simp only [Int32.toInt_add, Int32.toInt_sub, Int32.toInt_mul, Int32.toInt_neg, Int.bmod_def, tl, t4]; omega)
        generalize y + x = y2 at e3
        have e4 : (y2 - 48).toInt = 10 * (whl (bt h) b n : Int) + bt h (b + n) - 48 := (by simp only [Int32.toInt_add, Int32.toInt_sub, Int32.toInt_mul, Int32.toInt_neg, Int.bmod_def, tl, t4]; omega)
        rw [e4]
        show _ = ((10 * whl (bt h) b n + (bt h (b + n) - 48).toNat : Nat) : Int)
        omega
      rw [ex]
      refine ih (n + 1) _ _ _ (by omega) (fr_sV (by decide) k) ?_
      simp (decide := true) only [jgI_ob, jgf_ob, jgL_ob, jpI_ob, jpL_ob, jpR_ob, jpN_ob, jrc_ob, obj_sV, obj_wF, obj_wG, obj_wR, arr_sV, arr_wF, arr_wG, arr_wR, arL_sV, arL_wF, arL_wG, arL_wR, arR_sV, arR_wF, arR_wG, arR_wR, fI_sV (c := 0), fI_sV (c := 1), fI_sV (c := 2), fI_sV (c := 4), fI_sV (c := 5), fI_sV (c := 7), fI_sV (c := 8), fI_sV (c := 9), fI_sV (c := 10), fI_sV (c := 11), fI_sV (c := 12), fI_sV (c := 6), fL_sV (c := 9), fL_sV (c := 12), fI_sV_k, fL_sV_k, fV_sV_k, fI_wF, fI_wG, fI_wR, fL_wF, fL_wG, fL_wR, fV_wF, fV_wG, fV_wR, aF_sV, aG_sV, aR_sV, aF_wG, aF_wR, aG_wF, aG_wR, aR_wF, aR_wG, gO g1]
  rw [jE_X9_readWhole]
  refine jT_X9_readWhole_0 ?_
  simp (decide := true) only [jgI_ob, jgf_ob, jgL_ob, jpI_ob, jpL_ob, jpR_ob, jpN_ob, jrc_ob, obj_sV, obj_wF, obj_wG, obj_wR, arr_sV, arr_wF, arr_wG, arr_wR, arL_sV, arL_wF, arL_wG, arL_wR, arR_sV, arR_wF, arR_wG, arR_wR, fI_sV (c := 0), fI_sV (c := 1), fI_sV (c := 2), fI_sV (c := 4), fI_sV (c := 5), fI_sV (c := 7), fI_sV (c := 8), fI_sV (c := 9), fI_sV (c := 10), fI_sV (c := 11), fI_sV (c := 12), fI_sV (c := 6), fL_sV (c := 9), fL_sV (c := 12), fI_sV_k, fL_sV_k, fV_sV_k, fI_wF, fI_wG, fI_wR, fL_wF, fL_wG, fL_wR, fV_wF, fV_wG, fV_wR, aF_sV, aG_sV, aR_sV, aF_wG, aF_wR, aG_wF, aG_wR, aR_wF, aR_wG, gO g, h4]
  refine L (p - b) 0 _ _ _ (by omega) (fr_sV (by decide) fr_rfl) ?_
  simp (decide := true) only [jgI_ob, jgf_ob, jgL_ob, jpI_ob, jpL_ob, jpR_ob, jpN_ob, jrc_ob, obj_sV, obj_wF, obj_wG, obj_wR, arr_sV, arr_wF, arr_wG, arr_wR, arL_sV, arL_wF, arL_wG, arL_wR, arR_sV, arR_wF, arR_wG, arR_wR, fI_sV (c := 0), fI_sV (c := 1), fI_sV (c := 2), fI_sV (c := 4), fI_sV (c := 5), fI_sV (c := 7), fI_sV (c := 8), fI_sV (c := 9), fI_sV (c := 10), fI_sV (c := 11), fI_sV (c := 12), fI_sV (c := 6), fL_sV (c := 9), fL_sV (c := 12), fI_sV_k, fL_sV_k, fV_sV_k, fI_wF, fI_wG, fI_wR, fL_wF, fL_wG, fL_wR, fV_wF, fV_wG, fV_wR, aF_sV, aG_sV, aR_sV, aF_wG, aF_wR, aG_wF, aG_wR, aR_wF, aR_wG, gO g]
  rfl
end CTK
