/-! WHAT THE CLASS READS OFF ITS WEIGHING -/
def BS (p : Nat → Bool) (V : Nat) (res : Int) : Prop := (p 0 = true ∧ res = -2) ∨ (p 0 = false ∧ (∀ v, v < V → p v = false) ∧ res = -2) ∨ (p 0 = false ∧ ∃ s : Nat, (∃ v, v < V ∧ p v = true) ∧ (∀ v, v < V → p v = true → (v - 1) / 640 = s) ∧ res = s) ∨ (p 0 = false ∧ ∃ v w : Nat, v < V ∧ w < V ∧ p v = true ∧ p w = true ∧ (v - 1) / 640 ≠ (w - 1) / 640 ∧ res = -2)
theorem BS_un {p : Nat → Bool} {V : Nat} {x y : Int} (hx : BS p V x) (hy : BS p V y) : x = y := by
  rcases hx with ⟨a1, a2⟩ | ⟨a1, a2, a3⟩ | ⟨a1, s, ⟨v, a2, a3⟩, a4, a5⟩ | ⟨a1, v, w, a2, a3, a4, a5, a6, a7⟩ <;> rcases hy with ⟨b1, b2⟩ | ⟨b1, b2, b3⟩ | ⟨b1, s', ⟨v', b2, b3⟩, b4, b5⟩ | ⟨b1, v', w', b2, b3, b4, b5, b6, b7⟩
  any_goals (rw [a1] at b1; cases b1)
  any_goals omega
  · rw [a2 v' b2] at b3; cases b3
  · rw [b2 v a2] at a3; cases a3
  · have := a4 v a2 a3; have := b4 v a2 a3; omega
  · have := a4 v' b2 b4; have := a4 w' b3 b5; omega
  · have := b4 v a2 a4; have := b4 w a3 a5; omega
def odd1 (kn : Nat → Bool) (G : Nat → Nat) : Nat → Int
  | 0 => -1
  | k + 1 => if kn k = true ∧ (odd1 kn G k = -1 ∨ G (odd1 kn G k).toNat < G k) then (k : Int) else odd1 kn G k
theorem odd1_rg {kn : Nat → Bool} {G : Nat → Nat} : ∀ k, odd1 kn G k = -1 ∨ (0 ≤ odd1 kn G k ∧ odd1 kn G k < k ∧ kn (odd1 kn G k).toNat = true)
  | 0 => Or.inl rfl
  | k + 1 => by
    unfold odd1
    split
    · rename_i h
      right
      refine ⟨by omega, by omega, ?_⟩
      rw [Int.toNat_natCast]
      exact h.1
    · rcases odd1_rg (kn := kn) (G := G) k with h | h
      · exact Or.inl h
      · exact Or.inr ⟨h.1, by omega, h.2.2⟩
theorem odd1_cg {kn : Nat → Bool} {G G' : Nat → Nat} (H : ∀ a b, kn a = true → kn b = true → (G a < G b ↔ G' a < G' b)) : ∀ k, odd1 kn G k = odd1 kn G' k
  | 0 => rfl
  | k + 1 => by
    have ih := odd1_cg H k
    unfold odd1
    rw [ih]
    by_cases c : kn k = true
    · rcases odd1_rg (kn := kn) (G := G') k with h | h
      · rw [if_pos ⟨c, Or.inl h⟩, if_pos ⟨c, Or.inl h⟩]
      · have := H _ _ h.2.2 c
        by_cases c2 : G (odd1 kn G' k).toNat < G k
        · rw [if_pos ⟨c, Or.inr c2⟩, if_pos ⟨c, Or.inr (this.mp c2)⟩]
        · rw [if_neg (fun q => q.2.elim (fun e => by omega) c2), if_neg (fun q => q.2.elim (fun e => by omega) (fun e => c2 (this.mpr e)))]
    · rw [if_neg (fun q => c q.1), if_neg (fun q => c q.1)]
theorem odd1_ext {kn : Nat → Bool} {G : Nat → Nat} {N : Nat} (h : ∀ k, kn k = true → k < N) : ∀ k, odd1 kn G (N + k) = odd1 kn G N
  | 0 => rfl
  | k + 1 => by
    have st : odd1 kn G (N + (k + 1)) = if kn (N + k) = true ∧ (odd1 kn G (N + k) = -1 ∨ G (odd1 kn G (N + k)).toNat < G (N + k)) then ((N + k : Nat) : Int) else odd1 kn G (N + k) := rfl
    rw [st, if_neg (fun q => by have := h _ q.1; omega)]
    exact odd1_ext h k
section GCC
variable {X : JX} {d : Nat} {Q : JQ} {h : JH} {V : Nat} {p : Nat → Bool}
theorem c_fitting (g : G h) (hV : (fI h 71 9).toInt = V) (hV2 : V ≤ 5121) (hp : ∀ v, v < V → ((aF h 78 v).toInt = 0 ↔ p v = true)) (H : ∀ r : Int32, r.toInt = cnt p V → Q (some (.int r)) h) : jex X (d + 1) 285 [.ref 71] h Q := by
  have L : ∀ (j v : Nat) (a1 a2 : Int32) (c z : Nat), j + v = V → a2.toInt = v → a1.toInt = cnt p v → jB_X0_fitting_4 X d Q 71 a1 a2 h c z := by
    intro j
    induction j with
    | zero =>
      intro v a1 a2 c z hj h2 h1
      refine jT_X0_fitting_4 ?_
      simp (decide := true) only [jgI_ob, jgf_ob, jgL_ob, jpI_ob, jpL_ob, jpR_ob, jpN_ob, jrc_ob, obj_sV, obj_wF, obj_wG, obj_wR, arr_sV, arr_wF, arr_wG, arr_wR, arL_sV, arL_wF, arL_wG, arL_wR, arR_sV, arR_wF, arR_wG, arR_wR, fI_sV (c := 0), fI_sV (c := 1), fI_sV (c := 2), fI_sV (c := 4), fI_sV (c := 5), fI_sV (c := 7), fI_sV (c := 8), fI_sV (c := 9), fI_sV (c := 10), fI_sV (c := 11), fI_sV (c := 12), fI_sV (c := 6), fL_sV (c := 9), fL_sV (c := 12), fI_sV_k, fL_sV_k, fV_sV_k, fI_wF, fI_wG, fI_wR, fL_wF, fL_wG, fL_wR, fV_wF, fV_wG, fV_wR, aF_sV, aG_sV, aR_sV, aF_wG, aF_wR, aG_wF, aG_wR, aR_wF, aR_wG, kC, kM, gO g, gF g, ti_lt]
      refine jif_n (by omega) (H _ ?_)
      rw [h1, show v = V by omega]
    | succ j ih =>
      intro v a1 a2 c z hj h2 h1
      have b := cnt_le p v
      have h2' : (a2 + 1).toInt = ((v + 1 : Nat) : Int) := (by simp only [Int32.toInt_add, Int32.toInt_sub, Int32.toInt_mul, Int32.toInt_neg, Int.bmod_def, tl]; omega)
      have s : cnt p (v + 1) = cnt p v + (if p v = true then 1 else 0) := rfl
      refine jT_X0_fitting_4 ?_
      simp (decide := true) only [jgI_ob, jgf_ob, jgL_ob, jpI_ob, jpL_ob, jpR_ob, jpN_ob, jrc_ob, obj_sV, obj_wF, obj_wG, obj_wR, arr_sV, arr_wF, arr_wG, arr_wR, arL_sV, arL_wF, arL_wG, arL_wR, arR_sV, arR_wF, arR_wG, arR_wR, fI_sV (c := 0), fI_sV (c := 1), fI_sV (c := 2), fI_sV (c := 4), fI_sV (c := 5), fI_sV (c := 7), fI_sV (c := 8), fI_sV (c := 9), fI_sV (c := 10), fI_sV (c := 11), fI_sV (c := 12), fI_sV (c := 6), fL_sV (c := 9), fL_sV (c := 12), fI_sV_k, fL_sV_k, fV_sV_k, fI_wF, fI_wG, fI_wR, fL_wF, fL_wG, fL_wR, fV_wF, fV_wG, fV_wR, aF_sV, aG_sV, aR_sV, aF_wG, aF_wR, aG_wF, aG_wR, aR_wF, aR_wG, kC, kM, gO g, gF g, ti_lt, ti_eq, ti_clamp, h2, Int.toNat_natCast, vp_inI, tl]
      refine jif_t (by omega) ⟨by omega, fun c1 => ?_, fun c1 => ?_⟩
      · have e := (hp v (by omega)).mp c1
        rw [if_pos e] at s
        exact ih (v + 1) _ _ _ _ (by omega) h2' (by simp only [Int32.toInt_add, Int32.toInt_sub, Int32.toInt_mul, Int32.toInt_neg, Int.bmod_def, tl]; omega)
      · have e : ¬ p v = true := fun q => c1 ((hp v (by omega)).mpr q)
        rw [if_neg e] at s
        exact ih (v + 1) _ _ _ _ (by omega) h2' (by omega)
  rw [jE_X0_fitting]
  exact jT_X0_fitting_0 (L V 0 0 0 _ _ (by omega) rfl rfl)
theorem c_fittingAt (g : G h) (hV : (fI h 71 9).toInt = V) (hV2 : V ≤ 5121) (hp : ∀ v, v < V → ((aF h 78 v).toInt = 0 ↔ p v = true)) {i : Nat} {a : Int32} (ha : a.toInt = i) (H0 : cnt p V ≤ i → Q (some (.int (-1))) h) (H1 : ∀ (r : Int32) (v : Nat), v < V → p v = true → cnt p v = i → r.toInt = v → Q (some (.int r)) h) : jex X (d + 1) 293 [.ref 71, .int a] h Q := by
  have L : ∀ (j v : Nat) (a2 a3 : Int32) (o : Option Value) (c z : Nat), j + v = V → a3.toInt = v → a2.toInt = (i : Int) - cnt p v → cnt p v ≤ i → jB_X0_fittingAt_4 X d Q 71 o a2 a3 h c z := by
    intro j
    induction j with
    | zero =>
      intro v a2 a3 o c z hj h3 h2 hl
      refine jT_X0_fittingAt_4 ?_
      simp (decide := true) only [jgI_ob, jgf_ob, jgL_ob, jpI_ob, jpL_ob, jpR_ob, jpN_ob, jrc_ob, obj_sV, obj_wF, obj_wG, obj_wR, arr_sV, arr_wF, arr_wG, arr_wR, arL_sV, arL_wF, arL_wG, arL_wR, arR_sV, arR_wF, arR_wG, arR_wR, fI_sV (c := 0), fI_sV (c := 1), fI_sV (c := 2), fI_sV (c := 4), fI_sV (c := 5), fI_sV (c := 7), fI_sV (c := 8), fI_sV (c := 9), fI_sV (c := 10), fI_sV (c := 11), fI_sV (c := 12), fI_sV (c := 6), fL_sV (c := 9), fL_sV (c := 12), fI_sV_k, fL_sV_k, fV_sV_k, fI_wF, fI_wG, fI_wR, fL_wF, fL_wG, fL_wR, fV_wF, fV_wG, fV_wR, aF_sV, aG_sV, aR_sV, aF_wG, aF_wR, aG_wF, aG_wR, aR_wF, aR_wG, kC, kM, gO g, gF g, ti_lt]
      refine jif_n (by omega) (H0 ?_)
      rw [← show v = V by omega]; exact hl
    | succ j ih =>
      intro v a2 a3 o c z hj h3 h2 hl
      have b := cnt_le p v
      have b2 := ti_hi a
      have h3' : (a3 + 1).toInt = ((v + 1 : Nat) : Int) := (by simp only [Int32.toInt_add, Int32.toInt_sub, Int32.toInt_mul, Int32.toInt_neg, Int.bmod_def, tl]; omega)
      have s : cnt p (v + 1) = cnt p v + (if p v = true then 1 else 0) := rfl
      refine jT_X0_fittingAt_4 ?_
      simp (decide := true) only [jgI_ob, jgf_ob, jgL_ob, jpI_ob, jpL_ob, jpR_ob, jpN_ob, jrc_ob, obj_sV, obj_wF, obj_wG, obj_wR, arr_sV, arr_wF, arr_wG, arr_wR, arL_sV, arL_wF, arL_wG, arL_wR, arR_sV, arR_wF, arR_wG, arR_wR, fI_sV (c := 0), fI_sV (c := 1), fI_sV (c := 2), fI_sV (c := 4), fI_sV (c := 5), fI_sV (c := 7), fI_sV (c := 8), fI_sV (c := 9), fI_sV (c := 10), fI_sV (c := 11), fI_sV (c := 12), fI_sV (c := 6), fL_sV (c := 9), fL_sV (c := 12), fI_sV_k, fL_sV_k, fV_sV_k, fI_wF, fI_wG, fI_wR, fL_wF, fL_wG, fL_wR, fV_wF, fV_wG, fV_wR, aF_sV, aG_sV, aR_sV, aF_wG, aF_wR, aG_wF, aG_wR, aR_wF, aR_wG, kC, kM, gO g, gF g, ti_lt, ti_eq, ti_clamp, h3, Int.toNat_natCast, vp_inI, tl]
      refine jif_t (by omega) ⟨by omega, fun c1 => ⟨fun c2 => ?_, fun c2 => ?_⟩, fun c1 => ?_⟩
      · exact H1 _ v (by omega) ((hp v (by omega)).mp c1) (by omega) h3
      · have e := (hp v (by omega)).mp c1
        rw [if_pos e] at s
        have m1 : (a2 + (-1)).toInt = a2.toInt - 1 := (by simp only [Int32.toInt_add, Int32.toInt_sub, Int32.toInt_mul, Int32.toInt_neg, Int.bmod_def, tl]; omega)
        have m3 : cnt p v + 1 ≤ i := by
          rcases Nat.lt_or_ge (cnt p v) i with q | q
          · exact q
          · exact absurd (by rw [h2, Nat.le_antisymm hl q]; exact Int.sub_self _) c2
        rw [← s] at m3
        have m2 : (a2 + (-1)).toInt = (i : Int) - (cnt p (v + 1) : Nat) := by
          rw [m1, s, h2]
          clear b2 m1 h2
          omega
        exact ih (v + 1) _ _ _ _ _ (by omega) h3' m2 m3
      · have e : ¬ p v = true := fun q => c1 ((hp v (by omega)).mpr q)
        rw [if_neg e] at s
        have m2 : a2.toInt = (i : Int) - (cnt p (v + 1) : Nat) := by rw [s]; omega
        have m3 : cnt p (v + 1) ≤ i := by rw [s]; omega
        exact ih (v + 1) _ _ _ _ _ (by omega) h3' m2 m3
  rw [jE_X0_fittingAt]
  exact jT_X0_fittingAt_0 (L V 0 a 0 _ _ _ (by omega) rfl (by rw [ha]; show (i : Int) = i - ((0 : Nat) : Int); omega) (Nat.zero_le _))
theorem c_guessPart {a w : Int32} {v : Nat} (hv : v ≤ 5120) (ha : a.toInt = v) (w0 : 0 ≤ w.toInt) (w2 : w.toInt ≤ 2) (H : ∀ r : Int32, (v = 0 → r.toInt = if w.toInt = 0 then -2 else 0) → (v ≠ 0 → r.toInt = if w.toInt = 0 then gs v / 16 else if w.toInt = 1 then gs v % 16 else gd v) → Q (some (.int r)) h) : jex X (d + 2) 294 [.ref 71, .int a, .int w] h Q := by
  rw [jE_X0_guessPart]
  refine jT_X0_guessPart_0 ?_
  simp (decide := true) only [ti_eq, tl, true_and]
  refine jif_n (by omega) ⟨fun c => ⟨fun c2 => H _ (fun _ => ?_) (fun q => absurd (by omega) q), fun c2 => H _ (fun _ => ?_) (fun q => absurd (by omega) q)⟩, fun c => ?_⟩
  · rw [if_pos c2]; rfl
  · rw [if_neg c2]; rfl
  · have c0 : v ≠ 0 := by omega
    have e1 : (a - 1).toInt = ((v - 1 : Nat) : Int) := (by simp only [Int32.toInt_add, Int32.toInt_sub, Int32.toInt_mul, Int32.toInt_neg, Int.bmod_def, tl]; omega)
    have e4 : ((a - 1) / 40).toInt = ((v - 1) / 40 : Nat) := by
      rw [ti_divp (by omega) (by decide), e1]; rfl
    have eg : gs v = (((v - 1) / 40 : Nat) : Int) := by unfold gs; rw [if_neg c0]
    have ed : gd v = flw ((v - 1) % 40) := by unfold gd; rw [if_neg c0]
    refine ⟨fun c2 => H _ (fun q => absurd q c0) (fun _ => ?_), fun c2 => ⟨fun c3 => H _ (fun q => absurd q c0) (fun _ => ?_), fun c3 => ?_⟩⟩
    · rw [if_pos c2, ti_divp (by omega) (by decide), e1, eg, show (640 : Int32).toInt = 640 from rfl]
      omega
    · rw [if_neg c2, if_pos c3, ti_remp (by omega) (by decide), e4, eg, show (16 : Int32).toInt = 16 from rfl]
    · have er : (a - 1 - (a - 1) / 40 * 40).toInt = (((v - 1) % 40 : Nat) : Int) := by
        rw [ti_remp (by omega) (by decide), e1]; rfl
      refine c_flawAt er (Nat.mod_lt _ (by decide)) (fun r hr => H _ (fun q => absurd q c0) (fun _ => ?_))
      rw [if_neg c2, if_neg c3, hr, ed]
theorem c_blamed (g : G h) (hV : (fI h 71 9).toInt = V) (hV2 : V ≤ 5121) (hV1 : 1 ≤ V) (hp : ∀ v, v < V → ((aF h 78 v).toInt = 0 ↔ p v = true)) (H : ∀ r : Int32, BS p V r.toInt → Q (some (.int r)) h) : jex X (d + 3) 297 [.ref 71] h Q := by
  have L : ∀ (j v : Nat) (a1 a2 : Int32) (o : Option Value) (c z : Nat), j + v = V → a2.toInt = v → (v ≠ 0 → p 0 = false) → ((a1.toInt = -2 ∧ ∀ u, u < v → p u = false) ∨ ∃ s : Nat, a1.toInt = s ∧ (∃ u, u < v ∧ p u = true) ∧ ∀ u, u < v → p u = true → (u - 1) / 640 = s) → jB_X0_blamedScale_5 X (d + 2) Q 71 a1 a2 o h c z := by
    intro j
    induction j with
    | zero =>
      intro v a1 a2 o c z hj h2 h0 hI
      have hv : v = V := by omega
      subst hv
      refine jT_X0_blamedScale_5 ?_
      simp (decide := true) only [jgI_ob, jgf_ob, jgL_ob, jpI_ob, jpL_ob, jpR_ob, jpN_ob, jrc_ob, obj_sV, obj_wF, obj_wG, obj_wR, arr_sV, arr_wF, arr_wG, arr_wR, arL_sV, arL_wF, arL_wG, arL_wR, arR_sV, arR_wF, arR_wG, arR_wR, fI_sV (c := 0), fI_sV (c := 1), fI_sV (c := 2), fI_sV (c := 4), fI_sV (c := 5), fI_sV (c := 7), fI_sV (c := 8), fI_sV (c := 9), fI_sV (c := 10), fI_sV (c := 11), fI_sV (c := 12), fI_sV (c := 6), fL_sV (c := 9), fL_sV (c := 12), fI_sV_k, fL_sV_k, fV_sV_k, fI_wF, fI_wG, fI_wR, fL_wF, fL_wG, fL_wR, fV_wF, fV_wG, fV_wR, aF_sV, aG_sV, aR_sV, aF_wG, aF_wR, aG_wF, aG_wR, aR_wF, aR_wG, kC, kM, gO g, gF g, ti_lt]
      refine jif_n (by omega) (H _ ?_)
      rcases hI with ⟨i1, i2⟩ | ⟨s, i1, i2, i3⟩
      · exact Or.inr (Or.inl ⟨h0 (by omega), i2, i1⟩)
      · exact Or.inr (Or.inr (Or.inl ⟨h0 (by omega), s, i2, i3, i1⟩))
    | succ j ih =>
      intro v a1 a2 o c z hj h2 h0 hI
      have h2' : (a2 + 1).toInt = ((v + 1 : Nat) : Int) := (by simp only [Int32.toInt_add, Int32.toInt_sub, Int32.toInt_mul, Int32.toInt_neg, Int.bmod_def, tl]; omega)
      refine jT_X0_blamedScale_5 ?_
      simp (decide := true) only [jgI_ob, jgf_ob, jgL_ob, jpI_ob, jpL_ob, jpR_ob, jpN_ob, jrc_ob, obj_sV, obj_wF, obj_wG, obj_wR, arr_sV, arr_wF, arr_wG, arr_wR, arL_sV, arL_wF, arL_wG, arL_wR, arR_sV, arR_wF, arR_wG, arR_wR, fI_sV (c := 0), fI_sV (c := 1), fI_sV (c := 2), fI_sV (c := 4), fI_sV (c := 5), fI_sV (c := 7), fI_sV (c := 8), fI_sV (c := 9), fI_sV (c := 10), fI_sV (c := 11), fI_sV (c := 12), fI_sV (c := 6), fL_sV (c := 9), fL_sV (c := 12), fI_sV_k, fL_sV_k, fV_sV_k, fI_wF, fI_wG, fI_wR, fL_wF, fL_wG, fL_wR, fV_wF, fV_wG, fV_wR, aF_sV, aG_sV, aR_sV, aF_wG, aF_wR, aG_wF, aG_wR, aR_wF, aR_wG, kC, kM, gO g, gF g, ti_lt, ti_eq, ti_clamp, h2, Int.toNat_natCast, vp_inI, tl]
      refine jif_t (by omega) ⟨by omega, fun c1 => ?_, fun c1 => ?_⟩
      · have e := (hp v (by omega)).mp c1
        refine c_guessPart (v := v) (by omega) h2 (by decide) (by decide) (fun r r0 r1 => ?_)
        try dsimp only [jrI, jrN, jrA, jisr, jnul, jcat1]
        try simp only [ti_eq, tl]
        by_cases c0 : v = 0
        · refine jif_t (by rw [r0 c0]; rfl) (H _ (Or.inl ⟨by rw [← c0]; exact e, rfl⟩))
        · have r2 := r1 c0
          rw [if_pos (show (0 : Int32).toInt = 0 from rfl)] at r2
          have eg : gs v = (((v - 1) / 40 : Nat) : Int) := by unfold gs; rw [if_neg c0]
          have r3 : r.toInt = (((v - 1) / 640 : Nat) : Int) := by rw [r2, eg]; omega
          refine jif_n (by omega) ?_
          have nx : ∀ o c z, (∀ u, u < v → p u = true → (u - 1) / 640 = (v - 1) / 640) → jB_X0_blamedScale_5 X (d + 2) Q 71 r (a2 + 1) o h c z := fun o c z hu => by
            refine ih (v + 1) _ _ _ _ _ (by omega) h2' (fun _ => h0 c0) (Or.inr ⟨(v - 1) / 640, r3, ⟨v, by omega, e⟩, fun u hu2 hpu => ?_⟩)
            by_cases q : u = v
            · rw [q]
            · exact hu u (by omega) hpu
          rcases hI with ⟨i1, i2⟩ | ⟨s, i1, ⟨u, i2, i3⟩, i4⟩
          · exact jif_t i1 (nx _ _ _ (fun u hu hpu => by rw [i2 u hu] at hpu; cases hpu))
          · refine jif_n (by omega) ⟨fun q => nx _ _ _ (fun u hu hpu => by have := i4 u hu hpu; omega), fun q => H _ (Or.inr (Or.inr (Or.inr ⟨h0 c0, u, v, by omega, by omega, i3, e, ?_, rfl⟩)))⟩
            have := i4 u i2 i3
            omega
      · have e : p v = false := by
          cases q : p v
          · rfl
          · exact absurd ((hp v (by omega)).mpr q) c1
        refine ih (v + 1) _ _ _ _ _ (by omega) h2' (fun _ => ?_) ?_
        · by_cases c0 : v = 0
          · rw [← c0]; exact e
          · exact h0 c0
        · rcases hI with ⟨i1, i2⟩ | ⟨s, i1, ⟨u, i2, i3⟩, i4⟩
          · refine Or.inl ⟨i1, fun u hu => ?_⟩
            by_cases q : u = v
            · rw [q]; exact e
            · exact i2 u (by omega)
          · refine Or.inr ⟨s, i1, ⟨u, by omega, i3⟩, fun u' hu' hpu => ?_⟩
            by_cases q : u' = v
            · rw [q, e] at hpu; cases hpu
            · exact i4 u' (by omega) hpu
  rw [jE_X0_blamedScale]
  exact jT_X0_blamedScale_0 (L V 0 _ 0 _ _ _ (by omega) rfl (fun q => absurd rfl q) (Or.inl ⟨rfl, fun u hu => by omega⟩))
theorem c_oddOne (g : G h) {kn : Nat → Bool} {P : Nat → Nat → Bool} (hV : (fI h 71 9).toInt = V) (hV2 : V ≤ 5121) (hk : ∀ k, k < 80 → aF h 77 k = bi (kn k)) (h78 : ∀ v, v < V → (aF h 78 v).toInt = (cnt (P v) 80 : Nat)) (h79 : ∀ v, v < V → (aF h 79 v).toInt = (smm (P v) 80 : Nat)) (H : ∀ (h' : JH) (r : Int32), fr [80] [] h h' → r.toInt = odd1 kn (fun a => cnt (fun v => decide (cnt (P v) 80 = 1) && decide (smm (P v) 80 = a)) V) 80 → Q (some (.int r)) h') : jex X (d + 1) 300 [.ref 71] h Q := by
  have L3 : ∀ (j F : Nat) (h' : JH) (a1 a2 : Int32) (c z : Nat), j + F = 80 → a2.toInt = F → fr [80] [] h h' → (∀ k, k < 80 → (aF h' 80 k).toInt = (cnt (fun v => decide (cnt (P v) 80 = 1) && decide (smm (P v) 80 = k)) V : Nat)) → a1.toInt = odd1 kn (fun a => cnt (fun v => decide (cnt (P v) 80 = 1) && decide (smm (P v) 80 = a)) V) F → jB_X0_oddOne_84 X d Q 71 a1 a2 h' c z := by
    intro j
    induction j with
    | zero =>
      intro F h' a1 a2 c z hj h2 k eg e1
      have g' := G_fr g rfl k
      refine jT_X0_oddOne_84 ?_
      simp (decide := true) only [jgI_ob, jgf_ob, jgL_ob, jpI_ob, jpL_ob, jpR_ob, jpN_ob, jrc_ob, obj_sV, obj_wF, obj_wG, obj_wR, arr_sV, arr_wF, arr_wG, arr_wR, arL_sV, arL_wF, arL_wG, arL_wR, arR_sV, arR_wF, arR_wG, arR_wR, fI_sV (c := 0), fI_sV (c := 1), fI_sV (c := 2), fI_sV (c := 4), fI_sV (c := 5), fI_sV (c := 7), fI_sV (c := 8), fI_sV (c := 9), fI_sV (c := 10), fI_sV (c := 11), fI_sV (c := 12), fI_sV (c := 6), fL_sV (c := 9), fL_sV (c := 12), fI_sV_k, fL_sV_k, fV_sV_k, fI_wF, fI_wG, fI_wR, fL_wF, fL_wG, fL_wR, fV_wF, fV_wG, fV_wR, aF_sV, aG_sV, aR_sV, aF_wG, aF_wR, aG_wF, aG_wR, aR_wF, aR_wG, kC, kM, gO g', gF g', ti_lt, tn]
      refine jif_n (by omega) (H h' _ k ?_)
      rw [e1, show F = 80 by omega]
    | succ j ih =>
      intro F h' a1 a2 c z hj h2 k eg e1
      have g' := G_fr g rfl k
      have h2' : (a2 + 1).toInt = ((F + 1 : Nat) : Int) := (by simp only [Int32.toInt_add, Int32.toInt_sub, Int32.toInt_mul, Int32.toInt_neg, Int.bmod_def, tl]; omega)
      have iv : vp_in a2 80 := by rw [vp_inI]; omega
      have e77 : aF h' 77 F = bi (kn F) := by rw [frF k (by decide)]; exact hk F (by omega)
      have st : odd1 kn (fun a => cnt (fun v => decide (cnt (P v) 80 = 1) && decide (smm (P v) 80 = a)) V) (F + 1) = if kn F = true ∧ (odd1 kn (fun a => cnt (fun v => decide (cnt (P v) 80 = 1) && decide (smm (P v) 80 = a)) V) F = -1 ∨ cnt (fun v => decide (cnt (P v) 80 = 1) && decide (smm (P v) 80 = (odd1 kn (fun a => cnt (fun v => decide (cnt (P v) 80 = 1) && decide (smm (P v) 80 = a)) V) F).toNat)) V < cnt (fun v => decide (cnt (P v) 80 = 1) && decide (smm (P v) 80 = F)) V) then (F : Int) else odd1 kn (fun a => cnt (fun v => decide (cnt (P v) 80 = 1) && decide (smm (P v) 80 = a)) V) F := rfl
      have rg := odd1_rg (kn := kn) (G := fun a => cnt (fun v => decide (cnt (P v) 80 = 1) && decide (smm (P v) 80 = a)) V) F
      rw [← e1] at st rg
      refine jT_X0_oddOne_84 ?_
      simp (decide := true) only [jgI_ob, jgf_ob, jgL_ob, jpI_ob, jpL_ob, jpR_ob, jpN_ob, jrc_ob, obj_sV, obj_wF, obj_wG, obj_wR, arr_sV, arr_wF, arr_wG, arr_wR, arL_sV, arL_wF, arL_wG, arL_wR, arR_sV, arR_wF, arR_wG, arR_wR, fI_sV (c := 0), fI_sV (c := 1), fI_sV (c := 2), fI_sV (c := 4), fI_sV (c := 5), fI_sV (c := 7), fI_sV (c := 8), fI_sV (c := 9), fI_sV (c := 10), fI_sV (c := 11), fI_sV (c := 12), fI_sV (c := 6), fL_sV (c := 9), fL_sV (c := 12), fI_sV_k, fL_sV_k, fV_sV_k, fI_wF, fI_wG, fI_wR, fL_wF, fL_wG, fL_wR, fV_wF, fV_wG, fV_wR, aF_sV, aG_sV, aR_sV, aF_wG, aF_wR, aG_wF, aG_wR, aR_wF, aR_wG, kC, kM, gO g', gF g', ti_lt, ti_clamp, h2, Int.toNat_natCast, tn, iv, true_and, e77]
      refine jif_t (by omega) ?_
      cases ekn : kn F
      · refine jif_t rfl (ih (F + 1) h' _ _ _ _ (by omega) h2' k eg ?_)
        rw [st, if_neg (by rw [ekn]; simp)]
      · refine jif_n (by decide) ⟨fun c1 => ?_, fun c1 => ?_⟩
        · rw [ti_eq, show (-1 : Int32).toInt = -1 from rfl] at c1
          refine ih (F + 1) h' _ _ _ _ (by omega) h2' k eg ?_
          rw [st, if_pos ⟨ekn, Or.inl c1⟩]; exact h2
        · rw [ti_eq, show (-1 : Int32).toInt = -1 from rfl] at c1
          rcases rg with rg | rg
          · exact absurd rg c1
          · rw [eg F (by omega), eg _ (by omega)]
            refine ⟨by rw [vp_inI]; omega, fun c2 => ?_, fun c2 => ?_⟩
            · refine ih (F + 1) h' _ _ _ _ (by omega) h2' k eg ?_
              rw [st, if_pos ⟨ekn, Or.inr (by omega)⟩]; exact h2
            · refine ih (F + 1) h' _ _ _ _ (by omega) h2' k eg ?_
              rw [st, if_neg (fun q => q.2.elim (fun e => c1 e) (fun e => c2 (by omega)))]
  have L2 : ∀ (j v : Nat) (h' : JH) (a1 : Int32) (o : Option Value) (c z : Nat), j + v = V → a1.toInt = v → fr [80] [] h h' → (∀ k, k < 80 → (aF h' 80 k).toInt = (cnt (fun v => decide (cnt (P v) 80 = 1) && decide (smm (P v) 80 = k)) v : Nat)) → jB_X0_oddOne_26 X d Q 71 a1 o h' c z := by
    intro j
    induction j with
    | zero =>
      intro v h' a1 o c z hj h1 k eg
      have hv : v = V := by omega
      subst hv
      have g' := G_fr g rfl k
      have e9 : fI h' 71 9 = fI h 71 9 := frI k (by decide) (by decide)
      refine jT_X0_oddOne_26 ?_
      simp (decide := true) only [jgI_ob, jgf_ob, jgL_ob, jpI_ob, jpL_ob, jpR_ob, jpN_ob, jrc_ob, obj_sV, obj_wF, obj_wG, obj_wR, arr_sV, arr_wF, arr_wG, arr_wR, arL_sV, arL_wF, arL_wG, arL_wR, arR_sV, arR_wF, arR_wG, arR_wR, fI_sV (c := 0), fI_sV (c := 1), fI_sV (c := 2), fI_sV (c := 4), fI_sV (c := 5), fI_sV (c := 7), fI_sV (c := 8), fI_sV (c := 9), fI_sV (c := 10), fI_sV (c := 11), fI_sV (c := 12), fI_sV (c := 6), fL_sV (c := 9), fL_sV (c := 12), fI_sV_k, fL_sV_k, fV_sV_k, fI_wF, fI_wG, fI_wR, fL_wF, fL_wG, fL_wR, fV_wF, fV_wG, fV_wR, aF_sV, aG_sV, aR_sV, aF_wG, aF_wR, aG_wF, aG_wR, aR_wF, aR_wG, kC, kM, gO g', gF g', ti_lt, e9]
      exact jif_n (by omega) (L3 80 0 h' _ 0 _ _ rfl rfl k eg rfl)
    | succ j ih =>
      intro v h' a1 o c z hj h1 k eg
      have g' := G_fr g rfl k
      have e9 : fI h' 71 9 = fI h 71 9 := frI k (by decide) (by decide)
      have f78 : aF h' 78 = aF h 78 := frF k (by decide)
      have f79 : aF h' 79 = aF h 79 := frF k (by decide)
      have h1' : (a1 + 1).toInt = ((v + 1 : Nat) : Int) := (by simp only [Int32.toInt_add, Int32.toInt_sub, Int32.toInt_mul, Int32.toInt_neg, Int.bmod_def, tl]; omega)
      have iv : vp_in a1 5121 := by rw [vp_inI]; omega
      have q8 := h78 v (by omega)
      have q9 := h79 v (by omega)
      refine jT_X0_oddOne_26 ?_
      simp (decide := true) only [jgI_ob, jgf_ob, jgL_ob, jpI_ob, jpL_ob, jpR_ob, jpN_ob, jrc_ob, obj_sV, obj_wF, obj_wG, obj_wR, arr_sV, arr_wF, arr_wG, arr_wR, arL_sV, arL_wF, arL_wG, arL_wR, arR_sV, arR_wF, arR_wG, arR_wR, fI_sV (c := 0), fI_sV (c := 1), fI_sV (c := 2), fI_sV (c := 4), fI_sV (c := 5), fI_sV (c := 7), fI_sV (c := 8), fI_sV (c := 9), fI_sV (c := 10), fI_sV (c := 11), fI_sV (c := 12), fI_sV (c := 6), fL_sV (c := 9), fL_sV (c := 12), fI_sV_k, fL_sV_k, fV_sV_k, fI_wF, fI_wG, fI_wR, fL_wF, fL_wG, fL_wR, fV_wF, fV_wG, fV_wR, aF_sV, aG_sV, aR_sV, aF_wG, aF_wR, aG_wF, aG_wR, aR_wF, aR_wG, kC, kM, gO g', gF g', ti_lt, ti_clamp, h1, Int.toNat_natCast, tn, iv, true_and, e9, f78, f79, jcat1]
      refine jif_t (by omega) ⟨fun c1 => ?_, fun c1 => ?_⟩
      · rw [ti_eq, q8, show (1 : Int32).toInt = 1 from rfl] at c1
        have c1' : cnt (P v) 80 = 1 := by omega
        obtain ⟨b, b1, b2, b3, b4⟩ := cnt_1 80 c1'
        rw [b3] at q9
        simp (decide := true) only [q9, tl, Int.toNat_natCast]
        have gl := cnt_le (fun v => decide (cnt (P v) 80 = 1) && decide (smm (P v) 80 = b)) v
        have egb := eg b (by omega)
        have ms : (aF h' 80 b + 1).toInt = (aF h' 80 b).toInt + 1 := (by simp only [Int32.toInt_add, Int32.toInt_sub, Int32.toInt_mul, Int32.toInt_neg, Int.bmod_def, tl]; omega)
        refine jif_n (by omega) (jif_t (by omega) ⟨by rw [vp_inI]; omega, by rw [vp_inI]; omega, ?_⟩)
        refine ih (v + 1) _ _ _ _ _ (by omega) h1' (fr_wF (by decide) k) (fun q hq => ?_)
        simp (decide := true) only [jgI_ob, jgf_ob, jgL_ob, jpI_ob, jpL_ob, jpR_ob, jpN_ob, jrc_ob, obj_sV, obj_wF, obj_wG, obj_wR, arr_sV, arr_wF, arr_wG, arr_wR, arL_sV, arL_wF, arL_wG, arL_wR, arR_sV, arR_wF, arR_wG, arR_wR, fI_sV (c := 0), fI_sV (c := 1), fI_sV (c := 2), fI_sV (c := 4), fI_sV (c := 5), fI_sV (c := 7), fI_sV (c := 8), fI_sV (c := 9), fI_sV (c := 10), fI_sV (c := 11), fI_sV (c := 12), fI_sV (c := 6), fL_sV (c := 9), fL_sV (c := 12), fI_sV_k, fL_sV_k, fV_sV_k, fI_wF, fI_wG, fI_wR, fL_wF, fL_wG, fL_wR, fV_wF, fV_wG, fV_wR, aF_sV, aG_sV, aR_sV, aF_wG, aF_wR, aG_wF, aG_wR, aR_wF, aR_wG, kC, kM, gO g']
        have st : cnt (fun v => decide (cnt (P v) 80 = 1) && decide (smm (P v) 80 = q)) (v + 1) = cnt (fun v => decide (cnt (P v) 80 = 1) && decide (smm (P v) 80 = q)) v + (if (decide (cnt (P v) 80 = 1) && decide (smm (P v) 80 = q)) = true then 1 else 0) := rfl
        by_cases e : q = b
        · subst e
          rw [upd_s, st, if_pos (by rw [decide_eq_true c1', decide_eq_true b3]; rfl), ms, egb]
          omega
        · rw [upd_n e, st, if_neg (by rw [decide_eq_false (show ¬ smm (P v) 80 = q by omega)]; simp), eg q hq]
          omega
      · rw [ti_eq, q8, show (1 : Int32).toInt = 1 from rfl] at c1
        refine ih (v + 1) h' _ _ _ _ (by omega) h1' k (fun q hq => ?_)
        have st : cnt (fun v => decide (cnt (P v) 80 = 1) && decide (smm (P v) 80 = q)) (v + 1) = cnt (fun v => decide (cnt (P v) 80 = 1) && decide (smm (P v) 80 = q)) v + (if (decide (cnt (P v) 80 = 1) && decide (smm (P v) 80 = q)) = true then 1 else 0) := rfl
        rw [st, if_neg (by rw [decide_eq_false (show ¬ cnt (P v) 80 = 1 by omega)]; simp), eg q hq]
        omega
  have L1 : ∀ (j i : Nat) (h' : JH) (a1 : Int32) (o : Option Value) (c z : Nat), j + i = 80 → a1.toInt = i → fr [80] [] h h' → (∀ k, k < i → (aF h' 80 k).toInt = 0) → jB_X0_oddOne_2 X d Q 71 a1 o h' c z := by
    intro j
    induction j with
    | zero =>
      intro i h' a1 o c z hj h1 k eg
      have g' := G_fr g rfl k
      refine jT_X0_oddOne_2 ?_
      simp (decide := true) only [jgI_ob, jgf_ob, jgL_ob, jpI_ob, jpL_ob, jpR_ob, jpN_ob, jrc_ob, obj_sV, obj_wF, obj_wG, obj_wR, arr_sV, arr_wF, arr_wG, arr_wR, arL_sV, arL_wF, arL_wG, arL_wR, arR_sV, arR_wF, arR_wG, arR_wR, fI_sV (c := 0), fI_sV (c := 1), fI_sV (c := 2), fI_sV (c := 4), fI_sV (c := 5), fI_sV (c := 7), fI_sV (c := 8), fI_sV (c := 9), fI_sV (c := 10), fI_sV (c := 11), fI_sV (c := 12), fI_sV (c := 6), fL_sV (c := 9), fL_sV (c := 12), fI_sV_k, fL_sV_k, fV_sV_k, fI_wF, fI_wG, fI_wR, fL_wF, fL_wG, fL_wR, fV_wF, fV_wG, fV_wR, aF_sV, aG_sV, aR_sV, aF_wG, aF_wR, aG_wF, aG_wR, aR_wF, aR_wG, kC, kM, gO g', gF g', ti_lt, tn]
      exact jif_n (by omega) (L2 V 0 h' 0 _ _ _ (by omega) rfl k (fun q hq => eg q (by omega)))
    | succ j ih =>
      intro i h' a1 o c z hj h1 k eg
      have g' := G_fr g rfl k
      have h1' : (a1 + 1).toInt = ((i + 1 : Nat) : Int) := (by simp only [Int32.toInt_add, Int32.toInt_sub, Int32.toInt_mul, Int32.toInt_neg, Int.bmod_def, tl]; omega)
      have iv : vp_in a1 80 := by rw [vp_inI]; omega
      refine jT_X0_oddOne_2 ?_
      simp (decide := true) only [jgI_ob, jgf_ob, jgL_ob, jpI_ob, jpL_ob, jpR_ob, jpN_ob, jrc_ob, obj_sV, obj_wF, obj_wG, obj_wR, arr_sV, arr_wF, arr_wG, arr_wR, arL_sV, arL_wF, arL_wG, arL_wR, arR_sV, arR_wF, arR_wG, arR_wR, fI_sV (c := 0), fI_sV (c := 1), fI_sV (c := 2), fI_sV (c := 4), fI_sV (c := 5), fI_sV (c := 7), fI_sV (c := 8), fI_sV (c := 9), fI_sV (c := 10), fI_sV (c := 11), fI_sV (c := 12), fI_sV (c := 6), fL_sV (c := 9), fL_sV (c := 12), fI_sV_k, fL_sV_k, fV_sV_k, fI_wF, fI_wG, fI_wR, fL_wF, fL_wG, fL_wR, fV_wF, fV_wG, fV_wR, aF_sV, aG_sV, aR_sV, aF_wG, aF_wR, aG_wF, aG_wR, aR_wF, aR_wG, kC, kM, gO g', gF g', ti_lt, ti_clamp, h1, Int.toNat_natCast, tn, iv, true_and]
      refine jif_t (by omega) (ih (i + 1) _ _ _ _ _ (by omega) h1' (fr_wF (by decide) k) (fun q hq => ?_))
      simp (decide := true) only [jgI_ob, jgf_ob, jgL_ob, jpI_ob, jpL_ob, jpR_ob, jpN_ob, jrc_ob, obj_sV, obj_wF, obj_wG, obj_wR, arr_sV, arr_wF, arr_wG, arr_wR, arL_sV, arL_wF, arL_wG, arL_wR, arR_sV, arR_wF, arR_wG, arR_wR, fI_sV (c := 0), fI_sV (c := 1), fI_sV (c := 2), fI_sV (c := 4), fI_sV (c := 5), fI_sV (c := 7), fI_sV (c := 8), fI_sV (c := 9), fI_sV (c := 10), fI_sV (c := 11), fI_sV (c := 12), fI_sV (c := 6), fL_sV (c := 9), fL_sV (c := 12), fI_sV_k, fL_sV_k, fV_sV_k, fI_wF, fI_wG, fI_wR, fL_wF, fL_wG, fL_wR, fV_wF, fV_wG, fV_wR, aF_sV, aG_sV, aR_sV, aF_wG, aF_wR, aG_wF, aG_wR, aR_wF, aR_wG, kC, kM, gO g']
      by_cases e : q = i
      · subst e; rw [upd_s]; rfl
      · rw [upd_n e]; exact eg q (by omega)
  rw [jE_X0_oddOne]
  exact jT_X0_oddOne_0 (L1 80 0 h 0 _ _ _ rfl rfl fr_rfl (fun q hq => by omega))
end GCC
