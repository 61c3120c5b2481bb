/-! GUESSES: the model -/
def GM (h : JH) (n : Nat) (m ρ τ : Nat → Nat) (b : Nat → Bool) (f : Nat → Nat) (t : Nat → Bool) (fl : Nat → Nat → Int) (A72 A73 A74 A75 A76 : Nat → Int32) (r N : Nat) (M : Int) : Prop := G h ∧ RB h n m ρ τ b f t fl ∧ FA h n m f t ∧ r < n ∧ (N : Int) ≤ (fI h 71 5).toInt ∧ (fI h 81 10 + fI h 81 11).toInt = M ∧ (aF h 72 = A72 ∧ aF h 73 = A73 ∧ aF h 74 = A74 ∧ aF h 75 = A75 ∧ aF h 76 = A76) ∧ ∀ k, k < N → aF h 125 k = bi (knS (tI A72) (tI A76) r N N k)
def FND (p : Nat → Bool) (h : JH) (i : Int) (V : Nat) : Prop := ∀ u, u < V → p u = true → (cnt p u : Int) = i → (fI h 81 83).toInt = gs u ∧ (fI h 81 84).toInt = gd u
section GMO
variable {X : JX} {d : Nat} {Q : JQ} {h : JH} {n : Nat} {m ρ τ f : Nat → Nat} {b t : Nat → Bool} {fl : Nat → Nat → Int} {A72 A73 A74 A75 A76 : Nat → Int32} {r N : Nat} {M : Int}
theorem GM_fr {A : List Nat} {F : List (Nat × Nat)} {h1 : JH} (w : GM h n m ρ τ b f t fl A72 A73 A74 A75 A76 r N M) (a : fr A F h h1) (k : (keep A F && (offF [(0, 2), (81, 4)] F && offA [5, 83, 84, 85, 86, 87] A && A.all (fun q => decide (q < 126)) && F.all (fun q => decide (q.1 < 126))) && offF [(71, 5), (81, 74), (81, 10), (81, 11)] F && offA [72, 73, 74, 75, 76, 118, 119, 120, 121, 122, 123, 124, 125] A) = true) : GM h1 n m ρ τ b f t fl A72 A73 A74 A75 A76 r N M := by
  rw [Bool.and_eq_true, Bool.and_eq_true, Bool.and_eq_true] at k
  obtain ⟨⟨⟨k1, k2⟩, k3⟩, k4⟩ := k
  obtain ⟨w1, w2, w3, w4, w5, w6, ⟨w7, w8, w9, w10, w11⟩, w12⟩ := w
  have eV := offV (fw_fr a) k3
  have eR := offR (fw_fr a) k4
  have e5 : fI h1 71 5 = fI h 71 5 := by unfold fI; rw [eV (71, 5) (by decide)]
  have e10 : fI h1 81 10 = fI h 81 10 := by unfold fI; rw [eV (81, 10) (by decide)]
  have e11 : fI h1 81 11 = fI h 81 11 := by unfold fI; rw [eV (81, 11) (by decide)]
  have e74 : fI h1 81 74 = fI h 81 74 := by unfold fI; rw [eV (81, 74) (by decide)]
  refine ⟨G_fr w1 k1 a, RB_fr w2 a k2, ?_, w4, by rw [e5]; exact w5, by rw [e10, e11]; exact w6, ⟨?_, ?_, ?_, ?_, ?_⟩, ?_⟩
  · obtain ⟨x1, x2, x3, x4⟩ := w3
    refine ⟨by rw [e74, e5]; exact x1, by rw [e5]; exact x2, by rw [e5]; exact x3, fun i hi => ?_⟩
    rw [e5] at hi
    have mem : ∀ p, p ∈ [72, 73, 74, 75, 76, 118, 119, 120, 121, 122, 123, 124] → p ∈ [72, 73, 74, 75, 76, 118, 119, 120, 121, 122, 123, 124, 125] := by decide
    exact FA1_up (fun p hp => by rw [(eR p (mem p hp)).1]) (x4 i hi)
  · rw [(eR 72 (by decide)).1]; exact w7
  · rw [(eR 73 (by decide)).1]; exact w8
  · rw [(eR 74 (by decide)).1]; exact w9
  · rw [(eR 75 (by decide)).1]; exact w10
  · rw [(eR 76 (by decide)).1]; exact w11
  · rw [(eR 125 (by decide)).1]; exact w12
theorem c_keep (g : G h) (fa : FA h n m f t) {a1 a2 : Int32} {r : Int} (h1 : a1.toInt = r) (h2 : a2.toInt = N) (hN : (N : Int) ≤ (fI h 71 5).toInt) (H : ∀ h', fr [125] [] h h' → (∀ k, k < N → aF h' 125 k = bi (knS (tI (aF h 72)) (tI (aF h 76)) r N N k)) → Q none h') : jex X (d + 1) 288 [.ref 81, .int a1, .int a2] h Q := by
  obtain ⟨-, -, c80, fa1⟩ := fa
  have nar0 : vp_nar .boolean (0 : Int32) = 0 := rfl
  have nar1 : vp_nar .boolean (1 : Int32) = 1 := rfl
  have q72 : ∀ k, k < N → (aF h 118 k).toInt = (aF h 72 k).toInt ∧ ((aF h 72 k).toInt < 0 → (aF h 72 k).toInt = -1 ∧ (aF h 119 k).toInt = (aF h 76 k).toInt ∧ 0 ≤ (aF h 76 k).toInt ∧ (aF h 76 k).toInt < k) := fun k hk => by
    rcases fa1 k (by omega) with ⟨u1, u2, j, u3, u4, u5⟩ | ⟨r', _, _, _, _, _, _, _, _, _, _, u1, u2, _⟩
    · exact ⟨by omega, fun _ => ⟨u1, by omega, by omega, by omega⟩⟩
    · exact ⟨by omega, fun q => by omega⟩
  have L2 : ∀ (j i : Nat) (h' : JH) (a3 : Int32) (o1 : Option Value) (c z : Nat), j + i = N → a3.toInt = i → fr [125] [] h h' → (∀ k, k < N → aF h' 125 k = bi (knS (tI (aF h 72)) (tI (aF h 76)) r N i k)) → jB_X12_keep_36 X d Q 81 o1 a2 a3 h' c z := by
    intro j
    induction j with
    | zero =>
      intro i h' a3 o1 c z hj h3 k u
      have : i = N := by omega
      subst this
      exact jT_X12_keep_36 (jif_n (by rw [ti_lt]; omega) (H h' k u))
    | succ j ih =>
      intro i h' a3 o1 c z hj h3 k u
      have g' := G_fr g rfl k
      have e118 : aF h' 118 = aF h 118 := frF k (by decide)
      have e119 : aF h' 119 = aF h 119 := frF k (by decide)
      have h3' : (a3 + 1).toInt = ((i + 1 : Nat) : Int) := (by simp only [Int32.toInt_add, Int32.toInt_sub, Int32.toInt_mul, Int32.toInt_neg, Int.bmod_def, tl]; omega)
      have iv : vp_in a3 80 := by rw [vp_inI]; omega
      have qi := q72 i (by omega)
      refine jT_X12_keep_36 (jif_t (by rw [ti_lt]; omega) ?_)
      simp (decide := true) only [jgI_ob, jgf_ob, jgL_ob, jpI_ob, jpL_ob, jpR_ob, jpN_ob, jrc_ob, obj_sV, obj_wF, obj_wG, obj_wR, arr_sV, arr_wF, arr_wG, arr_wR, arL_sV, arL_wF, arL_wG, arL_wR, arR_sV, arR_wF, arR_wG, arR_wR, fI_sV (c := 0), fI_sV (c := 1), fI_sV (c := 2), fI_sV (c := 4), fI_sV (c := 5), fI_sV (c := 7), fI_sV (c := 8), fI_sV (c := 9), fI_sV (c := 10), fI_sV (c := 11), fI_sV (c := 12), fI_sV (c := 6), fL_sV (c := 9), fL_sV (c := 12), fI_sV_k, fL_sV_k, fV_sV_k, fI_wF, fI_wG, fI_wR, fL_wF, fL_wG, fL_wR, fV_wF, fV_wG, fV_wR, aF_sV, aG_sV, aR_sV, aF_wG, aF_wR, aG_wF, aG_wR, aR_wF, aR_wG, kC, kM, gM g', gN g', ti_clamp, h3, Int.toNat_natCast, ti_lt, tl, iv, true_and, e118, e119, nar0, qi.1]
      refine ⟨fun c1 => ?_, fun c1 => ?_⟩
      · obtain ⟨r1, r2, r3, r4⟩ := qi.2 c1
        refine ⟨by rw [vp_inI, r2]; omega, ?_⟩
        refine ih (i + 1) _ _ _ _ _ (by omega) h3' (fr_wF (by decide) k) (fun q hq => ?_)
        simp (decide := true) only [jgI_ob, jgf_ob, jgL_ob, jpI_ob, jpL_ob, jpR_ob, jpN_ob, jrc_ob, obj_sV, obj_wF, obj_wG, obj_wR, arr_sV, arr_wF, arr_wG, arr_wR, arL_sV, arL_wF, arL_wG, arL_wR, arR_sV, arR_wF, arR_wG, arR_wR, fI_sV (c := 0), fI_sV (c := 1), fI_sV (c := 2), fI_sV (c := 4), fI_sV (c := 5), fI_sV (c := 7), fI_sV (c := 8), fI_sV (c := 9), fI_sV (c := 10), fI_sV (c := 11), fI_sV (c := 12), fI_sV (c := 6), fL_sV (c := 9), fL_sV (c := 12), fI_sV_k, fL_sV_k, fV_sV_k, fI_wF, fI_wG, fI_wR, fL_wF, fL_wG, fL_wR, fV_wF, fV_wG, fV_wR, aF_sV, aG_sV, aR_sV, aF_wG, aF_wR, aG_wF, aG_wR, aR_wF, aR_wG, kC, kM, gM g']
        rw [knS_s, r2]
        have e1 : decide (tI (aF h 72) i = -1) = true := decide_eq_true r1
        rw [e1]
        by_cases e : q = (aF h 76 i).toInt.toNat
        · have e2 : decide (tI (aF h 76) i = (q : Int)) = true := decide_eq_true (by unfold tI; omega)
          rw [e2, ← e, upd_s]
          simp [bi]
        · have e2 : decide (tI (aF h 76) i = (q : Int)) = false := decide_eq_false (fun e2 => by unfold tI at e2; omega)
          rw [e2, upd_n e, u q hq]
          simp
      · refine ih (i + 1) h' _ _ _ _ (by omega) h3' k (fun q hq => ?_)
        rw [u q hq, knS_s]
        have : decide (tI (aF h 72) i = -1) = false := decide_eq_false (fun e => by unfold tI at e; omega)
        rw [this]
        simp
  have L1 : ∀ (j i : Nat) (h' : JH) (a3 : Int32) (c z : Nat), j + i = N → a3.toInt = i → fr [125] [] h h' → (∀ k, k < i → aF h' 125 k = bi (knS (tI (aF h 72)) (tI (aF h 76)) r N 0 k)) → jB_X12_keep_2 X d Q 81 a1 a2 a3 h' c z := by
    intro j
    induction j with
    | zero =>
      intro i h' a3 c z hj h3 k u
      exact jT_X12_keep_2 (jif_n (by rw [ti_lt]; omega) (L2 N 0 h' 0 _ _ _ (by omega) rfl k (fun q hq => u q (by omega))))
    | succ j ih =>
      intro i h' a3 c z hj h3 k u
      have g' := G_fr g rfl k
      have e118 : aF h' 118 = aF h 118 := frF k (by decide)
      have h3' : (a3 + 1).toInt = ((i + 1 : Nat) : Int) := (by simp only [Int32.toInt_add, Int32.toInt_sub, Int32.toInt_mul, Int32.toInt_neg, Int.bmod_def, tl]; omega)
      have iv : vp_in a3 80 := by rw [vp_inI]; omega
      have qi := q72 i (by omega)
      refine jT_X12_keep_2 (jif_t (by rw [ti_lt]; omega) ?_)
      simp (decide := true) only [jgI_ob, jgf_ob, jgL_ob, jpI_ob, jpL_ob, jpR_ob, jpN_ob, jrc_ob, obj_sV, obj_wF, obj_wG, obj_wR, arr_sV, arr_wF, arr_wG, arr_wR, arL_sV, arL_wF, arL_wG, arL_wR, arR_sV, arR_wF, arR_wG, arR_wR, fI_sV (c := 0), fI_sV (c := 1), fI_sV (c := 2), fI_sV (c := 4), fI_sV (c := 5), fI_sV (c := 7), fI_sV (c := 8), fI_sV (c := 9), fI_sV (c := 10), fI_sV (c := 11), fI_sV (c := 12), fI_sV (c := 6), fL_sV (c := 9), fL_sV (c := 12), fI_sV_k, fL_sV_k, fV_sV_k, fI_wF, fI_wG, fI_wR, fL_wF, fL_wG, fL_wR, fV_wF, fV_wG, fV_wR, aF_sV, aG_sV, aR_sV, aF_wG, aF_wR, aG_wF, aG_wR, aR_wF, aR_wG, kC, kM, gM g', gN g', ti_clamp, h3, Int.toNat_natCast, ti_eq, h1, iv, true_and, e118, nar0, nar1, qi.1]
      have fin : ∀ (v : Int32), v = bi (knS (tI (aF h 72)) (tI (aF h 76)) r N 0 i) → ∀ (c z : Nat), jB_X12_keep_2 X d Q 81 a1 a2 (a3 + 1) (wF h' 125 (upd (aF h' 125) i v)) c z := by
        intro v hv c z
        refine ih (i + 1) _ _ _ _ (by omega) h3' (fr_wF (by decide) k) (fun q hq => ?_)
        simp (decide := true) only [jgI_ob, jgf_ob, jgL_ob, jpI_ob, jpL_ob, jpR_ob, jpN_ob, jrc_ob, obj_sV, obj_wF, obj_wG, obj_wR, arr_sV, arr_wF, arr_wG, arr_wR, arL_sV, arL_wF, arL_wG, arL_wR, arR_sV, arR_wF, arR_wG, arR_wR, fI_sV (c := 0), fI_sV (c := 1), fI_sV (c := 2), fI_sV (c := 4), fI_sV (c := 5), fI_sV (c := 7), fI_sV (c := 8), fI_sV (c := 9), fI_sV (c := 10), fI_sV (c := 11), fI_sV (c := 12), fI_sV (c := 6), fL_sV (c := 9), fL_sV (c := 12), fI_sV_k, fL_sV_k, fV_sV_k, fI_wF, fI_wG, fI_wR, fL_wF, fL_wG, fL_wR, fV_wF, fV_wG, fV_wR, aF_sV, aG_sV, aR_sV, aF_wG, aF_wR, aG_wF, aG_wR, aR_wF, aR_wG, kC, kM, gM g']
        by_cases e : q = i
        · subst e; rw [upd_s]; exact hv
        · rw [upd_n e]; exact u q (by omega)
      refine ⟨fun c2 => fin 1 ?_ _ _, fun c2 => fin 0 ?_ _ _⟩
      · have : decide (i < N ∧ tI (aF h 72) i = r) = true := decide_eq_true ⟨by omega, c2⟩
        unfold knS
        rw [this]
        rfl
      · have : decide (i < N ∧ tI (aF h 72) i = r) = false := decide_eq_false (fun e => c2 e.2)
        unfold knS
        rw [this]
        rfl
  rw [jE_X12_keep]
  exact jT_X12_keep_0 (L1 N 0 h 0 _ _ (by omega) rfl fr_rfl (fun q hq => by omega))
theorem c_guessedAt (g : G h) {K o F x y j : Nat} {B T : Bool} {L : Nat → Int} (sm : SM h K B F T L) {a1 a2 a3 a4 a5 : Int32} (h1 : a1.toInt = K) (ho : K % 8 = o) (h2 : a2.toInt = x) (h3 : a3.toInt = y) (y0 : 100 ≤ y) (y1 : y ≤ 1000) (hj : j + 100 = 900 * x + y) (hJ : j ≤ 900 * F) (g0 : -1 ≤ a4.toInt) (g1 : a4.toInt ≤ 127) (d0 : -20 ≤ a5.toInt) (d1 : a5.toInt ≤ 20) (H : ∀ w : Int32, w.toInt = tp F T j + (if 16 * (o : Int) + min (tp F T j / 256) 15 = a4.toInt then a5.toInt else 0) → Q (some (.int w)) h) : jex X (d + 2) 291 [.ref 81, .int a1, .int a2, .int a3, .int a4, .int a5] h Q := by
  have K32 := sm.1
  have rg := tp_rg (t := T) sm.2.1 hJ
  rw [jE_X12_guessedAt]
  refine jT_X12_guessedAt_0 ?_
  simp (decide := true) only [jgI_ob, jgf_ob, jgL_ob, jpI_ob, jpL_ob, jpR_ob, jpN_ob, jrc_ob, obj_sV, obj_wF, obj_wG, obj_wR, arr_sV, arr_wF, arr_wG, arr_wR, arL_sV, arL_wF, arL_wG, arL_wR, arR_sV, arR_wF, arR_wG, arR_wR, fI_sV (c := 0), fI_sV (c := 1), fI_sV (c := 2), fI_sV (c := 4), fI_sV (c := 5), fI_sV (c := 7), fI_sV (c := 8), fI_sV (c := 9), fI_sV (c := 10), fI_sV (c := 11), fI_sV (c := 12), fI_sV (c := 6), fL_sV (c := 9), fL_sV (c := 12), fI_sV_k, fL_sV_k, fV_sV_k, fI_wF, fI_wG, fI_wR, fL_wF, fL_wG, fL_wR, fV_wF, fV_wG, fV_wR, aF_sV, aG_sV, aR_sV, aF_wG, aF_wR, aG_wF, aG_wR, aR_wF, aR_wG, gM g, gN g, ti_lt, tl, true_and]
  refine c_trueOf (n := j) g sm h1 h2 h3 y0 y1 hj hJ (fun z hz => ?_)
  try dsimp only [jrI, jrN, jrA, jisr, jnul, jcat1]
  refine ⟨fun c => H z ?_, fun c => ?_⟩
  · rw [if_neg (by omega), hz]; omega
  · have e1 : (a4 / 16).toInt = a4.toInt / 16 := ti_divp (by omega) (by decide)
    have e2 : (a1 - a1 / 8 * 8).toInt = (o : Int) := by
      rw [ti_remp (by omega) (by decide), h1, show (8 : Int32).toInt = 8 from rfl]; omega
    have e3 : (a4 - a4 / 16 * 16).toInt = a4.toInt % 16 := ti_remp (by omega) (by decide)
    simp only [ti_eq, e1, e2, e3]
    refine ⟨fun c1 => ?_, fun c1 => H z ?_⟩
    · refine c_mstretch (x := z) (by omega) (fun w hw _ => ?_) (by omega)
      try dsimp only [jrI, jrN, jrA, jisr, jnul, jcat1]
      simp only [hw]
      refine ⟨fun c2 => H _ ?_, fun c2 => H z ?_⟩
      · rw [if_pos (by omega), ti_add (by omega) (by omega), hz]
      · rw [if_neg (by omega), hz]; omega
    · rw [if_neg (by omega), hz]; omega
theorem c_fits (w : GM h n m ρ τ b f t fl A72 A73 A74 A75 A76 r N M) {a1 a2 a3 a4 a5 : Int32} {v : Nat} {but : Int} (h1 : a1.toInt = r) (h2 : a2.toInt = N) (h3 : a3.toInt = gs v) (h4 : a4.toInt = gd v) (hv : v ≤ 5120) (h5 : a5.toInt = but) (H0 : FT (tI A73) (tI A74) (tI A75) (knS (tI A72) (tI A76) r N N) M N but v = false → Q (some (.int 0)) h) (H1 : FT (tI A73) (tI A74) (tI A75) (knS (tI A72) (tI A76) r N N) M N but v = true → Q (some (.int 1)) h) : jex X (d + 3) 290 [.ref 81, .int a1, .int a2, .int a3, .int a4, .int a5] h Q := by
  obtain ⟨g, x, fa, hr, hN, hM, ⟨E72, E73, E74, E75, E76⟩, hk⟩ := id w
  obtain ⟨-, -, c80, fa1⟩ := id fa
  have nn := x.1
  have mm := (x.2.2.2.1 r hr).1
  have g4 := gd_rg v
  have gs0 : -1 ≤ gs v ∧ gs v ≤ 127 := by unfold gs; split <;> omega
  generalize hkn : knS (tI A72) (tI A76) r N N = kn at hk H0 H1
  have L : ∀ (j k : Nat) (a6 : Int32) (o7 o8 : Option Value) (c z : Nat), j + k = N → a6.toInt = k → (∀ q, q < k → PV (tI A73) (tI A74) (tI A75) kn M v q = true → (q : Int) = but) → jB_X12_fits_3 X (d + 2) Q 81 a1 a2 a3 a4 a5 a6 o7 o8 h c z := by
    intro j
    induction j with
    | zero =>
      intro k a6 o7 o8 c z hj h6 hu
      refine jT_X12_fits_3 (jif_n (by rw [ti_lt]; omega) ⟨by decide, H1 (FT_iff.mpr (fun q hq hp => hu q (by omega) hp))⟩)
    | succ j ih =>
      intro k a6 o7 o8 c z hj h6 hu
      have h6' : (a6 + 1).toInt = ((k + 1 : Nat) : Int) := (by simp only [Int32.toInt_add, Int32.toInt_sub, Int32.toInt_mul, Int32.toInt_neg, Int.bmod_def, tl]; omega)
      have iv : vp_in a6 80 := by rw [vp_inI]; omega
      have skip : (PV (tI A73) (tI A74) (tI A75) kn M v k = true → (k : Int) = but) → ∀ (o7 o8 : Option Value) (c z : Nat), jB_X12_fits_3 X (d + 2) Q 81 a1 a2 a3 a4 a5 (a6 + 1) o7 o8 h c z := fun hs o7 o8 c z => ih (k + 1) _ _ _ _ _ (by omega) h6' (fun q hq hp => by
        by_cases e : q = k
        · subst e; exact hs hp
        · exact hu q (by omega) hp)
      refine jT_X12_fits_3 (jif_t (by rw [ti_lt]; omega) ?_)
      simp (decide := true) only [jgI_ob, jgf_ob, jgL_ob, jpI_ob, jpL_ob, jpR_ob, jpN_ob, jrc_ob, obj_sV, obj_wF, obj_wG, obj_wR, arr_sV, arr_wF, arr_wG, arr_wR, arL_sV, arL_wF, arL_wG, arL_wR, arR_sV, arR_wF, arR_wG, arR_wR, fI_sV (c := 0), fI_sV (c := 1), fI_sV (c := 2), fI_sV (c := 4), fI_sV (c := 5), fI_sV (c := 7), fI_sV (c := 8), fI_sV (c := 9), fI_sV (c := 10), fI_sV (c := 11), fI_sV (c := 12), fI_sV (c := 6), fL_sV (c := 9), fL_sV (c := 12), fI_sV_k, fL_sV_k, fV_sV_k, fI_wF, fI_wG, fI_wR, fL_wF, fL_wG, fL_wR, fV_wF, fV_wG, fV_wR, aF_sV, aG_sV, aR_sV, aF_wG, aF_wR, aG_wF, aG_wR, aR_wF, aR_wG, kC, kM, gM g, gN g, ti_clamp, h6, Int.toNat_natCast, iv, true_and, hk k (by omega), ti_eq, h5]
      by_cases ekn : kn k = true
      · refine jif_n (by rw [ekn]; decide) ⟨fun c1 => skip (fun _ => c1) _ _ _ _, fun c1 => ?_⟩
        have kr := knS_N (by rw [hkn]; exact ekn)
        rcases fa1 k (by omega) with ⟨u1, -⟩ | ⟨r', o, e, xx, yy, x', y', q1, q2, q3, q4, q5, q6, q7, q8, q9, q10, q11, q12, q13, q14, q15, q16, q17, q18, q19, q20, q21⟩
        · unfold tI at kr; rw [E72] at u1; omega
        · have er : r' = r := by unfold tI at kr; rw [E72] at q5; omega
          subst er
          obtain ⟨-, -, sc1, sm1⟩ := x.2.2.2.2.1 r' o hr q2
          obtain ⟨-, -, sc2, sm2⟩ := x.2.2.2.2.1 r' e hr q3
          have F1 := sc1.2.1
          have F2 := sc2.2.1
          have e81 : (8 * a1 + aF h 119 k).toInt = ((8 * r' + o : Nat) : Int) := ix8 (by omega) (by omega) h1 q7
          have e82 : (8 * a1 + aF h 122 k).toInt = ((8 * r' + e : Nat) : Int) := ix8 (by omega) (by omega) h1 q8
          refine c_guessedAt (o := o) (j := 900 * xx + yy - 100) g sm1 e81 (by omega) q9 q10 q11 (by omega) (by omega) (by omega) (by omega) (by omega) (by omega) (by omega) (fun z1 hz1 => ?_)
          try dsimp only [jrI, jrN, jrA, jisr, jnul, jcat1]
          simp (decide := true) only [jgI_ob, jgf_ob, jgL_ob, jpI_ob, jpL_ob, jpR_ob, jpN_ob, jrc_ob, obj_sV, obj_wF, obj_wG, obj_wR, arr_sV, arr_wF, arr_wG, arr_wR, arL_sV, arL_wF, arL_wG, arL_wR, arR_sV, arR_wF, arR_wG, arR_wR, fI_sV (c := 0), fI_sV (c := 1), fI_sV (c := 2), fI_sV (c := 4), fI_sV (c := 5), fI_sV (c := 7), fI_sV (c := 8), fI_sV (c := 9), fI_sV (c := 10), fI_sV (c := 11), fI_sV (c := 12), fI_sV (c := 6), fL_sV (c := 9), fL_sV (c := 12), fI_sV_k, fL_sV_k, fV_sV_k, fI_wF, fI_wG, fI_wR, fL_wF, fL_wG, fL_wR, fV_wF, fV_wG, fV_wR, aF_sV, aG_sV, aR_sV, aF_wG, aF_wR, aG_wF, aG_wR, aR_wF, aR_wG, kC, kM, gM g, gN g, ti_clamp, h6, Int.toNat_natCast, iv, true_and]
          refine c_guessedAt (o := e) (j := 900 * x' + y' - 100) g sm2 e82 (by omega) q14 q15 q16 (by omega) (by omega) (by omega) (by omega) (by omega) (by omega) (by omega) (fun z2 hz2 => ?_)
          try dsimp only [jrI, jrN, jrA, jisr, jnul, jcat1]
          have t1 := tp_rg (t := t (8 * r' + o)) F1 (show 900 * xx + yy - 100 ≤ 900 * f (8 * r' + o) by omega)
          have t2 := tp_rg (t := t (8 * r' + e)) F2 (show 900 * x' + y' - 100 ≤ 900 * f (8 * r' + e) by omega)
          have ev : z1.toInt - z2.toInt = evv (tI A73) (tI A74) (tI A75) (gs v) (gd v) k := by
            unfold evv tI
            rw [← E73, ← E74, ← E75, q19, q20, q21, hz1, hz2, h3, h4]
            omega
          have zr : -8300 ≤ z1.toInt - z2.toInt ∧ z1.toInt - z2.toInt ≤ 8300 := by
            rw [hz1, hz2]
            split <;> split <;> omega
          have zr2 : -100 ≤ z2.toInt ∧ z2.toInt ≤ 5000 := by
            rw [hz2]
            split <;> omega
          refine c_apart (by omega) (by omega) ?_
          try dsimp only [jrI, jrN, jrA, jisr, jnul, jcat1]
          have ea : (zI (max (z1.toInt - z2.toInt) (z2.toInt - z1.toInt))).toInt = abi (evv (tI A73) (tI A74) (tI A75) (gs v) (gd v) k) := by
            rw [zt (by omega) (by omega), ← ev]
            unfold abi
            omega
          simp (decide := true) only [jgI_ob, jgf_ob, jgL_ob, jpI_ob, jpL_ob, jpR_ob, jpN_ob, jrc_ob, obj_sV, obj_wF, obj_wG, obj_wR, arr_sV, arr_wF, arr_wG, arr_wR, arL_sV, arL_wF, arL_wG, arL_wR, arR_sV, arR_wF, arR_wG, arR_wR, fI_sV (c := 0), fI_sV (c := 1), fI_sV (c := 2), fI_sV (c := 4), fI_sV (c := 5), fI_sV (c := 7), fI_sV (c := 8), fI_sV (c := 9), fI_sV (c := 10), fI_sV (c := 11), fI_sV (c := 12), fI_sV (c := 6), fL_sV (c := 9), fL_sV (c := 12), fI_sV_k, fL_sV_k, fV_sV_k, fI_wF, fI_wG, fI_wR, fL_wF, fL_wG, fL_wR, fV_wF, fV_wG, fV_wR, aF_sV, aG_sV, aR_sV, aF_wG, aF_wR, aG_wF, aG_wR, aR_wF, aR_wG, gM g, ti_lt, ea, hM, true_and]
          refine ⟨fun c2 => H0 ?_, fun c2 => skip (fun hp => ?_) _ _ _ _⟩
          · cases hF : FT (tI A73) (tI A74) (tI A75) kn M N but v
            · rfl
            · have := FT_iff.mp hF k (by omega) (by unfold PV; rw [ekn, decide_eq_true c2]; rfl)
              exact absurd this c1
          · unfold PV at hp
            rw [ekn, decide_eq_false c2] at hp
            cases hp
      · refine jif_t ?_ (skip (fun hp => absurd (PV_kn hp) ekn) _ _ _ _)
        rw [show kn k = false by simpa using ekn]
        rfl
  rw [jE_X12_fits]
  exact jT_X12_fits_0 (L N 0 0 _ _ _ _ (by omega) rfl (fun q hq => by omega))
theorem pos_flw {dd : Int} (h0 : -20 ≤ dd) (h1 : dd ≤ 20) (hn : dd ≠ 0) : ∃ i : Nat, i < 40 ∧ flw i = dd ∧ (i : Int) = (if dd ≤ 0 then dd + 20 else dd + 19) := by
  by_cases c : dd ≤ 0
  · refine ⟨(dd + 20).toNat, by omega, ?_, by rw [if_pos c]; omega⟩
    unfold flw
    rw [if_pos (by omega)]
    omega
  · refine ⟨(dd + 19).toNat, by omega, ?_, by rw [if_neg c]; omega⟩
    unfold flw
    rw [if_neg (by omega)]
    omega
theorem c_mfit (w : GM h n m ρ τ b f t fl A72 A73 A74 A75 A76 r N M) {a1 a2 a3 a4 : Int32} {but i : Int} (h1 : a1.toInt = r) (h2 : a2.toInt = N) (h3 : a3.toInt = but) (h4 : a4.toInt = i) (H : ∀ (h' : JH) (y : Int32), fr [] [(81, 83), (81, 84)] h h' → y.toInt = cnt (FT (tI A73) (tI A74) (tI A75) (knS (tI A72) (tI A76) r N N) M N but) (1 + 640 * m r) → FND (FT (tI A73) (tI A74) (tI A75) (knS (tI A72) (tI A76) r N N) M N but) h' i (1 + 640 * m r) → Q (some (.int y)) h') : jex X (d + 4) 289 [.ref 81, .int a1, .int a2, .int a3, .int a4] h Q := by
  have x := w.2.1
  have hr := w.2.2.2.1
  have nn := x.1
  obtain ⟨mm, -, -, -, -, -, -, e83⟩ := x.2.2.2.1 r hr
  have iv1 : vp_in a1 4 := by rw [vp_inI]; omega
  generalize hp : FT (tI A73) (tI A74) (tI A75) (knS (tI A72) (tI A76) r N N) M N but = p at H
  have e16 : (16 * aF h 83 r).toInt = ((16 * m r : Nat) : Int) := (by simp only [Int32.toInt_add, Int32.toInt_sub, Int32.toInt_mul, Int32.toInt_neg, Int.bmod_def, tl]; omega)
  -- one guess more
  have step : ∀ (v : Nat) (h' : JH) (a5 : Int32), cnt p v = cnt p v → v ≤ 5120 → a5.toInt = cnt p v → FND p h' i v → (p v = false → cnt p (v + 1) = cnt p v ∧ FND p h' i (v + 1)) ∧ (p v = true → cnt p (v + 1) = cnt p v + 1 ∧ (¬ a5 = a4 → FND p h' i (v + 1)) ∧ (a5 = a4 → ∀ (g1 d1 : Int32), G h' → g1.toInt = gs v → d1.toInt = gd v → FND p (sV (sV h' 81 83 (.int g1)) 81 84 (.int d1)) i (v + 1))) := by
    intro v h' a5 _ hv h5 hF
    have s : cnt p (v + 1) = cnt p v + (if p v = true then 1 else 0) := rfl
    refine ⟨fun c => ⟨by rw [s, if_neg (by rw [c]; decide), Nat.add_zero], fun u hu hpu hc => ?_⟩, fun c => ⟨by rw [s, if_pos c], fun ne u hu hpu hc => ?_, fun e g1 d1 gg hg1 hd1 u hu hpu hc => ?_⟩⟩
    · by_cases e : u = v
      · subst e; rw [c] at hpu; cases hpu
      · exact hF u (by omega) hpu hc
    · by_cases e : u = v
      · subst e
        exact absurd (by rw [ti_eq]; omega) ne
      · exact hF u (by omega) hpu hc
    · simp (decide := true) only [jgI_ob, jgf_ob, jgL_ob, jpI_ob, jpL_ob, jpR_ob, jpN_ob, jrc_ob, obj_sV, obj_wF, obj_wG, obj_wR, arr_sV, arr_wF, arr_wG, arr_wR, arL_sV, arL_wF, arL_wG, arL_wR, arR_sV, arR_wF, arR_wG, arR_wR, fI_sV (c := 0), fI_sV (c := 1), fI_sV (c := 2), fI_sV (c := 4), fI_sV (c := 5), fI_sV (c := 7), fI_sV (c := 8), fI_sV (c := 9), fI_sV (c := 10), fI_sV (c := 11), fI_sV (c := 12), fI_sV (c := 6), fL_sV (c := 9), fL_sV (c := 12), fI_sV_k, fL_sV_k, fV_sV_k, fI_wF, fI_wG, fI_wR, fL_wF, fL_wG, fL_wR, fV_wF, fV_wG, fV_wR, aF_sV, aG_sV, aR_sV, aF_wG, aF_wR, aG_wF, aG_wR, aR_wF, aR_wG, gM gg]
      by_cases e2 : u = v
      · subst e2; exact ⟨hg1, hd1⟩
      · have := cnt_lt (p := p) (show u < v by omega) hpu
        rw [ti_eq] at e
        omega
  have L2 : ∀ (j g0 : Nat) (dd : Int) (v : Nat) (h' : JH) (a5 a6 a7 : Int32) (c z : Nat), (j : Int) + dd = 21 → -20 ≤ dd → a6.toInt = g0 → g0 < 16 * m r → a7.toInt = dd → (v : Int) = 1 + 40 * (g0 : Int) + (if dd ≤ 0 then dd + 20 else dd + 19) → a5.toInt = cnt p v → fr [] [(81, 83), (81, 84)] h h' → FND p h' i v → (∀ (h2 : JH) (b5 : Int32) (o : Option Value) (c z : Nat), b5.toInt = cnt p (1 + 40 * (g0 + 1)) → fr [] [(81, 83), (81, 84)] h h2 → FND p h2 i (1 + 40 * (g0 + 1)) → jB_X12_fitting_31 X (d + 3) Q 81 a1 a2 a3 a4 b5 (a6 + 1) o h2 c z) → jB_X12_fitting_49 X (d + 3) Q 81 a1 a2 a3 a4 a5 a6 a7 h' c z := by
    intro j
    induction j with
    | zero =>
      intro g0 dd v h' a5 a6 a7 c z hj hd h6 hg h7 hv h5 k hF HK
      have ed : dd = 21 := by omega
      subst ed
      rw [if_neg (by decide)] at hv
      have ev : v = 1 + 40 * (g0 + 1) := by omega
      rw [ev] at h5 hF
      exact jT_X12_fitting_49 (jif_t (by rw [ti_lt, h7]; decide) (HK _ _ _ _ _ h5 k hF))
    | succ j ih =>
      intro g0 dd v h' a5 a6 a7 c z hj hd h6 hg h7 hv h5 k hF HK
      have h7' : (a7 + 1).toInt = dd + 1 := (by simp only [Int32.toInt_add, Int32.toInt_sub, Int32.toInt_mul, Int32.toInt_neg, Int.bmod_def, tl]; omega)
      refine jT_X12_fitting_49 (jif_n (by rw [ti_lt, h7, show (20 : Int32).toInt = 20 from rfl]; omega) ⟨fun c0 => ?_, fun c0 => ?_⟩)
      · rw [ti_eq, h7, tl.1] at c0
        refine ih g0 (dd + 1) v h' _ _ _ _ _ (by omega) (by omega) h6 hg h7' ?_ h5 k hF HK
        rw [hv, c0]; rfl
      · rw [ti_eq, h7, tl.1] at c0
        obtain ⟨ii, i1, i2, i3⟩ := pos_flw (dd := dd) (by omega) (by omega) c0
        rw [← i3] at hv
        have ev : v = 1 + 40 * g0 + ii := by omega
        have gg := gs_s (g := g0) i1
        rw [← ev] at gg
        have hv5 : v ≤ 5120 := by omega
        have w' := GM_fr w k rfl
        have g' := w'.1
        have st := step v h' a5 rfl hv5 h5 hF
        have cl := cnt_le p v
        have nx : ((v + 1 : Nat) : Int) = 1 + 40 * (g0 : Int) + (if dd + 1 ≤ 0 then dd + 1 + 20 else dd + 1 + 19) := by
          by_cases q : dd ≤ 0
          · rw [if_pos q] at i3
            by_cases q2 : dd + 1 ≤ 0
            · rw [if_pos q2]; omega
            · omega
          · rw [if_neg q] at i3
            rw [if_neg (by omega)]; omega
        simp (decide := true) only [jgI_ob, jgf_ob, jgL_ob, jpI_ob, jpL_ob, jpR_ob, jpN_ob, jrc_ob, obj_sV, obj_wF, obj_wG, obj_wR, arr_sV, arr_wF, arr_wG, arr_wR, arL_sV, arL_wF, arL_wG, arL_wR, arR_sV, arR_wF, arR_wG, arR_wR, fI_sV (c := 0), fI_sV (c := 1), fI_sV (c := 2), fI_sV (c := 4), fI_sV (c := 5), fI_sV (c := 7), fI_sV (c := 8), fI_sV (c := 9), fI_sV (c := 10), fI_sV (c := 11), fI_sV (c := 12), fI_sV (c := 6), fL_sV (c := 9), fL_sV (c := 12), fI_sV_k, fL_sV_k, fV_sV_k, fI_wF, fI_wG, fI_wR, fL_wF, fL_wG, fL_wR, fV_wF, fV_wG, fV_wR, aF_sV, aG_sV, aR_sV, aF_wG, aF_wR, aG_wF, aG_wR, aR_wF, aR_wG, gM g', gN g', ti_lt, tl, true_and]
        refine c_fits w' h1 h2 (by rw [h6, gg.1]) (by rw [h7, gg.2, i2]) hv5 h3 (fun q => ?_) (fun q => ?_)
        · rw [hp] at q
          refine jif_t rfl (ih g0 (dd + 1) (v + 1) h' _ _ _ _ _ (by omega) (by omega) h6 hg h7' nx (by rw [(st.1 q).1]; exact h5) k (st.1 q).2 HK)
        · rw [hp] at q
          have m5 : (a5 + 1).toInt = cnt p (v + 1) := by
            rw [(st.2 q).1]
            have : (a5 + 1).toInt = a5.toInt + 1 := (by simp only [Int32.toInt_add, Int32.toInt_sub, Int32.toInt_mul, Int32.toInt_neg, Int.bmod_def, tl]; omega)
            rw [this, h5]; rfl
          refine jif_n (by decide) ⟨fun e => ?_, fun e => ?_⟩
          · simp (decide := true) only [jgI_ob, jgf_ob, jgL_ob, jpI_ob, jpL_ob, jpR_ob, jpN_ob, jrc_ob, obj_sV, obj_wF, obj_wG, obj_wR, arr_sV, arr_wF, arr_wG, arr_wR, arL_sV, arL_wF, arL_wG, arL_wR, arR_sV, arR_wF, arR_wG, arR_wR, fI_sV (c := 0), fI_sV (c := 1), fI_sV (c := 2), fI_sV (c := 4), fI_sV (c := 5), fI_sV (c := 7), fI_sV (c := 8), fI_sV (c := 9), fI_sV (c := 10), fI_sV (c := 11), fI_sV (c := 12), fI_sV (c := 6), fL_sV (c := 9), fL_sV (c := 12), fI_sV_k, fL_sV_k, fV_sV_k, fI_wF, fI_wG, fI_wR, fL_wF, fL_wG, fL_wR, fV_wF, fV_wG, fV_wR, aF_sV, aG_sV, aR_sV, aF_wG, aF_wR, aG_wF, aG_wR, aR_wF, aR_wG, gM g']
            refine ih g0 (dd + 1) (v + 1) _ _ _ _ _ _ (by omega) (by omega) h6 hg h7' nx m5 (fr_sV (by decide) (fr_sV (by decide) k)) ?_ HK
            exact (st.2 q).2.2 e a6 a7 g' (by rw [h6, gg.1]) (by rw [h7, gg.2, i2])
          · exact ih g0 (dd + 1) (v + 1) h' _ _ _ _ _ (by omega) (by omega) h6 hg h7' nx m5 k ((st.2 q).2.1 e) HK
  have L1 : ∀ (j g0 : Nat) (h' : JH) (a5 a6 : Int32) (o : Option Value) (c z : Nat), j + g0 = 16 * m r → a6.toInt = g0 → a5.toInt = cnt p (1 + 40 * g0) → fr [] [(81, 83), (81, 84)] h h' → FND p h' i (1 + 40 * g0) → jB_X12_fitting_31 X (d + 3) Q 81 a1 a2 a3 a4 a5 a6 o h' c z := by
    intro j
    induction j with
    | zero =>
      intro g0 h' a5 a6 o c z hj h6 h5 k hF
      have g' := (GM_fr w k rfl).1
      have e83' : aF h' 83 = aF h 83 := frF k (by decide)
      refine jT_X12_fitting_31 ?_
      simp (decide := true) only [jgI_ob, jgf_ob, jgL_ob, jpI_ob, jpL_ob, jpR_ob, jpN_ob, jrc_ob, obj_sV, obj_wF, obj_wG, obj_wR, arr_sV, arr_wF, arr_wG, arr_wR, arL_sV, arL_wF, arL_wG, arL_wR, arR_sV, arR_wF, arR_wG, arR_wR, fI_sV (c := 0), fI_sV (c := 1), fI_sV (c := 2), fI_sV (c := 4), fI_sV (c := 5), fI_sV (c := 7), fI_sV (c := 8), fI_sV (c := 9), fI_sV (c := 10), fI_sV (c := 11), fI_sV (c := 12), fI_sV (c := 6), fL_sV (c := 9), fL_sV (c := 12), fI_sV_k, fL_sV_k, fV_sV_k, fI_wF, fI_wG, fI_wR, fL_wF, fL_wG, fL_wR, fV_wF, fV_wG, fV_wR, aF_sV, aG_sV, aR_sV, aF_wG, aF_wR, aG_wF, aG_wR, aR_wF, aR_wG, kC, kM, gM g', gN g', ti_clamp, h1, Int.toNat_natCast, iv1, true_and, e83', ti_lt, e16]
      have e0 : 1 + 40 * g0 = 1 + 640 * m r := by omega
      rw [e0] at h5 hF
      exact jif_n (by omega) (H h' a5 k h5 hF)
    | succ j ih =>
      intro g0 h' a5 a6 o c z hj h6 h5 k hF
      have g' := (GM_fr w k rfl).1
      have e83' : aF h' 83 = aF h 83 := frF k (by decide)
      have h6' : (a6 + 1).toInt = ((g0 + 1 : Nat) : Int) := (by simp only [Int32.toInt_add, Int32.toInt_sub, Int32.toInt_mul, Int32.toInt_neg, Int.bmod_def, tl]; omega)
      refine jT_X12_fitting_31 ?_
      simp (decide := true) only [jgI_ob, jgf_ob, jgL_ob, jpI_ob, jpL_ob, jpR_ob, jpN_ob, jrc_ob, obj_sV, obj_wF, obj_wG, obj_wR, arr_sV, arr_wF, arr_wG, arr_wR, arL_sV, arL_wF, arL_wG, arL_wR, arR_sV, arR_wF, arR_wG, arR_wR, fI_sV (c := 0), fI_sV (c := 1), fI_sV (c := 2), fI_sV (c := 4), fI_sV (c := 5), fI_sV (c := 7), fI_sV (c := 8), fI_sV (c := 9), fI_sV (c := 10), fI_sV (c := 11), fI_sV (c := 12), fI_sV (c := 6), fL_sV (c := 9), fL_sV (c := 12), fI_sV_k, fL_sV_k, fV_sV_k, fI_wF, fI_wG, fI_wR, fL_wF, fL_wG, fL_wR, fV_wF, fV_wG, fV_wR, aF_sV, aG_sV, aR_sV, aF_wG, aF_wR, aG_wF, aG_wR, aR_wF, aR_wG, kC, kM, gM g', gN g', ti_clamp, h1, Int.toNat_natCast, iv1, true_and, e83', ti_lt, e16]
      refine jif_t (by omega) (L2 41 g0 (-20) (1 + 40 * g0) h' _ _ _ _ _ (by omega) (by omega) h6 (by omega) rfl (by rw [if_pos (by decide)]; omega) h5 k hF (fun h2 b5 o c z hb k2 hF2 => ih (g0 + 1) h2 _ _ _ _ _ (by omega) h6' hb k2 hF2))
  have g := w.1
  rw [jE_X12_fitting]
  refine jT_X12_fitting_0 ?_
  simp (decide := true) only [jgI_ob, jgf_ob, jgL_ob, jpI_ob, jpL_ob, jpR_ob, jpN_ob, jrc_ob, obj_sV, obj_wF, obj_wG, obj_wR, arr_sV, arr_wF, arr_wG, arr_wR, arL_sV, arL_wF, arL_wG, arL_wR, arR_sV, arR_wF, arR_wG, arR_wR, fI_sV (c := 0), fI_sV (c := 1), fI_sV (c := 2), fI_sV (c := 4), fI_sV (c := 5), fI_sV (c := 7), fI_sV (c := 8), fI_sV (c := 9), fI_sV (c := 10), fI_sV (c := 11), fI_sV (c := 12), fI_sV (c := 6), fL_sV (c := 9), fL_sV (c := 12), fI_sV_k, fL_sV_k, fV_sV_k, fI_wF, fI_wG, fI_wR, fL_wF, fL_wG, fL_wR, fV_wF, fV_wG, fV_wR, aF_sV, aG_sV, aR_sV, aF_wG, aF_wR, aG_wF, aG_wR, aR_wF, aR_wG, gM g, gN g, ti_lt, tl, true_and]
  have st := step 0 h 0 rfl (by omega) rfl (fun u hu => by omega)
  refine c_fits w h1 h2 (v := 0) rfl rfl (by omega) h3 (fun q => ?_) (fun q => ?_)
  · rw [hp] at q
    refine jif_t rfl (L1 (16 * m r) 0 h 0 0 _ _ _ (by omega) rfl ?_ fr_rfl ?_)
    · rw [show 1 + 40 * 0 = 0 + 1 by omega, (st.1 q).1]; rfl
    · exact (st.1 q).2
  · rw [hp] at q
    refine jif_n (by decide) ?_
    simp (decide := true) only [jgI_ob, jgf_ob, jgL_ob, jpI_ob, jpL_ob, jpR_ob, jpN_ob, jrc_ob, obj_sV, obj_wF, obj_wG, obj_wR, arr_sV, arr_wF, arr_wG, arr_wR, arL_sV, arL_wF, arL_wG, arL_wR, arR_sV, arR_wF, arR_wG, arR_wR, fI_sV (c := 0), fI_sV (c := 1), fI_sV (c := 2), fI_sV (c := 4), fI_sV (c := 5), fI_sV (c := 7), fI_sV (c := 8), fI_sV (c := 9), fI_sV (c := 10), fI_sV (c := 11), fI_sV (c := 12), fI_sV (c := 6), fL_sV (c := 9), fL_sV (c := 12), fI_sV_k, fL_sV_k, fV_sV_k, fI_wF, fI_wG, fI_wR, fL_wF, fL_wG, fL_wR, fV_wF, fV_wG, fV_wR, aF_sV, aG_sV, aR_sV, aF_wG, aF_wR, aG_wF, aG_wR, aR_wF, aR_wG, gM g, gN g, ti_lt, tl, true_and]
    refine L1 (16 * m r) 0 _ _ 0 _ _ _ (by omega) rfl ?_ (fr_sV (by decide) (fr_sV (by decide) fr_rfl)) ?_
    · rw [show 1 + 40 * 0 = 0 + 1 by omega, (st.2 q).1]; rfl
    · intro u hu hpu hc
      have u0 : u = 0 := by omega
      subst u0
      simp (decide := true) only [jgI_ob, jgf_ob, jgL_ob, jpI_ob, jpL_ob, jpR_ob, jpN_ob, jrc_ob, obj_sV, obj_wF, obj_wG, obj_wR, arr_sV, arr_wF, arr_wG, arr_wR, arL_sV, arL_wF, arL_wG, arL_wR, arR_sV, arR_wF, arR_wG, arR_wR, fI_sV (c := 0), fI_sV (c := 1), fI_sV (c := 2), fI_sV (c := 4), fI_sV (c := 5), fI_sV (c := 7), fI_sV (c := 8), fI_sV (c := 9), fI_sV (c := 10), fI_sV (c := 11), fI_sV (c := 12), fI_sV (c := 6), fL_sV (c := 9), fL_sV (c := 12), fI_sV_k, fL_sV_k, fV_sV_k, fI_wF, fI_wG, fI_wR, fL_wF, fL_wG, fL_wR, fV_wF, fV_wG, fV_wR, aF_sV, aG_sV, aR_sV, aF_wG, aF_wR, aG_wF, aG_wR, aR_wF, aR_wG, gM g]
      try exact ⟨rfl, rfl⟩
end GMO
