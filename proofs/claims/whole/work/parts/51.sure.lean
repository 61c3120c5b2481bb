/-! SURE AND ODD -/
section SUR
variable {X : JX} {d : Nat} {Q : JQ} {h : JH} {n : Nat} {m ρ τ f : Nat → Nat} {b t : Nat → Bool} {fl : Nat → Nat → Int} {A72 A73 A74 A75 A76 : Nat → Int32} {r N : Nat} {M : Int}
/-- the scale that all guesses so far blame -/
def SB (p : Nat → Bool) (v : Nat) (a : Int) : Prop := (a = -2 ∧ ∀ u, u < v → p u = false) ∨ ∃ s : Nat, a = s ∧ (∃ u, u < v ∧ p u = true) ∧ ∀ u, u < v → p u = true → (u - 1) / 640 = s
theorem l_sure (w : GM h n m ρ τ b f t fl A72 A73 A74 A75 A76 r N M) {a1 a2 : Int32} (h1 : a1.toInt = r) (h2 : a2.toInt = N) {p : Nat → Bool} (hp : FT (tI A73) (tI A74) (tI A75) (knS (tI A72) (tI A76) r N N) M N (-1) = p) (p0 : p 0 = false) (H : ∀ y : Int32, BS p (1 + 640 * m r) y.toInt → Q (some (.int y)) h) : ∀ (j g0 : Nat) (a3 a4 : Int32) (o5 o6 : Option Value) (c z : Nat), j + g0 = 16 * m r → a4.toInt = g0 → SB p (1 + 40 * g0) a3.toInt → jB_X12_sure_45 X (d + 3) Q 81 a1 a2 a3 a4 o5 o6 h c z := by
  have x := w.2.1
  have g := w.1
  have hr := w.2.2.2.1
  have nn := x.1
  obtain ⟨mm, -, -, -, -, -, -, e83⟩ := x.2.2.2.1 r hr
  have iv1 : vp_in a1 4 := by rw [vp_inI]; omega
  have e16 : (16 * aF h 83 r).toInt = ((16 * m r : Nat) : Int) := (by simp only [Int32.toInt_add, Int32.toInt_sub, Int32.toInt_mul, Int32.toInt_neg, Int.bmod_def, tl]; omega)
  intro j
  induction j with
  | zero =>
    intro g0 a3 a4 o5 o6 c z hj h4 hS
    refine jT_X12_sure_45 ?_
    simp (decide := true) only [jgI_ob, jgf_ob, jgL_ob, jpI_ob, jpL_ob, jpR_ob, jpN_ob, jrc_ob, obj_sV, obj_wF, obj_wG, obj_wR, arr_sV, arr_wF, arr_wG, arr_wR, arL_sV, arL_wF, arL_wG, arL_wR, arR_sV, arR_wF, arR_wG, arR_wR, fI_sV (c := 0), fI_sV (c := 1), fI_sV (c := 2), fI_sV (c := 4), fI_sV (c := 5), fI_sV (c := 7), fI_sV (c := 8), fI_sV (c := 9), fI_sV (c := 10), fI_sV (c := 11), fI_sV (c := 12), fI_sV (c := 6), fL_sV (c := 9), fL_sV (c := 12), fI_sV_k, fL_sV_k, fV_sV_k, fI_wF, fI_wG, fI_wR, fL_wF, fL_wG, fL_wR, fV_wF, fV_wG, fV_wR, aF_sV, aG_sV, aR_sV, aF_wG, aF_wR, aG_wF, aG_wR, aR_wF, aR_wG, kC, kM, gM g, gN g, ti_clamp, h1, Int.toNat_natCast, iv1, true_and, ti_lt, e16]
    have e0 : 1 + 40 * g0 = 1 + 640 * m r := by omega
    rw [e0] at hS
    refine jif_n (by omega) (H _ ?_)
    rcases hS with ⟨s1, s2⟩ | ⟨s, s1, s2, s3⟩
    · exact Or.inr (Or.inl ⟨p0, s2, s1⟩)
    · exact Or.inr (Or.inr (Or.inl ⟨p0, s, s2, s3, s1⟩))
  | succ j ih =>
    intro g0 a3 a4 o5 o6 c z hj h4 hS
    have h4' : (a4 + 1).toInt = ((g0 + 1 : Nat) : Int) := (by simp only [Int32.toInt_add, Int32.toInt_sub, Int32.toInt_mul, Int32.toInt_neg, Int.bmod_def, tl]; omega)
    have hg : g0 < 16 * m r := by omega
    have e416 : (a4 / 16).toInt = ((g0 / 16 : Nat) : Int) := by
      rw [ti_divp (by omega) (by decide), h4]; rfl
    -- when none of the block fits
    have N0 : (∀ u, 1 + 40 * g0 ≤ u → u < 1 + 40 * (g0 + 1) → p u = false) → ∀ (o5 o6 : Option Value) (c z : Nat), jB_X12_sure_45 X (d + 3) Q 81 a1 a2 a3 (a4 + 1) o5 o6 h c z := by
      intro hb o5 o6 c z
      refine ih (g0 + 1) a3 _ _ _ _ _ (by omega) h4' ?_
      rcases hS with ⟨s1, s2⟩ | ⟨s, s1, ⟨u, s2, s3⟩, s4⟩
      · refine Or.inl ⟨s1, fun u hu => ?_⟩
        by_cases q : u < 1 + 40 * g0
        · exact s2 u q
        · exact hb u (by omega) hu
      · refine Or.inr ⟨s, s1, ⟨u, by omega, s3⟩, fun v hv hpv => ?_⟩
        by_cases q : v < 1 + 40 * g0
        · exact s4 v q hpv
        · rw [hb v (by omega) hv] at hpv; cases hpv
    -- when one of it fits
    have N1 : ∀ u, 1 + 40 * g0 ≤ u → u < 1 + 40 * (g0 + 1) → p u = true → ∀ (oa ob : Option Value) (c z : Nat), (a3.toInt < 0 → jB_X12_sure_45 X (d + 3) Q 81 a1 a2 (a4 / 16) (a4 + 1) oa ob h c z) ∧ (¬ a3.toInt < 0 → (a3.toInt = (a4 / 16).toInt → jB_X12_sure_45 X (d + 3) Q 81 a1 a2 (a4 / 16) (a4 + 1) oa ob h c z) ∧ (¬ a3.toInt = (a4 / 16).toInt → Q (some (.int (-2))) h)) := by
      intro u hu1 hu2 hpu oa ob c z
      have su : (u - 1) / 640 = g0 / 16 := by omega
      have nxt : (∀ v, v < 1 + 40 * g0 → p v = true → (v - 1) / 640 = g0 / 16) → jB_X12_sure_45 X (d + 3) Q 81 a1 a2 (a4 / 16) (a4 + 1) oa ob h c z := fun hv => ih (g0 + 1) _ _ _ _ _ _ (by omega) h4' (Or.inr ⟨g0 / 16, e416, ⟨u, by omega, hpu⟩, fun v hv1 hpv => by
        by_cases q : v < 1 + 40 * g0
        · exact hv v q hpv
        · omega⟩)
      rcases hS with ⟨s1, s2⟩ | ⟨s, s1, ⟨v, s2, s3⟩, s4⟩
      · exact ⟨fun _ => nxt (fun v hv hpv => by rw [s2 v hv] at hpv; cases hpv), fun q => by omega⟩
      · refine ⟨fun q => by omega, fun _ => ⟨fun q => nxt (fun v hv hpv => by have := s4 v hv hpv; omega), fun q => H _ (Or.inr (Or.inr (Or.inr ⟨p0, v, u, by omega, by omega, s3, hpu, ?_, rfl⟩)))⟩⟩
        have := s4 v s2 s3
        omega
    -- the end of a block
    have EX1 : ∀ (a5 a6 : Int32) (c z : Nat), a5 = 1 → (∃ u, 1 + 40 * g0 ≤ u ∧ u < 1 + 40 * (g0 + 1) ∧ p u = true) → jifp (a5 = 0) (jifp (a5 = 0) (jB_X12_sure_45 X (d + 3) Q 81 a1 a2 a3 (a4 + 1) (some (.int a5)) (some (.int a6)) h c z) (¬ (16 : Int32) = 0 ∧ (jB_X12_sure_45 X (d + 3) Q 81 a1 a2 (a4 / 16) (a4 + 1) (some (.int a5)) (some (.int a6)) h c z))) (jifp (a3 < 0) (jifp (a5 = 0) (jB_X12_sure_45 X (d + 3) Q 81 a1 a2 a3 (a4 + 1) (some (.int a5)) (some (.int a6)) h c z) (¬ (16 : Int32) = 0 ∧ (jB_X12_sure_45 X (d + 3) Q 81 a1 a2 (a4 / 16) (a4 + 1) (some (.int a5)) (some (.int a6)) h c z))) (¬ (16 : Int32) = 0 ∧ (jifp (a3 = (a4 / 16)) (jifp (a5 = 0) (jB_X12_sure_45 X (d + 3) Q 81 a1 a2 a3 (a4 + 1) (some (.int a5)) (some (.int a6)) h c z) (¬ (16 : Int32) = 0 ∧ (jB_X12_sure_45 X (d + 3) Q 81 a1 a2 (a4 / 16) (a4 + 1) (some (.int a5)) (some (.int a6)) h c z))) (Q (some (.int (-2))) h)))) := by
      intro a5 a6 c z h5 ⟨u, u1, u2, u3⟩
      subst h5
      have n1 := N1 u u1 u2 u3 (some (.int 1)) (some (.int a6)) c z
      refine jif_n (by decide) ⟨fun q => jif_n (by decide) ⟨by decide, n1.1 (by rw [ti_lt, tl.1] at q; exact q)⟩, fun q => ⟨by decide, fun q2 => jif_n (by decide) ⟨by decide, (n1.2 (by rw [ti_lt, tl.1] at q; exact q)).1 (by rw [q2])⟩, fun q2 => (n1.2 (by rw [ti_lt, tl.1] at q; exact q)).2 (fun e => q2 (by rw [ti_eq]; exact e))⟩⟩
    have L2 : ∀ (k : Nat) (dd : Int) (v : Nat) (a5 a6 : Int32) (c z : Nat), (k : Int) + dd = 21 → -20 ≤ dd → a6.toInt = dd → (v : Int) = 1 + 40 * (g0 : Int) + (if dd ≤ 0 then dd + 20 else dd + 19) → ((a5 = 0 ∧ ∀ u, 1 + 40 * g0 ≤ u → u < v → p u = false) ∨ (a5 = 1 ∧ ∃ u, 1 + 40 * g0 ≤ u ∧ u < 1 + 40 * (g0 + 1) ∧ p u = true)) → jB_X12_sure_66 X (d + 3) Q 81 a1 a2 a3 a4 a5 a6 h c z := by
      intro k
      induction k with
      | zero =>
        intro dd v a5 a6 c z hk hd h6 hv hI
        have ed : dd = 21 := by omega
        subst ed
        rw [if_neg (by decide)] at hv
        refine jT_X12_sure_66 (jif_t (by rw [ti_lt, h6]; decide) ?_)
        rcases hI with ⟨i1, i2⟩ | ⟨i1, i2⟩
        · subst i1
          exact jif_t rfl (jif_t rfl (N0 (fun u hu1 hu2 => i2 u hu1 (by omega)) _ _ _ _))
        · exact EX1 a5 a6 c z i1 i2
      | succ k ihk =>
        intro dd v a5 a6 c z hk hd h6 hv hI
        have h6' : (a6 + 1).toInt = dd + 1 := (by simp only [Int32.toInt_add, Int32.toInt_sub, Int32.toInt_mul, Int32.toInt_neg, Int.bmod_def, tl]; omega)
        refine jT_X12_sure_66 (jif_n (by rw [ti_lt, h6, show (20 : Int32).toInt = 20 from rfl]; omega) ?_)
        rcases hI with ⟨i1, i2⟩ | ⟨i1, i2⟩
        · subst i1
          refine jif_t rfl ⟨fun c0 => ?_, fun c0 => ?_⟩
          · rw [ti_eq, h6, tl.1] at c0
            refine ihk (dd + 1) v _ _ _ _ (by omega) (by omega) h6' ?_ (Or.inl ⟨rfl, i2⟩)
            rw [hv, c0]; rfl
          · rw [ti_eq, h6, tl.1] at c0
            obtain ⟨ii, j1, j2, j3⟩ := pos_flw (dd := dd) (by omega) (by omega) c0
            rw [← j3] at hv
            have ev : v = 1 + 40 * g0 + ii := by omega
            have gg := gs_s (g := g0) j1
            rw [← ev] at gg
            have nx : ((v + 1 : Nat) : Int) = 1 + 40 * (g0 : Int) + (if dd + 1 ≤ 0 then dd + 1 + 20 else dd + 1 + 19) := by
              by_cases q : dd ≤ 0
              · rw [if_pos q] at j3
                by_cases q2 : dd + 1 ≤ 0
                · rw [if_pos q2]; omega
                · omega
              · rw [if_neg q] at j3
                rw [if_neg (by omega)]; omega
            simp (decide := true) only [jgI_ob, jgf_ob, jgL_ob, jpI_ob, jpL_ob, jpR_ob, jpN_ob, jrc_ob, obj_sV, obj_wF, obj_wG, obj_wR, arr_sV, arr_wF, arr_wG, arr_wR, arL_sV, arL_wF, arL_wG, arL_wR, arR_sV, arR_wF, arR_wG, arR_wR, fI_sV (c := 0), fI_sV (c := 1), fI_sV (c := 2), fI_sV (c := 4), fI_sV (c := 5), fI_sV (c := 7), fI_sV (c := 8), fI_sV (c := 9), fI_sV (c := 10), fI_sV (c := 11), fI_sV (c := 12), fI_sV (c := 6), fL_sV (c := 9), fL_sV (c := 12), fI_sV_k, fL_sV_k, fV_sV_k, fI_wF, fI_wG, fI_wR, fL_wF, fL_wG, fL_wR, fV_wF, fV_wG, fV_wR, aF_sV, aG_sV, aR_sV, aF_wG, aF_wR, aG_wF, aG_wR, aR_wF, aR_wG, gM g, gN g, ti_lt, tl, true_and]
            refine c_fits w h1 h2 (v := v) (by rw [h4, gg.1]) (by rw [h6, gg.2, j2]) (by omega) rfl (fun q => ?_) (fun q => ?_)
            · rw [show (-1 : Int32).toInt = -1 from rfl, hp] at q
              refine jif_t rfl (ihk (dd + 1) (v + 1) _ _ _ _ (by omega) (by omega) h6' nx (Or.inl ⟨rfl, fun u hu1 hu2 => ?_⟩))
              by_cases e : u = v
              · rw [e]; exact q
              · exact i2 u hu1 (by omega)
            · rw [show (-1 : Int32).toInt = -1 from rfl, hp] at q
              exact jif_n (by decide) (ihk (dd + 1) (v + 1) _ _ _ _ (by omega) (by omega) h6' nx (Or.inr ⟨rfl, v, by omega, by omega, q⟩))
        · exact jif_n (by rw [i1]; decide) (EX1 a5 a6 c z i1 i2)
    refine jT_X12_sure_45 ?_
    simp (decide := true) only [jgI_ob, jgf_ob, jgL_ob, jpI_ob, jpL_ob, jpR_ob, jpN_ob, jrc_ob, obj_sV, obj_wF, obj_wG, obj_wR, arr_sV, arr_wF, arr_wG, arr_wR, arL_sV, arL_wF, arL_wG, arL_wR, arR_sV, arR_wF, arR_wG, arR_wR, fI_sV (c := 0), fI_sV (c := 1), fI_sV (c := 2), fI_sV (c := 4), fI_sV (c := 5), fI_sV (c := 7), fI_sV (c := 8), fI_sV (c := 9), fI_sV (c := 10), fI_sV (c := 11), fI_sV (c := 12), fI_sV (c := 6), fL_sV (c := 9), fL_sV (c := 12), fI_sV_k, fL_sV_k, fV_sV_k, fI_wF, fI_wG, fI_wR, fL_wF, fL_wG, fL_wR, fV_wF, fV_wG, fV_wR, aF_sV, aG_sV, aR_sV, aF_wG, aF_wR, aG_wF, aG_wR, aR_wF, aR_wG, kC, kM, gM g, gN g, ti_clamp, h1, Int.toNat_natCast, iv1, true_and, ti_lt, e16]
    exact jif_t (by omega) (L2 41 (-20) (1 + 40 * g0) 0 (-20) _ _ (by omega) (by omega) rfl (by rw [if_pos (by decide)]; omega) (Or.inl ⟨rfl, fun u hu1 hu2 => by omega⟩))
theorem l_odd (w : GM h n m ρ τ b f t fl A72 A73 A74 A75 A76 r N M) {a1 a2 : Int32} (h1 : a1.toInt = r) (h2 : a2.toInt = N) {kn : Nat → Bool} (hkn : knS (tI A72) (tI A76) r N N = kn) (H : ∀ (h' : JH) (y : Int32), fr [] [(81, 83), (81, 84)] h h' → y.toInt = odd1 kn (fun a => cnt (FT (tI A73) (tI A74) (tI A75) kn M N a) (1 + 640 * m r)) N → Q (some (.int y)) h') : ∀ (j k : Nat) (h' : JH) (a3 a4 a5 : Int32) (o6 : Option Value) (c z : Nat), j + k = N → a5.toInt = k → fr [] [(81, 83), (81, 84)] h h' → a3.toInt = odd1 kn (fun a => cnt (FT (tI A73) (tI A74) (tI A75) kn M N a) (1 + 640 * m r)) k → a4.toInt = (if a3.toInt = -1 then -1 else ((cnt (FT (tI A73) (tI A74) (tI A75) kn M N a3.toInt.toNat) (1 + 640 * m r) : Nat) : Int)) → jB_X12_odd_32 X (d + 4) Q 81 a1 a2 a3 a4 a5 o6 h' c z := by
  have c80 := w.2.2.1.2.2.1
  have hN := w.2.2.2.2.1
  intro j
  induction j with
  | zero =>
    intro k h' a3 a4 a5 o6 c z hj h5 kk e3 e4
    refine jT_X12_odd_32 (jif_n (by rw [ti_lt]; omega) (H h' a3 kk ?_))
    rw [e3, show k = N by omega]
  | succ j ih =>
    intro k h' a3 a4 a5 o6 c z hj h5 kk e3 e4
    have w' := GM_fr w kk rfl
    have g' := w'.1
    have hk := w'.2.2.2.2.2.2.2 k (by omega)
    rw [hkn] at hk
    have h5' : (a5 + 1).toInt = ((k + 1 : Nat) : Int) := (by simp only [Int32.toInt_add, Int32.toInt_sub, Int32.toInt_mul, Int32.toInt_neg, Int.bmod_def, tl]; omega)
    have iv : vp_in a5 80 := by rw [vp_inI]; omega
    have rg := odd1_rg (kn := kn) (G := fun a => cnt (FT (tI A73) (tI A74) (tI A75) kn M N a) (1 + 640 * m r)) k
    have st : odd1 kn (fun a => cnt (FT (tI A73) (tI A74) (tI A75) kn M N a) (1 + 640 * m r)) (k + 1) = if kn k = true ∧ (odd1 kn (fun a => cnt (FT (tI A73) (tI A74) (tI A75) kn M N a) (1 + 640 * m r)) k = -1 ∨ cnt (FT (tI A73) (tI A74) (tI A75) kn M N (odd1 kn (fun a => cnt (FT (tI A73) (tI A74) (tI A75) kn M N a) (1 + 640 * m r)) k).toNat) (1 + 640 * m r) < cnt (FT (tI A73) (tI A74) (tI A75) kn M N k) (1 + 640 * m r)) then (k : Int) else odd1 kn (fun a => cnt (FT (tI A73) (tI A74) (tI A75) kn M N a) (1 + 640 * m r)) k := rfl
    rw [← e3] at st rg
    refine jT_X12_odd_32 (jif_t (by rw [ti_lt]; omega) ?_)
    simp (decide := true) only [jgI_ob, jgf_ob, jgL_ob, jpI_ob, jpL_ob, jpR_ob, jpN_ob, jrc_ob, obj_sV, obj_wF, obj_wG, obj_wR, arr_sV, arr_wF, arr_wG, arr_wR, arL_sV, arL_wF, arL_wG, arL_wR, arR_sV, arR_wF, arR_wG, arR_wR, fI_sV (c := 0), fI_sV (c := 1), fI_sV (c := 2), fI_sV (c := 4), fI_sV (c := 5), fI_sV (c := 7), fI_sV (c := 8), fI_sV (c := 9), fI_sV (c := 10), fI_sV (c := 11), fI_sV (c := 12), fI_sV (c := 6), fL_sV (c := 9), fL_sV (c := 12), fI_sV_k, fL_sV_k, fV_sV_k, fI_wF, fI_wG, fI_wR, fL_wF, fL_wG, fL_wR, fV_wF, fV_wG, fV_wR, aF_sV, aG_sV, aR_sV, aF_wG, aF_wR, aG_wF, aG_wR, aR_wF, aR_wG, kC, kM, gM g', gN g', ti_clamp, h5, Int.toNat_natCast, iv, true_and, hk]
    cases ekn : kn k
    · refine jif_t rfl (jif_n ?_ (ih (k + 1) h' _ _ _ _ _ _ (by omega) h5' kk ?_ e4))
      · rw [ti_lt, e4, show (-1 : Int32).toInt = -1 from rfl]; split <;> omega
      · rw [st, if_neg (by rw [ekn]; simp)]
    · refine jif_n (by decide) (c_mfit w' h1 h2 rfl rfl (fun h4 y k4 hy _ => ?_))
      try dsimp only [jrI, jrN, jrA, jisr, jnul, jcat1]
      rw [h5, hkn] at hy
      have kk4 := fr_trans kk k4
      refine ⟨fun q => ?_, fun q => ?_⟩
      · rw [ti_lt, hy, e4] at q
        refine ih (k + 1) h4 _ _ _ _ _ _ (by omega) h5' kk4 ?_ ?_
        · have dj : a3.toInt = -1 ∨ cnt (FT (tI A73) (tI A74) (tI A75) kn M N a3.toInt.toNat) (1 + 640 * m r) < cnt (FT (tI A73) (tI A74) (tI A75) kn M N k) (1 + 640 * m r) := by
            by_cases q2 : a3.toInt = -1
            · exact Or.inl q2
            · rw [if_neg q2] at q
              right
              omega
          rw [st, if_pos ⟨ekn, dj⟩]
          exact h5
        · rw [h5, if_neg (by omega), hy, Int.toNat_natCast]
      · rw [ti_lt, hy, e4] at q
        refine ih (k + 1) h4 _ _ _ _ _ _ (by omega) h5' kk4 ?_ e4
        rw [st, if_neg]
        rintro ⟨-, q2 | q2⟩
        · rw [if_pos q2] at q; omega
        · by_cases q3 : a3.toInt = -1
          · rw [if_pos q3] at q; omega
          · rw [if_neg q3] at q; omega
end SUR
section SUC
variable {X : JX} {h : JH} {n : Nat} {m ρ τ f : Nat → Nat} {b t : Nat → Bool} {fl : Nat → Nat → Int}
theorem a_sure (g : G h) (x : RB h n m ρ τ b f t fl) (fa : FA h n m f t) (st : ST h) {a1 a2 : Int32} : AGR X 296 298 [.int a1, .int a2] h (fun h2 => fr [77, 78, 79, 80, 125] [(71, 9), (81, 83), (81, 84)] h h2) := by
  obtain ⟨ec, c0, c80, -⟩ := id fa
  intro Q K
  rw [jE_X11_sure]
  refine jT_X11_sure_0 ?_
  simp (decide := true) only [jgI_ob, jgf_ob, jgL_ob, jpI_ob, jpL_ob, jpR_ob, jpN_ob, jrc_ob, obj_sV, obj_wF, obj_wG, obj_wR, arr_sV, arr_wF, arr_wG, arr_wR, arL_sV, arL_wF, arL_wG, arL_wR, arR_sV, arR_wF, arR_wG, arR_wR, fI_sV (c := 0), fI_sV (c := 1), fI_sV (c := 2), fI_sV (c := 4), fI_sV (c := 5), fI_sV (c := 7), fI_sV (c := 8), fI_sV (c := 9), fI_sV (c := 10), fI_sV (c := 11), fI_sV (c := 12), fI_sV (c := 6), fL_sV (c := 9), fL_sV (c := 12), fI_sV_k, fL_sV_k, fV_sV_k, fI_wF, fI_wG, fI_wR, fL_wF, fL_wG, fL_wR, fV_wF, fV_wG, fV_wR, aF_sV, aG_sV, aR_sV, aF_wG, aF_wR, aG_wF, aG_wR, aR_wF, aR_wG, gO g, gF g, ti_lt, tl, true_and]
  refine c_weighed g x fa (fun c => ?_) (fun r N h1 hr er eN hN k1 eg ek ev => ?_)
  · refine jif_t rfl (K _ _ (fun Q2 H => ?_))
    have HH := H _ fr_rfl
    rw [jE_X12_sure]
    refine jT_X12_sure_0 ?_
    simp (decide := true) only [jgI_ob, jgf_ob, jgL_ob, jpI_ob, jpL_ob, jpR_ob, jpN_ob, jrc_ob, obj_sV, obj_wF, obj_wG, obj_wR, arr_sV, arr_wF, arr_wG, arr_wR, arL_sV, arL_wF, arL_wG, arL_wR, arR_sV, arR_wF, arR_wG, arR_wR, fI_sV (c := 0), fI_sV (c := 1), fI_sV (c := 2), fI_sV (c := 4), fI_sV (c := 5), fI_sV (c := 7), fI_sV (c := 8), fI_sV (c := 9), fI_sV (c := 10), fI_sV (c := 11), fI_sV (c := 12), fI_sV (c := 6), fL_sV (c := 9), fL_sV (c := 12), fI_sV_k, fL_sV_k, fV_sV_k, fI_wF, fI_wG, fI_wR, fL_wF, fL_wG, fL_wR, fV_wF, fV_wG, fV_wR, aF_sV, aG_sV, aR_sV, aF_wG, aF_wR, aG_wF, aG_wR, aR_wF, aR_wG, gM g, gN g, ti_lt, tl, true_and]
    refine c_isRule g x (fun _ => jif_t rfl HH) (fun r hr er => jif_n (by decide) ?_)
    simp (decide := true) only [jgI_ob, jgf_ob, jgL_ob, jpI_ob, jpL_ob, jpR_ob, jpN_ob, jrc_ob, obj_sV, obj_wF, obj_wG, obj_wR, arr_sV, arr_wF, arr_wG, arr_wR, arL_sV, arL_wF, arL_wG, arL_wR, arR_sV, arR_wF, arR_wG, arR_wR, fI_sV (c := 0), fI_sV (c := 1), fI_sV (c := 2), fI_sV (c := 4), fI_sV (c := 5), fI_sV (c := 7), fI_sV (c := 8), fI_sV (c := 9), fI_sV (c := 10), fI_sV (c := 11), fI_sV (c := 12), fI_sV (c := 6), fL_sV (c := 9), fL_sV (c := 12), fI_sV_k, fL_sV_k, fV_sV_k, fI_wF, fI_wG, fI_wR, fL_wF, fL_wG, fL_wR, fV_wF, fV_wG, fV_wR, aF_sV, aG_sV, aR_sV, aF_wG, aF_wR, aG_wF, aG_wR, aR_wF, aR_wG, gM g, gN g, ti_lt, tl, true_and]
    refine c_isKnown g fa (fun _ => jif_t rfl HH) (fun q1 q2 => absurd ⟨r, a2.toInt.toNat, hr, er, by omega, by omega⟩ c)
  · have g1 := G_fr g rfl k1
    have mm := (x.2.2.2.1 r hr).1
    try dsimp only [jrI, jrN, jrA, jisr, jnul, jcat1]
    refine jif_n (by decide) ?_
    simp (decide := true) only [jgI_ob, jgf_ob, jgL_ob, jpI_ob, jpL_ob, jpR_ob, jpN_ob, jrc_ob, obj_sV, obj_wF, obj_wG, obj_wR, arr_sV, arr_wF, arr_wG, arr_wR, arL_sV, arL_wF, arL_wG, arL_wR, arR_sV, arR_wF, arR_wG, arR_wR, fI_sV (c := 0), fI_sV (c := 1), fI_sV (c := 2), fI_sV (c := 4), fI_sV (c := 5), fI_sV (c := 7), fI_sV (c := 8), fI_sV (c := 9), fI_sV (c := 10), fI_sV (c := 11), fI_sV (c := 12), fI_sV (c := 6), fL_sV (c := 9), fL_sV (c := 12), fI_sV_k, fL_sV_k, fV_sV_k, fI_wF, fI_wG, fI_wR, fL_wF, fL_wG, fL_wR, fV_wF, fV_wG, fV_wR, aF_sV, aG_sV, aR_sV, aF_wG, aF_wR, aG_wF, aG_wR, aR_wF, aR_wG, gO g1, gF g1]
    refine c_blamed g1 eg (by omega) (by omega) (FT_78 (fun k hk => (knS_N hk).1) (by omega) (fun v hv => (ev v hv).1)) (fun y hy => ?_)
    try dsimp only [jrI, jrN, jrA, jisr, jnul, jcat1]
    refine K _ _ (fun Q2 H => ?_)
    have x1 := RB_fr x k1 rfl
    have fa1 := FA_fw fa (fw_fr k1) rfl rfl
    have e5 : fI h1 71 5 = fI h 71 5 := frI k1 (by decide) (by decide)
    rw [jE_X12_sure]
    refine jT_X12_sure_0 ?_
    simp (decide := true) only [jgI_ob, jgf_ob, jgL_ob, jpI_ob, jpL_ob, jpR_ob, jpN_ob, jrc_ob, obj_sV, obj_wF, obj_wG, obj_wR, arr_sV, arr_wF, arr_wG, arr_wR, arL_sV, arL_wF, arL_wG, arL_wR, arR_sV, arR_wF, arR_wG, arR_wR, fI_sV (c := 0), fI_sV (c := 1), fI_sV (c := 2), fI_sV (c := 4), fI_sV (c := 5), fI_sV (c := 7), fI_sV (c := 8), fI_sV (c := 9), fI_sV (c := 10), fI_sV (c := 11), fI_sV (c := 12), fI_sV (c := 6), fL_sV (c := 9), fL_sV (c := 12), fI_sV_k, fL_sV_k, fV_sV_k, fI_wF, fI_wG, fI_wR, fL_wF, fL_wG, fL_wR, fV_wF, fV_wG, fV_wR, aF_sV, aG_sV, aR_sV, aF_wG, aF_wR, aG_wF, aG_wR, aR_wF, aR_wG, gM g1, gN g1, ti_lt, tl, true_and]
    refine c_isRule g1 x1 (fun c => absurd ⟨by omega, by omega⟩ c) (fun _ _ _ => jif_n (by decide) ?_)
    simp (decide := true) only [jgI_ob, jgf_ob, jgL_ob, jpI_ob, jpL_ob, jpR_ob, jpN_ob, jrc_ob, obj_sV, obj_wF, obj_wG, obj_wR, arr_sV, arr_wF, arr_wG, arr_wR, arL_sV, arL_wF, arL_wG, arL_wR, arR_sV, arR_wF, arR_wG, arR_wR, fI_sV (c := 0), fI_sV (c := 1), fI_sV (c := 2), fI_sV (c := 4), fI_sV (c := 5), fI_sV (c := 7), fI_sV (c := 8), fI_sV (c := 9), fI_sV (c := 10), fI_sV (c := 11), fI_sV (c := 12), fI_sV (c := 6), fL_sV (c := 9), fL_sV (c := 12), fI_sV_k, fL_sV_k, fV_sV_k, fI_wF, fI_wG, fI_wR, fL_wF, fL_wG, fL_wR, fV_wF, fV_wG, fV_wR, aF_sV, aG_sV, aR_sV, aF_wG, aF_wR, aG_wF, aG_wR, aR_wF, aR_wG, gM g1, gN g1, ti_lt, tl, true_and]
    refine c_isKnown g1 fa1 (fun c => absurd ⟨by omega, by rw [e5]; omega⟩ c) (fun _ _ => jif_n (by decide) ?_)
    simp (decide := true) only [jgI_ob, jgf_ob, jgL_ob, jpI_ob, jpL_ob, jpR_ob, jpN_ob, jrc_ob, obj_sV, obj_wF, obj_wG, obj_wR, arr_sV, arr_wF, arr_wG, arr_wR, arL_sV, arL_wF, arL_wG, arL_wR, arR_sV, arR_wF, arR_wG, arR_wR, fI_sV (c := 0), fI_sV (c := 1), fI_sV (c := 2), fI_sV (c := 4), fI_sV (c := 5), fI_sV (c := 7), fI_sV (c := 8), fI_sV (c := 9), fI_sV (c := 10), fI_sV (c := 11), fI_sV (c := 12), fI_sV (c := 6), fL_sV (c := 9), fL_sV (c := 12), fI_sV_k, fL_sV_k, fV_sV_k, fI_wF, fI_wG, fI_wR, fL_wF, fL_wG, fL_wR, fV_wF, fV_wG, fV_wR, aF_sV, aG_sV, aR_sV, aF_wG, aF_wR, aG_wF, aG_wR, aR_wF, aR_wG, gM g1, gN g1, ti_lt, tl, true_and]
    refine c_keep g1 fa1 er eN (by rw [e5]; exact hN) (fun h3 k3 hk3 => ?_)
    try dsimp only [jrI, jrN, jrA, jisr, jnul, jcat1]
    have f72 : aF h1 72 = aF h 72 := frF k1 (by decide)
    have f76 : aF h1 76 = aF h 76 := frF k1 (by decide)
    rw [f72, f76] at hk3
    have kk : fr [77, 78, 79, 80, 125] [(71, 9), (81, 83), (81, 84)] h h3 := fr_trans (fr_mono (by decide) (by decide) k1) (fr_mono (by decide) (by decide) k3)
    have w := GM_of g x fa st hr hN kk hk3
    have g3 := w.1
    have HH := H _ kk
    simp (decide := true) only [jgI_ob, jgf_ob, jgL_ob, jpI_ob, jpL_ob, jpR_ob, jpN_ob, jrc_ob, obj_sV, obj_wF, obj_wG, obj_wR, arr_sV, arr_wF, arr_wG, arr_wR, arL_sV, arL_wF, arL_wG, arL_wR, arR_sV, arR_wF, arR_wG, arR_wR, fI_sV (c := 0), fI_sV (c := 1), fI_sV (c := 2), fI_sV (c := 4), fI_sV (c := 5), fI_sV (c := 7), fI_sV (c := 8), fI_sV (c := 9), fI_sV (c := 10), fI_sV (c := 11), fI_sV (c := 12), fI_sV (c := 6), fL_sV (c := 9), fL_sV (c := 12), fI_sV_k, fL_sV_k, fV_sV_k, fI_wF, fI_wG, fI_wR, fL_wF, fL_wG, fL_wR, fV_wF, fV_wG, fV_wR, aF_sV, aG_sV, aR_sV, aF_wG, aF_wR, aG_wF, aG_wR, aR_wF, aR_wG, gM g3, gN g3, ti_lt, tl, true_and]
    refine c_fits w er eN (v := 0) rfl rfl (by omega) rfl (fun q => ?_) (fun q => ?_)
    · refine jif_t rfl (l_sure w er eN rfl q (fun y' hy' => ?_) (16 * m r) 0 _ _ _ _ _ _ (by omega) rfl (Or.inl ⟨rfl, fun u hu => ?_⟩))
      · have e := BS_un hy hy'
        rw [show y' = y by rw [ti_eq, e]]
        exact HH
      · rw [show u = 0 by omega]; exact q
    · refine jif_n (by decide) ?_
      have e := BS_un hy (Or.inl ⟨q, rfl⟩)
      rw [show (-2 : Int32) = y by rw [ti_eq, e]; rfl]
      exact HH
theorem a_odd (g : G h) (x : RB h n m ρ τ b f t fl) (fa : FA h n m f t) (st : ST h) {a1 a2 : Int32} : AGR X 299 301 [.int a1, .int a2] h (fun h2 => fr [77, 78, 79, 80, 125] [(71, 9), (81, 83), (81, 84)] h h2) := by
  obtain ⟨ec, c0, c80, -⟩ := id fa
  intro Q K
  rw [jE_X11_odd]
  refine jT_X11_odd_0 ?_
  simp (decide := true) only [jgI_ob, jgf_ob, jgL_ob, jpI_ob, jpL_ob, jpR_ob, jpN_ob, jrc_ob, obj_sV, obj_wF, obj_wG, obj_wR, arr_sV, arr_wF, arr_wG, arr_wR, arL_sV, arL_wF, arL_wG, arL_wR, arR_sV, arR_wF, arR_wG, arR_wR, fI_sV (c := 0), fI_sV (c := 1), fI_sV (c := 2), fI_sV (c := 4), fI_sV (c := 5), fI_sV (c := 7), fI_sV (c := 8), fI_sV (c := 9), fI_sV (c := 10), fI_sV (c := 11), fI_sV (c := 12), fI_sV (c := 6), fL_sV (c := 9), fL_sV (c := 12), fI_sV_k, fL_sV_k, fV_sV_k, fI_wF, fI_wG, fI_wR, fL_wF, fL_wG, fL_wR, fV_wF, fV_wG, fV_wR, aF_sV, aG_sV, aR_sV, aF_wG, aF_wR, aG_wF, aG_wR, aR_wF, aR_wG, gO g, gF g, ti_lt, tl, true_and]
  refine c_weighed g x fa (fun c => ?_) (fun r N h1 hr er eN hN k1 eg ek ev => ?_)
  · refine jif_t rfl (K _ _ (fun Q2 H => ?_))
    have HH := H _ fr_rfl
    rw [jE_X12_odd]
    refine jT_X12_odd_0 ?_
    simp (decide := true) only [jgI_ob, jgf_ob, jgL_ob, jpI_ob, jpL_ob, jpR_ob, jpN_ob, jrc_ob, obj_sV, obj_wF, obj_wG, obj_wR, arr_sV, arr_wF, arr_wG, arr_wR, arL_sV, arL_wF, arL_wG, arL_wR, arR_sV, arR_wF, arR_wG, arR_wR, fI_sV (c := 0), fI_sV (c := 1), fI_sV (c := 2), fI_sV (c := 4), fI_sV (c := 5), fI_sV (c := 7), fI_sV (c := 8), fI_sV (c := 9), fI_sV (c := 10), fI_sV (c := 11), fI_sV (c := 12), fI_sV (c := 6), fL_sV (c := 9), fL_sV (c := 12), fI_sV_k, fL_sV_k, fV_sV_k, fI_wF, fI_wG, fI_wR, fL_wF, fL_wG, fL_wR, fV_wF, fV_wG, fV_wR, aF_sV, aG_sV, aR_sV, aF_wG, aF_wR, aG_wF, aG_wR, aR_wF, aR_wG, gM g, gN g, ti_lt, tl, true_and]
    refine c_isRule g x (fun _ => jif_t rfl HH) (fun r hr er => jif_n (by decide) ?_)
    simp (decide := true) only [jgI_ob, jgf_ob, jgL_ob, jpI_ob, jpL_ob, jpR_ob, jpN_ob, jrc_ob, obj_sV, obj_wF, obj_wG, obj_wR, arr_sV, arr_wF, arr_wG, arr_wR, arL_sV, arL_wF, arL_wG, arL_wR, arR_sV, arR_wF, arR_wG, arR_wR, fI_sV (c := 0), fI_sV (c := 1), fI_sV (c := 2), fI_sV (c := 4), fI_sV (c := 5), fI_sV (c := 7), fI_sV (c := 8), fI_sV (c := 9), fI_sV (c := 10), fI_sV (c := 11), fI_sV (c := 12), fI_sV (c := 6), fL_sV (c := 9), fL_sV (c := 12), fI_sV_k, fL_sV_k, fV_sV_k, fI_wF, fI_wG, fI_wR, fL_wF, fL_wG, fL_wR, fV_wF, fV_wG, fV_wR, aF_sV, aG_sV, aR_sV, aF_wG, aF_wR, aG_wF, aG_wR, aR_wF, aR_wG, gM g, gN g, ti_lt, tl, true_and]
    refine c_isKnown g fa (fun _ => jif_t rfl HH) (fun q1 q2 => absurd ⟨r, a2.toInt.toNat, hr, er, by omega, by omega⟩ c)
  · have g1 := G_fr g rfl k1
    have mm := (x.2.2.2.1 r hr).1
    try dsimp only [jrI, jrN, jrA, jisr, jnul, jcat1]
    refine jif_n (by decide) ?_
    simp (decide := true) only [jgI_ob, jgf_ob, jgL_ob, jpI_ob, jpL_ob, jpR_ob, jpN_ob, jrc_ob, obj_sV, obj_wF, obj_wG, obj_wR, arr_sV, arr_wF, arr_wG, arr_wR, arL_sV, arL_wF, arL_wG, arL_wR, arR_sV, arR_wF, arR_wG, arR_wR, fI_sV (c := 0), fI_sV (c := 1), fI_sV (c := 2), fI_sV (c := 4), fI_sV (c := 5), fI_sV (c := 7), fI_sV (c := 8), fI_sV (c := 9), fI_sV (c := 10), fI_sV (c := 11), fI_sV (c := 12), fI_sV (c := 6), fL_sV (c := 9), fL_sV (c := 12), fI_sV_k, fL_sV_k, fV_sV_k, fI_wF, fI_wG, fI_wR, fL_wF, fL_wG, fL_wR, fV_wF, fV_wG, fV_wR, aF_sV, aG_sV, aR_sV, aF_wG, aF_wR, aG_wF, aG_wR, aR_wF, aR_wG, gO g1, gF g1]
    refine c_oddOne g1 eg (by omega) ek (fun v hv => (ev v hv).1) (fun v hv => (ev v hv).2) (fun h2 y k2 hy => ?_)
    try dsimp only [jrI, jrN, jrA, jisr, jnul, jcat1]
    refine K _ _ (fun Q2 H => ?_)
    have k12 : fr [77, 78, 79, 80] [(71, 9)] h h2 := fr_trans (fr_mono (by decide) (by decide) k1) (fr_mono (by decide) (by decide) k2)
    have g2 := G_fr g rfl k12
    have x2 := RB_fr x k12 rfl
    have fa2 := FA_fw fa (fw_fr k12) rfl rfl
    have e5 : fI h2 71 5 = fI h 71 5 := frI k12 (by decide) (by decide)
    rw [jE_X12_odd]
    refine jT_X12_odd_0 ?_
    simp (decide := true) only [jgI_ob, jgf_ob, jgL_ob, jpI_ob, jpL_ob, jpR_ob, jpN_ob, jrc_ob, obj_sV, obj_wF, obj_wG, obj_wR, arr_sV, arr_wF, arr_wG, arr_wR, arL_sV, arL_wF, arL_wG, arL_wR, arR_sV, arR_wF, arR_wG, arR_wR, fI_sV (c := 0), fI_sV (c := 1), fI_sV (c := 2), fI_sV (c := 4), fI_sV (c := 5), fI_sV (c := 7), fI_sV (c := 8), fI_sV (c := 9), fI_sV (c := 10), fI_sV (c := 11), fI_sV (c := 12), fI_sV (c := 6), fL_sV (c := 9), fL_sV (c := 12), fI_sV_k, fL_sV_k, fV_sV_k, fI_wF, fI_wG, fI_wR, fL_wF, fL_wG, fL_wR, fV_wF, fV_wG, fV_wR, aF_sV, aG_sV, aR_sV, aF_wG, aF_wR, aG_wF, aG_wR, aR_wF, aR_wG, gM g2, gN g2, ti_lt, tl, true_and]
    refine c_isRule g2 x2 (fun c => absurd ⟨by omega, by omega⟩ c) (fun _ _ _ => jif_n (by decide) ?_)
    simp (decide := true) only [jgI_ob, jgf_ob, jgL_ob, jpI_ob, jpL_ob, jpR_ob, jpN_ob, jrc_ob, obj_sV, obj_wF, obj_wG, obj_wR, arr_sV, arr_wF, arr_wG, arr_wR, arL_sV, arL_wF, arL_wG, arL_wR, arR_sV, arR_wF, arR_wG, arR_wR, fI_sV (c := 0), fI_sV (c := 1), fI_sV (c := 2), fI_sV (c := 4), fI_sV (c := 5), fI_sV (c := 7), fI_sV (c := 8), fI_sV (c := 9), fI_sV (c := 10), fI_sV (c := 11), fI_sV (c := 12), fI_sV (c := 6), fL_sV (c := 9), fL_sV (c := 12), fI_sV_k, fL_sV_k, fV_sV_k, fI_wF, fI_wG, fI_wR, fL_wF, fL_wG, fL_wR, fV_wF, fV_wG, fV_wR, aF_sV, aG_sV, aR_sV, aF_wG, aF_wR, aG_wF, aG_wR, aR_wF, aR_wG, gM g2, gN g2, ti_lt, tl, true_and]
    refine c_isKnown g2 fa2 (fun c => absurd ⟨by omega, by rw [e5]; omega⟩ c) (fun _ _ => jif_n (by decide) ?_)
    simp (decide := true) only [jgI_ob, jgf_ob, jgL_ob, jpI_ob, jpL_ob, jpR_ob, jpN_ob, jrc_ob, obj_sV, obj_wF, obj_wG, obj_wR, arr_sV, arr_wF, arr_wG, arr_wR, arL_sV, arL_wF, arL_wG, arL_wR, arR_sV, arR_wF, arR_wG, arR_wR, fI_sV (c := 0), fI_sV (c := 1), fI_sV (c := 2), fI_sV (c := 4), fI_sV (c := 5), fI_sV (c := 7), fI_sV (c := 8), fI_sV (c := 9), fI_sV (c := 10), fI_sV (c := 11), fI_sV (c := 12), fI_sV (c := 6), fL_sV (c := 9), fL_sV (c := 12), fI_sV_k, fL_sV_k, fV_sV_k, fI_wF, fI_wG, fI_wR, fL_wF, fL_wG, fL_wR, fV_wF, fV_wG, fV_wR, aF_sV, aG_sV, aR_sV, aF_wG, aF_wR, aG_wF, aG_wR, aR_wF, aR_wG, gM g2, gN g2, ti_lt, tl, true_and]
    refine c_keep g2 fa2 er eN (by rw [e5]; exact hN) (fun h3 k3 hk3 => ?_)
    try dsimp only [jrI, jrN, jrA, jisr, jnul, jcat1]
    have f72 : aF h2 72 = aF h 72 := frF k12 (by decide)
    have f76 : aF h2 76 = aF h 76 := frF k12 (by decide)
    rw [f72, f76] at hk3
    have kk : fr [77, 78, 79, 80, 125] [(71, 9), (81, 83), (81, 84)] h h3 := fr_trans (fr_mono (by decide) (by decide) k12) (fr_mono (by decide) (by decide) k3)
    have w := GM_of g x fa st hr hN kk hk3
    refine l_odd w er eN rfl (fun h4 y' k4 hy' => ?_) N 0 h3 _ _ _ _ _ _ (by omega) rfl fr_rfl rfl (by rw [if_pos (show (-1 : Int32).toInt = -1 from rfl)]; rfl)
    have hkN : ∀ k, knS (tI (aF h 72)) (tI (aF h 76)) r N N k = true → k < N := fun k hk => (knS_N hk).1
    have e : y'.toInt = y.toInt := by
      have o80 := fun G : Nat → Nat => odd1_ext (G := G) hkN (80 - N)
      rw [show N + (80 - N) = 80 by omega] at o80
      rw [hy', hy, o80]
      refine odd1_cg (fun a c ha hc => ?_) N
      rw [FT_sum hkN (by omega) (hkN a ha) ha, FT_sum hkN (by omega) (hkN c hc) hc]
      omega
    rw [show y' = y by rw [ti_eq, e]]
    exact H _ (fr_trans kk (fr_mono (by decide) (by decide) k4))
end SUC
