/-! A RUN: the model's powers, whole; what a look gives is a value -/
theorem SEEN_ex (C : Nat → Int) (N : Nat) (q : Int) : ∃ a l u, SEEN C N q a l u := by
  induction N with
  | zero =>
    refine ⟨0, 0, 0, Nat.le_refl _, fun n hn => absurd hn (Nat.not_lt_zero _), fun n hn => ?_, ?_⟩
    · rw [show n = 0 by omega]; exact Int.le_refl _
    · by_cases c : q < C 0
      · exact Or.inl ⟨c, rfl, rfl⟩
      · exact Or.inr ⟨by omega, Nat.le_refl _, Nat.le_refl _, by omega, fun n hn => absurd hn (Nat.not_lt_zero _), by omega, fun n h1 h2 => by omega⟩
  | succ N ih =>
    obtain ⟨a, l, u, a1, a2, a3, a4⟩ := ih
    by_cases c : C (N + 1) < C a
    · have b1 : ∀ n, n < N + 1 → C (N + 1) < C n := fun n hn => by have := a3 n (by omega); omega
      have b2 : ∀ n, n ≤ N + 1 → C (N + 1) ≤ C n := fun n hn => by
        by_cases e : n = N + 1
        · rw [e]; exact Int.le_refl _
        · have := b1 n (by omega); omega
      by_cases c1 : q < C (N + 1)
      · exact ⟨N + 1, N + 1, N + 1, Nat.le_refl _, b1, b2, Or.inl ⟨c1, rfl, rfl⟩⟩
      · rcases a4 with ⟨w1, w2, w3⟩ | ⟨w1, w2, w3, w4, w5, w6, w7⟩
        · exact ⟨N + 1, N + 1, N + 1, Nat.le_refl _, b1, b2, Or.inr ⟨by omega, Nat.le_refl _, Nat.le_refl _, by omega, fun n hn => by have := a3 n (by omega); omega, by omega, fun n h1 h2 => by omega⟩⟩
        · exact ⟨N + 1, l, N + 1, Nat.le_refl _, b1, b2, Or.inr ⟨by omega, by omega, Nat.le_refl _, w4, w5, by omega, fun n h1 h2 => by omega⟩⟩
    · have b2 : ∀ n, n ≤ N + 1 → C a ≤ C n := fun n hn => by
        by_cases e : n = N + 1
        · rw [e]; omega
        · exact a3 n (by omega)
      rcases a4 with ⟨w1, w2, w3⟩ | ⟨w1, w2, w3, w4, w5, w6, w7⟩
      · exact ⟨a, l, u, by omega, a2, b2, Or.inl ⟨w1, w2, w3⟩⟩
      · by_cases c1 : C (N + 1) ≤ q
        · exact ⟨a, l, N + 1, by omega, a2, b2, Or.inr ⟨w1, by omega, Nat.le_refl _, w4, w5, c1, fun n h1 h2 => by omega⟩⟩
        · refine ⟨a, l, u, by omega, a2, b2, Or.inr ⟨w1, by omega, by omega, w4, w5, w6, fun n h1 h2 => ?_⟩⟩
          by_cases e : n = N + 1
          · rw [e]; omega
          · exact w7 n h1 (by omega)
theorem lkW_0 {ey pl : Int} {x : S7} {b : Bool} {f : Nat} {t : Bool} {fl : Nat → Int} (w : lkW ey x b f t fl pl = 0) : (0 ≤ lkX x b ∧ lkX x b ≤ 4096) ∧ inP (lkV ey x b f t fl pl) := by
  unfold lkW at w
  by_cases c : lkX x b < 0 ∨ 4096 < lkX x b
  · rw [if_pos c] at w; exact absurd w (by decide)
  · rw [if_neg c] at w
    by_cases c2 : inP (lkV ey x b f t fl pl)
    · exact ⟨by omega, c2⟩
    · have w2 := (if_neg (t := (0 : Int)) (e := (3 : Int)) c2).symm.trans w
      exact absurd w2 (by decide)
theorem rch_vsn (p : Nat × Nat × Nat) (pl : Int) : rch (vsn p pl) 1 = (lgU p.2.1 : Nat) + 4096 * pl ∧ rch (vsn p pl) 2 = (lgU p.2.2 : Nat) + 4096 * pl := by
  have a1 := lgU_mod p.2.1
  have a2 := lgU_mod p.2.2
  have e1 : rch (vsn p pl) 1 = (lgU (((p.2.1 % 900 + 100 : Nat) : Int) - 100).toNat : Nat) + 4096 * (pl + ((p.2.1 / 900 : Nat) : Int)) := rfl
  have e2 : rch (vsn p pl) 2 = (lgU (((p.2.2 % 900 + 100 : Nat) : Int) - 100).toNat : Nat) + 4096 * (pl + ((p.2.2 / 900 : Nat) : Int)) := rfl
  have t1 : (((p.2.1 % 900 + 100 : Nat) : Int) - 100).toNat = p.2.1 % 900 := by omega
  have t2 : (((p.2.2 % 900 + 100 : Nat) : Int) - 100).toNat = p.2.2 % 900 := by omega
  rw [e1, e2, t1, t2]
  omega
theorem GV_lk {ey pl : Int} {x : S7} {b : Bool} {f : Nat} {t : Bool} {fl : Nat → Int} (w : lkW ey x b f t fl pl = 0) : GV (lkV ey x b f t fl pl) := by
  obtain ⟨_, w2⟩ := lkW_0 w
  obtain ⟨a, l, u, se⟩ := SEEN_ex (gp f t fl (lkX x b)) (900 * f) (lkQ ey x b)
  have od := SEEN_ord se
  have eV : lkV ey x b f t fl pl = vsn (a, l, u) pl := by unfold lkV; rw [see3_eq se]
  rw [eV] at w2 ⊢
  obtain ⟨p1, p3, p5⟩ := w2
  refine ⟨fun i hi => ?_, ?_⟩
  · rcases (show i = 0 ∨ i = 1 ∨ i = 2 by omega) with e | e | e <;> subst e
    · refine ⟨?_, ?_, p1.1, p1.2⟩
      · show (100 : Int) ≤ ((a % 900 + 100 : Nat) : Int); omega
      · show ((a % 900 + 100 : Nat) : Int) ≤ 999; omega
    · refine ⟨?_, ?_, p3.1, p3.2⟩
      · show (100 : Int) ≤ ((l % 900 + 100 : Nat) : Int); omega
      · show ((l % 900 + 100 : Nat) : Int) ≤ 999; omega
    · refine ⟨?_, ?_, p5.1, p5.2⟩
      · show (100 : Int) ≤ ((u % 900 + 100 : Nat) : Int); omega
      · show ((u % 900 + 100 : Nat) : Int) ≤ 999; omega
  · rw [(rch_vsn (a, l, u) pl).1, (rch_vsn (a, l, u) pl).2]
    have := lgU_mono (show l ≤ u by omega)
    have e1 : ((a, l, u) : Nat × Nat × Nat).2.1 = l := rfl
    have e2 : ((a, l, u) : Nat × Nat × Nat).2.2 = u := rfl
    rw [e1, e2]
    omega
/-- a number is a value -/
theorem GV_num {v : V6} {D E : Int} (hv : ∀ w, w < 6 → v w = if w % 2 = 0 then D else E) (d0 : 100 ≤ D) (d1 : D ≤ 999) (e0 : -99 ≤ E) (e1 : E ≤ 99) : GV v := by
  have h0 : v 0 = D := hv 0 (by decide)
  have h1 : v 1 = E := hv 1 (by decide)
  have h2 : v 2 = D := hv 2 (by decide)
  have h3 : v 3 = E := hv 3 (by decide)
  have h4 : v 4 = D := hv 4 (by decide)
  have h5 : v 5 = E := hv 5 (by decide)
  refine ⟨fun i hi => ?_, ?_⟩
  · rcases (show i = 0 ∨ i = 1 ∨ i = 2 by omega) with e | e | e <;> subst e
    · rw [show v (2 * 0) = D from h0, show v (2 * 0 + 1) = E from h1]; omega
    · rw [show v (2 * 1) = D from h2, show v (2 * 1 + 1) = E from h3]; omega
    · rw [show v (2 * 2) = D from h4, show v (2 * 2 + 1) = E from h5]; omega
  · unfold rch
    rw [show v (2 * 1) = D from h2, show v (2 * 1 + 1) = E from h3, show v (2 * 2) = D from h4, show v (2 * 2 + 1) = E from h5]
    omega
section MPX
variable {X : JX} {d : Nat} {Q : JQ} {h : JH} {n : Nat} {m ρ τ f : Nat → Nat} {b t : Nat → Bool} {fl : Nat → Nat → Int} {r : Nat} {p i s : Nat} {x : S7} {hs ey : Int} {v : V6} {o : Option V6}
theorem AV_eq {h1 : JH} (av : AV h i o) (e1 : aF h1 99 = aF h 99) (e2 : aF h1 100 = aF h 100) (e3 : aF h1 101 = aF h 101) (e4 : aF h1 109 = aF h 109) (e5 : aF h1 110 = aF h 110) : AV h1 i o := by
  unfold AV
  rw [e1, e2, e3, e4, e5]
  exact av
theorem c_power (g : G h) (rb : RB h n m ρ τ b f t fl) (hr : r < n) (e13 : fI h 81 13 = nI r) (mx : MX h x) (be : BUn x) (e10 : (fI h 81 10).toInt = hs) (h0 : 0 ≤ hs) (h20 : hs ≤ 20) (e11 : (fI h 81 11).toInt = ey) (y0 : 0 ≤ ey) (y40 : ey ≤ 40) (hi : i < 210) (hp : p < 210) (av : AV h i o) (gvo : ∀ v, o = some v → GV v) {w : Int32} (ew : aF h 97 i = w) (es : fI h 81 48 = nI s) (s2 : s ≤ 200) {q : Int × S7 × V6} (eq : q = pwS hs ey (slf r (m r) b f t fl) w s o x) (H1 : q.1 = 0 → ∀ h1, fr [89, 111] pF h h1 → MX h1 q.2.1 → PW h1 p q.2.2 → (∀ j, (j < 6 * p ∨ 6 * p + 6 ≤ j) → aF h1 111 j = aF h 111 j) → fI h1 81 48 = nI (s + 1) → Q (some (.int 1)) h1) (H0 : q.1 ≠ 0 → ∀ h1, fr [89, 111] pF h h1 → (fI h1 81 52).toInt = q.1 → Q (some (.int 0)) h1) : jex X (d + 6) 201 [.ref 81, .int (nI i), .int (nI p)] h Q := by
  rw [jE_X12_power]
  refine jT_X12_power_0 ?_
  rw [jrc_ob (by simp only [gM g])]
  unfold pwS at eq
  change jex X (d + 3 + 2) 198 _ _ _
  refine c_counts g es s2 (fun ns => ?_) (fun e200 => ?_)
  · have eq := eq.trans (if_neg ns)
    have k2 : fr [89, 111] pF h (sV h 81 48 (.int (nI (s + 1)))) := fr_sV (by decide) fr_rfl
    have e48 : fI (sV h 81 48 (.int (nI (s + 1)))) 81 48 = nI (s + 1) := by simp (decide := true) only [jgI_ob, jgf_ob, jgL_ob, jpI_ob, jpL_ob, jpR_ob, jpN_ob, jrc_ob, obj_sV, obj_wF, obj_wG, obj_wR, arr_sV, arr_wF, arr_wG, arr_wR, arL_sV, arL_wF, arL_wG, arL_wR, arR_sV, arR_wF, arR_wG, arR_wR, fI_sV (c := 0), fI_sV (c := 1), fI_sV (c := 2), fI_sV (c := 4), fI_sV (c := 5), fI_sV (c := 7), fI_sV (c := 8), fI_sV (c := 9), fI_sV (c := 10), fI_sV (c := 11), fI_sV (c := 12), fI_sV (c := 6), fL_sV (c := 9), fL_sV (c := 12), fI_sV_k, fL_sV_k, fV_sV_k, fI_wF, fI_wG, fI_wR, fL_wF, fL_wG, fL_wR, fV_wF, fV_wG, fV_wR, aF_sV, aG_sV, aR_sV, aF_wG, aF_wR, aG_wF, aG_wR, aR_wF, aR_wG, gM g]
    have av2 : AV (sV h 81 48 (.int (nI (s + 1)))) i o := AV_eq av aF_sV aF_sV aF_sV aF_sV aF_sV
    have ew2 : aF (sV h 81 48 (.int (nI (s + 1)))) 97 i = w := by rw [aF_sV]; exact ew
    have e111 : aF (sV h 81 48 (.int (nI (s + 1)))) 111 = aF h 111 := aF_sV
    have mx2 : MX (sV h 81 48 (.int (nI (s + 1)))) x := MX_eq mx (fI_sV_k (by decide)) (fI_sV_k (by decide)) (fI_sV_k (by decide)) (fI_sV_k (by decide)) (fI_sV_k (by decide)) (fI_sV_k (by decide)) (fI_sV_k (by decide))
    try dsimp only [jrI, jrN, jrA, jisr, jnul, jcat1]
    refine jif_n (by decide) ?_
    generalize sV h 81 48 (.int (nI (s + 1))) = h2 at *
    have g2 := G_fr g rfl k2
    rw [jrc_ob (by simp only [gM g2])]
    change jex X (d + 3 + 2) 202 _ _ _
    refine c_asked g2 hi hp av2 (fun v ev h3 k3 pw3 oj3 => ?_) (fun ev h3 k3 e52 => ?_)
    · rw [ev] at eq
      have eq : q = pwR hs ey (slf r (m r) b f t fl) w v x := eq
      have gv := gvo v ev
      have g3 := G_fr g2 rfl k3
      have kk : fr [89, 111] pF h h3 := fr_trans k2 (fr_mono (by decide) (by decide) k3)
      have e6 : 6 * nI p = nI (6 * p) := pk_mul 6 p
      have iv1 : vp_in (nI (6 * p + 1)) 1260 := by rw [vp_inI, nI_toInt (by omega)]; omega
      have ic1 : (nI (6 * p + 1)).toNatClampNeg = 6 * p + 1 := nI_clamp (by omega)
      have ivi : vp_in (nI i) 420 := by rw [vp_inI, nI_toInt (by omega)]; omega
      have ici : (nI i).toNatClampNeg = i := nI_clamp (by omega)
      have p1 : (aF h3 111 (6 * p + 1)).toInt = v 1 := pw3 1 (by decide)
      have ew3 : aF h3 97 i = w := by rw [frF k3 (by decide)]; exact ew2
      have a := gv.1 0 (by decide)
      simp only [Nat.mul_zero, Nat.zero_add] at a
      have mx3 : MX h3 x := MX_eq mx2 (frI k3 (by decide) (by decide)) (frI k3 (by decide) (by decide)) (frI k3 (by decide) (by decide)) (frI k3 (by decide) (by decide)) (frI k3 (by decide) (by decide)) (frI k3 (by decide) (by decide)) (frI k3 (by decide) (by decide))
      have f13 : fI h3 81 13 = nI r := by rw [frI kk (by decide) (by decide)]; exact e13
      have f10 : (fI h3 81 10).toInt = hs := by rw [frI kk (by decide) (by decide)]; exact e10
      have f11 : (fI h3 81 11).toInt = ey := by rw [frI kk (by decide) (by decide)]; exact e11
      have rb3 : RB h3 n m ρ τ b f t fl := RB_fr rb kk (by decide)
      have f48 : fI h3 81 48 = nI (s + 1) := by rw [frI k3 (by decide) (by decide)]; exact e48
      have oj : ∀ j, (j < 6 * p ∨ 6 * p + 6 ≤ j) → aF h3 111 j = aF h 111 j := fun j hj => by rw [oj3 j hj, e111]
      have N1 : q.1 = 0 → ∀ h4, fr [89, 111] mF h3 h4 → MX h4 q.2.1 → PW h4 p q.2.2 → (∀ j, (j < 6 * p ∨ 6 * p + 6 ≤ j) → aF h4 111 j = aF h3 111 j) → Q (some (.int 1)) h4 := fun c h4 k4 mx4 pw4 oj4 => H1 c h4 (fr_trans kk (fr_mono (by decide) (by decide) k4)) mx4 pw4 (fun j hj => by rw [oj4 j hj, oj j hj]) (by rw [frI k4 (by decide) (by decide)]; exact f48)
      have N0 : q.1 ≠ 0 → ∀ h4, fr [89, 111] mF h3 h4 → (fI h4 81 52).toInt = q.1 → Q (some (.int 0)) h4 := fun c h4 k4 e52 => H0 c h4 (fr_trans kk (fr_mono (by decide) (by decide) k4)) e52
      try dsimp only [jrI, jrN, jrA, jisr, jnul, jcat1]
      refine jif_n (by decide) ?_
      simp (decide := true) only [jgf_ob (c := 12), gM g3, gN g3, jaI_ar (p := 111) (n := 1260), jaI_ar (p := 97) (n := 420), e6, nI_1, iv1, ic1, ivi, ici, true_and, ew3]
      have t2 : (2 : Int32).toInt = 2 := rfl
      have t3 : (3 : Int32).toInt = 3 := rfl
      unfold pwR at eq
      generalize aF h3 111 (6 * p + 1) = P1 at *
      refine ⟨fun c6 => ?_, fun n6 => ⟨fun c7 => ?_, fun n7 => ⟨fun c8 => ?_, fun n8 => ⟨fun c9 => ?_, fun n9 => ⟨fun c10 => ?_, fun n10 => ?_⟩⟩⟩⟩⟩
      · rw [if_pos c6] at eq
        exact l_pw (b1 := true) (f1 := 1) (b2 := true) (f2 := 2) (t2 := false) (e := 2 * P1) (M := fun h K => K (2 * P1) h) g3 rb3 hr f13 mx3 be f10 h0 h20 f11 y0 y40 hp pw3 gv (by decide) (by decide) (by rw [← p1]; exact (by simp only [Int32.toInt_add, Int32.toInt_sub, Int32.toInt_mul, Int32.toInt_neg, Int.bmod_def, tl, t4]; omega)) (by omega) (by omega) rfl rfl rfl rfl rfl rfl (fun _ _ w => w) eq N1 N0
      · rw [if_neg n6, if_pos c7] at eq
        exact l_pw (b1 := true) (f1 := 1) (b2 := true) (f2 := 3) (t2 := false) (e := 3 * P1) (M := fun h K => K (3 * P1) h) g3 rb3 hr f13 mx3 be f10 h0 h20 f11 y0 y40 hp pw3 gv (by decide) (by decide) (by rw [← p1]; exact (by simp only [Int32.toInt_add, Int32.toInt_sub, Int32.toInt_mul, Int32.toInt_neg, Int.bmod_def, tl, t4]; omega)) (by omega) (by omega) rfl rfl rfl rfl rfl rfl (fun _ _ w => w) eq N1 N0
      · rw [if_neg n6, if_neg n7, if_pos c8] at eq
        exact l_pw (b1 := true) (f1 := 2) (b2 := true) (f2 := 1) (t2 := false) (e := zI (P1.toInt / (2 : Int32).toInt)) (M := fun h K => jex X (d + 5) 210 [.int P1, .int 2] h fun r48 h47 => (jrI r48 fun x49 => K x49 h47)) g3 rb3 hr f13 mx3 be f10 h0 h20 f11 y0 y40 hp pw3 gv (by decide) (by decide) (by rw [t2, p1, zt (by omega) (by omega)]) (by omega) (by omega) rfl rfl rfl rfl rfl rfl (fun _ _ w => c_floored (by decide) (by dsimp only [jrI, jrN, jrA]; exact w)) eq N1 N0
      · rw [if_neg n6, if_neg n7, if_neg n8, if_pos c9] at eq
        exact l_pw (b1 := true) (f1 := 3) (b2 := true) (f2 := 1) (t2 := false) (e := zI (P1.toInt / (3 : Int32).toInt)) (M := fun h K => jex X (d + 5) 210 [.int P1, .int 3] h fun r48 h47 => (jrI r48 fun x49 => K x49 h47)) g3 rb3 hr f13 mx3 be f10 h0 h20 f11 y0 y40 hp pw3 gv (by decide) (by decide) (by rw [t3, p1, zt (by omega) (by omega)]) (by omega) (by omega) rfl rfl rfl rfl rfl rfl (fun _ _ w => c_floored (by decide) (by dsimp only [jrI, jrN, jrA]; exact w)) eq N1 N0
      · rw [if_neg n6, if_neg n7, if_neg n8, if_neg n9, if_pos c10] at eq
        exact l_pw (b1 := false) (f1 := 1) (b2 := false) (f2 := 1) (t2 := true) (e := -1 - P1) (M := fun h K => K (-1 - P1) h) g3 rb3 hr f13 mx3 be f10 h0 h20 f11 y0 y40 hp pw3 gv (by decide) (by decide) (by rw [← p1]; exact (by simp only [Int32.toInt_add, Int32.toInt_sub, Int32.toInt_mul, Int32.toInt_neg, Int.bmod_def, tl, t4]; omega)) (by omega) (by omega) rfl rfl rfl rfl rfl rfl (fun _ _ w => w) eq N1 N0
      · rw [if_neg n6, if_neg n7, if_neg n8, if_neg n9, if_neg n10] at eq
        rw [eq] at H1
        exact H1 rfl h3 kk mx3 pw3 oj f48
    · rw [ev] at eq
      have eq : q = (6, x, fun _ => 0) := eq
      rw [eq] at H0
      try dsimp only [jrI, jrN, jrA, jisr, jnul, jcat1]
      exact jif_t rfl ⟨by decide, H0 (show ¬ (6 : Int) = 0 by decide) h3 (fr_trans k2 (fr_mono (by decide) (by decide) k3)) e52⟩
  · have eq := eq.trans (if_pos e200)
    rw [eq] at H0
    try dsimp only [jrI, jrN, jrA, jisr, jnul, jcat1]
    refine jif_t rfl ⟨by decide, H0 (show ¬ (1 : Int) = 0 by decide) _ (fr_sV (by decide) fr_rfl) ?_⟩
    simp (decide := true) only [jgI_ob, jgf_ob, jgL_ob, jpI_ob, jpL_ob, jpR_ob, jpN_ob, jrc_ob, obj_sV, obj_wF, obj_wG, obj_wR, arr_sV, arr_wF, arr_wG, arr_wR, arL_sV, arL_wF, arL_wG, arL_wR, arR_sV, arR_wF, arR_wG, arR_wR, fI_sV (c := 0), fI_sV (c := 1), fI_sV (c := 2), fI_sV (c := 4), fI_sV (c := 5), fI_sV (c := 7), fI_sV (c := 8), fI_sV (c := 9), fI_sV (c := 10), fI_sV (c := 11), fI_sV (c := 12), fI_sV (c := 6), fL_sV (c := 9), fL_sV (c := 12), fI_sV_k, fL_sV_k, fV_sV_k, fI_wF, fI_wG, fI_wR, fL_wF, fL_wG, fL_wR, fV_wF, fV_wG, fV_wR, aF_sV, aG_sV, aR_sV, aF_wG, aF_wR, aG_wF, aG_wR, aR_wF, aR_wG, gM g]
end MPX
