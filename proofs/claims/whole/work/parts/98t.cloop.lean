/-! A RUN: the class goes, whole -/
/-- what the class's loop stands on -/
def CEs (h : JH) (n : Nat) (m ρ τ : Nat → Nat) (b : Nat → Bool) (f : Nat → Nat) (t : Nat → Bool) (fl : Nat → Nat → Int) (r : Nat) (hs ey : Int) (p q : Nat) (u : Nat → Int) (N K : Nat) : Prop := G h ∧ RB h n m ρ τ b f t fl ∧ r < n ∧ fV h 6 2 = .ref (ρ r) ∧ (fI h 6 0).toInt = hs ∧ (fI h 6 1).toInt = ey ∧ PXs h p u N K ∧ fV h 24 2 = .ref p ∧ (q = 25 ∨ q = 26) ∧ fV h 24 4 = .ref q
/-- where the class's loop stands -/
def CIs (B : Int) (hb h1 : JH) (q : Nat) (u : Nat → Int) (N K k s : Nat) (x : S7) (td : Nat → Bool) (vl : Nat → V6) (tu : Nat → Nat) : Prop := k ≤ K ∧ xe u N k = 1 ∧ s ≤ 200 ∧ fr cA cFv hb h1 ∧ KPs hb h1 q ∧ (∃ pp : Int, -100000 ≤ pp ∧ pp ≤ 100000 ∧ HS h1 6 (setp x pp)) ∧ BXs B s x ∧ fI h1 24 14 = nI s ∧ fI h1 24 15 = nI k ∧ CVs h1 q td vl ∧ (∀ bb, bb ∈ xo u N k → tK u N bb = 5 → aF h1 58 bb = nI (tu bb) ∧ 1 ≤ tu bb ∧ tu bb ≤ 99)
section CGM
variable {X : JX} {d : Nat} {Q : JQ} {hb h h1 h2 : JH} {n : Nat} {m ρ τ f : Nat → Nat} {b t : Nat → Bool} {fl : Nat → Nat → Int} {r p q : Nat} {hs ey B : Int} {u : Nat → Int} {N K k s nn cnt : Nat} {td : Nat → Bool} {vl : Nat → V6} {tu : Nat → Nat} {x : S7} {R : Int × Nat × S7 × (Nat → Bool) × (Nat → V6)} {c z : Nat} {o1 : Option Value} {a2 a3 a4 a5 : Int32}
theorem KPs_tr (a : KPs h h1 q) (b : KPs h1 h2 q) : KPs h h2 q := fun i hi w hw => (b i hi w hw).trans (a i hi w hw)
theorem CE_fr {A : List Nat} {F : List (Nat × Nat)} (e : CEs h n m ρ τ b f t fl r hs ey p q u N K) (a : fr A F h h1) (hA : ∀ p, p ∈ A → p ∈ cA) (hF : ∀ p, p ∈ F → p ∈ cFv) : CEs h1 n m ρ τ b f t fl r hs ey p q u N K := by
  obtain ⟨g, rb, hr, e62, e60, e61, px, e2, hq, e4⟩ := e
  have k1 : fr cA cFv h h1 := fr_mono hA hF a
  exact ⟨G_fr g (by decide +kernel) k1, RB_fr rb k1 (by decide +kernel), hr, by rw [frV k1 (nmF (by decide +kernel)) (by decide)]; exact e62, by rw [frI k1 (nmF (by decide +kernel)) (by decide)]; exact e60, by rw [frI k1 (nmF (by decide +kernel)) (by decide)]; exact e61, PX_fr px k1 (by decide +kernel) (by decide +kernel), by rw [frV k1 (nmF (by decide +kernel)) (by decide)]; exact e2, hq, by rw [frV k1 (nmF (by decide +kernel)) (by decide)]; exact e4⟩
theorem chF_s : ∀ y, y ∈ chF → y ∈ cFv := fun y hy => List.mem_append_left _ ((show ∀ y, y ∈ chF → y ∈ cF by decide) y hy)
/-- a step that leaves the hand and the values -/
theorem CI_nx {A : List Nat} {k' s' : Nat} {tu' : Nat → Nat} (ci : CIs B hb h q u N K k s x td vl tu) (a : fr A chF h h1) (hA : ∀ p, p ∈ A → p ∈ cA) (hk : k' ≤ K) (xk : xe u N k' = 1) (hs : s ≤ s') (s2 : s' ≤ 200) (e14 : fI h1 24 14 = nI s') (e15 : fI h1 24 15 = nI k') (ot : ∀ bb, bb ∈ xo u N k' → tK u N bb = 5 → aF h1 58 bb = nI (tu' bb) ∧ 1 ≤ tu' bb ∧ tu' bb ≤ 99) : CIs B hb h1 q u N K k' s' x td vl tu' := by
  obtain ⟨m1, m2, m3, m4, m5, ⟨pp, p0, p1, hx⟩, m7, m8, m9, m10, m11⟩ := ci
  obtain ⟨q1, q2, q3, q4⟩ := m7
  exact ⟨hk, xk, s2, fr_trans m4 (fr_mono hA chF_s a), KPs_fr m5 a (by decide), ⟨pp, p0, p1, HS_fr hx a (by decide) (by decide) (by decide) (by decide) (by decide) (by decide) (by decide)⟩, ⟨q1, by omega, by omega, q4⟩, e14, e15, CVs_fr m10 a (by decide), ot⟩
theorem n_brk (e : CEs h2 n m ρ τ b f t fl r hs ey p q u N K) {y : Int32} (ey' : y.toInt = R.1) (nz : R.1 ≠ 0) (H : ∀ o7, jB_X7_perform_278 X (d + 5) Q 24 o1 a2 a3 a4 a5 y o7 h2 c z) {a7 : Int32} : jB_X7_perform_69 X (d + 5) Q 24 o1 a2 a3 a4 a5 y a7 h2 c z := by
  obtain ⟨g, rb, hr, e62, e60, e61, px, e2, hq, e4⟩ := e
  refine l_brk g px e2 (fun w => nz ?_) H
  rw [← ey', w]
  rfl
set_option maxHeartbeats 4000000 in
theorem n_let (e : CEs h n m ρ τ b f t fl r hs ey p q u N K) (pz : PZs hs ey u N K B) (H0 : R.1 ≠ 0 → ∀ h2 (y : Int32), fr cA cFv hb h2 → KPs hb h2 q → y.toInt = R.1 → R.2.1 < K → fI h2 24 16 = nI R.2.1 → ∀ o7, jB_X7_perform_278 X (d + 5) Q 24 o1 a2 a3 a4 a5 y o7 h2 c z) (NX : ∀ (k' s' : Nat) (x' : S7) (td' : Nat → Bool) (vl' : Nat → V6) (tu' : Nat → Nat) (h2 : JH) (cnt' : Nat), 401 * (200 - s') + (K - k') < 401 * (200 - s) + (K - k) → cnt' + (401 * (200 - s') + (K - k')) < 1000000 → R = gof hs ey (slf r (m r) b f t fl) u N K nn k' s' x' td' vl' tu' → CIs B hb h2 q u N K k' s' x' td' vl' tu' → jB_X7_perform_69 X (d + 5) Q 24 o1 a2 a3 a4 a5 0 (nI cnt') h2 c z) (ci : CIs B hb h q u N K k s x td vl tu) (hk : k < K) (hcnt : cnt + (401 * (200 - s) + (K - k)) < 1000000) (c4 : tK u N k = 4) (eR : R = if s = 200 then (1, k, x, td, vl) else if (ltT hs ey (slf r (m r) b f t fl) u N K k s x td vl).1 = 0 then gof hs ey (slf r (m r) b f t fl) u N K nn (cl u N K k + 1) (s + 1 + lmy u N K k) (ltT hs ey (slf r (m r) b f t fl) u N K k s x td vl).2.1 (upg td (nnum u N (k + 1)) true) (upg vl (nnum u N (k + 1)) (ltT hs ey (slf r (m r) b f t fl) u N K k s x td vl).2.2) tu else ((ltT hs ey (slf r (m r) b f t fl) u N K k s x td vl).1, k, x, td, vl)) : jB_X7_perform_69 X (d + 5) Q 24 o1 a2 a3 a4 a5 0 (nI cnt) h c z := by
  obtain ⟨st, ff, z0, ⟨h0, h20⟩, ⟨y0, y40⟩, b9⟩ := pz
  have K4 := Spt_400 st
  have o : OKt u N K := st.1
  have e' := e
  obtain ⟨g, rb, hr, e62, e60, e61, px, e2, hq, e4⟩ := e
  obtain ⟨hk1, xk, s2, kb, kp, ⟨pp, p0, p1, hx⟩, bx, e14, e15, cv, ot⟩ := ci
  have hcl := let_end o ff hk c4
  have wo := hcl.2.2.2.2.2.2.1
  have wx := hcl.2.2.2.2.2.1
  have w1 := hcl.1
  have w2 := hcl.2.1
  clear hcl
  have naK := (na_le (t := u) (N := N) K o).1
  have nac := na_mono (t := u) (N := N) (j := cl u N K k) (k := K) (by omega)
  refine l_let (B := B) g rb hr e62 e60 h0 h20 e61 y0 y40 K4 o ff z0 px e2 hq e4 cv hx bx b9 p0 p1 e14 s2 e15 hk c4 (by omega) (fun h2 y a7 k2 kp2 q200 qn e16 => ?_) (fun ns q0 h2 cnt' hc' k2 kp2 f58 hx2 f14 f15 cv2 => ?_)
  · have e2' := CE_fr e' k2 (fun _ w => w) (fun _ w => w)
    have kb2 : fr cA cFv hb h2 := fr_trans kb k2
    have kpb := KPs_tr kp kp2
    by_cases c200 : s = 200
    · rw [if_pos c200] at eR
      have y1 := q200 c200
      rw [eR] at H0
      exact n_brk (R := (1, k, x, td, vl)) e2' y1 (show ¬ (1 : Int) = 0 by decide) (H0 (show ¬ (1 : Int) = 0 by decide) h2 y kb2 kpb y1 hk e16)
    · obtain ⟨q1, q2⟩ := qn c200
      rw [if_neg c200, if_neg q1] at eR
      rw [eR] at H0
      exact n_brk (R := ((ltT hs ey (slf r (m r) b f t fl) u N K k s x td vl).1, k, x, td, vl)) e2' q2 q1 (H0 q1 h2 y kb2 kpb q2 hk e16)
  · rw [if_neg ns, if_pos q0] at eR
    have lm1 : 1 ≤ lmy u N K k := by
      have := (let_end o ff hk c4).2.2.2.2.2.2.2.2
      unfold lmy
      omega
    have l210 : lmy u N K k ≤ 210 := by unfold lmy; omega
    have gv : ∀ c, c < 12 → td c = true → GV (vl c) := fun c hc w => ((cv c hc).2 w).1
    have gvo : ∀ j, j < lmy u N K k → ∀ v, lO u N td vl k j = some v → GV v := fun j hj v ev => by
      have a := atk_s (t := u) (N := N) (k := K) (a := na u N k + j) (by unfold lmy at hj; omega)
      exact GV_at gv o z0 a.1 a.2.1 ev
    obtain ⟨v1, v2, v3, v4, v5⟩ := ltR_b (hs := hs) (ey := ey) (sl := slf r (m r) b f t fl) (W := lW u N k) (O := lO u N td vl k) (ov := lV u N k) (N := lmy u N K k) gvo lm1 l210 bx b9 h0 (show s + 1 ≤ 200 by omega) q0
    refine NX (cl u N K k + 1) (s + 1 + lmy u N K k) _ _ _ tu h2 cnt' (by omega) (by omega) eR ⟨by omega, wx, v3, fr_trans kb k2, KPs_tr kp kp2, ⟨_, v4, v5, hx2⟩, v1, f14, f15, cv2, fun bb hb tb => ?_⟩
    rw [wo] at hb
    rw [f58]
    exact ot bb hb tb
theorem n_rep (e : CEs h n m ρ τ b f t fl r hs ey p q u N K) (pz : PZs hs ey u N K B) (H0 : R.1 ≠ 0 → ∀ h2 (y : Int32), fr cA cFv hb h2 → KPs hb h2 q → y.toInt = R.1 → R.2.1 < K → fI h2 24 16 = nI R.2.1 → ∀ o7, jB_X7_perform_278 X (d + 5) Q 24 o1 a2 a3 a4 a5 y o7 h2 c z) (NX : ∀ (k' s' : Nat) (x' : S7) (td' : Nat → Bool) (vl' : Nat → V6) (tu' : Nat → Nat) (h2 : JH) (cnt' : Nat), 401 * (200 - s') + (K - k') < 401 * (200 - s) + (K - k) → cnt' + (401 * (200 - s') + (K - k')) < 1000000 → R = gof hs ey (slf r (m r) b f t fl) u N K nn k' s' x' td' vl' tu' → CIs B hb h2 q u N K k' s' x' td' vl' tu' → jB_X7_perform_69 X (d + 5) Q 24 o1 a2 a3 a4 a5 0 (nI cnt') h2 c z) (ci : CIs B hb h q u N K k s x td vl tu) (hk : k < K) (hcnt : cnt + (401 * (200 - s) + (K - k)) < 1000000) (c5 : tK u N k = 5) (eR : R = if s = 200 then (1, k, x, td, vl) else if trn u N k = 0 then gof hs ey (slf r (m r) b f t fl) u N K nn (cl u N K k + 1) (s + 1) x td vl tu else gof hs ey (slf r (m r) b f t fl) u N K nn (k + 2) (s + 1) x td vl (upg tu k (trn u N k))) : jB_X7_perform_69 X (d + 5) Q 24 o1 a2 a3 a4 a5 0 (nI cnt) h c z := by
  obtain ⟨st, ff, z0, -, -, -⟩ := pz
  have K4 := Spt_400 st
  have o : OKt u N K := st.1
  have e' := e
  obtain ⟨g, -, -, -, -, -, px, e2, -, -⟩ := e
  have ci' := ci
  obtain ⟨-, -, s2, kb, kp, -, -, e14, e15, -, ot⟩ := ci
  obtain ⟨w1, w2, w3, w4, w5, -, -, w8, w9, -⟩ := rep_in o ff z0 hk c5
  obtain ⟨cz, ce1, ce2, -, -, ce5⟩ := cl_end o ff hk (Or.inl c5)
  have eT : trn u N k = whl u (tS u N (k + 1)) (ptE u N (tS u N (k + 1)) - tS u N (k + 1)) := rfl
  rw [← eT] at w9
  refine l_k5 (d := d + 3) g px K4 e2 e15 hk (by omega) c5 ?_
  refine c_beginTurns (d := d + 2) g px K4 e2 e15 e14 s2 (by omega) w2 w3 w8 w9 (by omega) cz ce2 (fun e200 h2 k2 f16 => ?_) (fun ns h2 k2 f14 f15 f58 => ?_)
  · rw [if_pos e200] at eR
    rw [eR] at H0
    have k2' : fr [] chF h h2 := fr_mono (fun _ w => w) (by decide) k2
    try dsimp only [jrI, jrN, jrA, jisr, jnul, jcat1]
    exact n_brk (R := (1, k, x, td, vl)) (CE_fr e' k2' (by decide) chF_s) (y := 1) rfl (show ¬ (1 : Int) = 0 by decide) (H0 (show ¬ (1 : Int) = 0 by decide) h2 1 (fr_trans kb (fr_mono (by decide) chF_s k2')) (KPs_fr kp k2' (by decide)) rfl hk f16)
  · rw [if_neg ns] at eR
    have k2' : fr [58] chF h h2 := fr_mono (fun _ w => w) (by decide) k2
    try dsimp only [jrI, jrN, jrA, jisr, jnul, jcat1]
    by_cases cT : trn u N k = 0
    · rw [if_pos cT] at eR f15
      refine NX (cl u N K k + 1) (s + 1) x td vl tu h2 (cnt + 1) (by omega) (by omega) eR (CI_nx ci' k2' (by decide) (by omega) ce5 (by omega) (by omega) f14 f15 (fun bb hb tb => ?_))
      have hb2 := xo_cl o ff hk (Or.inl c5) hb tb
      unfold rst at hb2
      rw [if_neg (by omega)] at hb2
      have := (xo_m k bb hb2).1
      rw [f58, upd_n (by omega)]
      exact ot bb hb2 tb
    · rw [if_neg cT] at eR f15
      refine NX (k + 2) (s + 1) x td vl _ h2 (cnt + 1) (by omega) (by omega) eR (CI_nx ci' k2' (by decide) (by omega) w4 (by omega) (by omega) f14 f15 (fun bb hb tb => ?_))
      rw [w5] at hb
      rcases List.mem_cons.mp hb with e | e
      · subst e
        rw [f58, upd_s, upg_s]
        exact ⟨rfl, by omega, w9⟩
      · have := (xo_m k bb e).1
        rw [upg_n (by omega), f58, upd_n (by omega)]
        exact ot bb e tb
theorem n_if (e : CEs h n m ρ τ b f t fl r hs ey p q u N K) (pz : PZs hs ey u N K B) (H0 : R.1 ≠ 0 → ∀ h2 (y : Int32), fr cA cFv hb h2 → KPs hb h2 q → y.toInt = R.1 → R.2.1 < K → fI h2 24 16 = nI R.2.1 → ∀ o7, jB_X7_perform_278 X (d + 5) Q 24 o1 a2 a3 a4 a5 y o7 h2 c z) (NX : ∀ (k' s' : Nat) (x' : S7) (td' : Nat → Bool) (vl' : Nat → V6) (tu' : Nat → Nat) (h2 : JH) (cnt' : Nat), 401 * (200 - s') + (K - k') < 401 * (200 - s) + (K - k) → cnt' + (401 * (200 - s') + (K - k')) < 1000000 → R = gof hs ey (slf r (m r) b f t fl) u N K nn k' s' x' td' vl' tu' → CIs B hb h2 q u N K k' s' x' td' vl' tu' → jB_X7_perform_69 X (d + 5) Q 24 o1 a2 a3 a4 a5 0 (nI cnt') h2 c z) (ci : CIs B hb h q u N K k s x td vl tu) (hk : k < K) (hcnt : cnt + (401 * (200 - s) + (K - k)) < 1000000) (c7 : tK u N k = 7) (eR : R = if (ifT u N k s td vl).1 = 0 then (if (ifT u N k s td vl).2 = true then gof hs ey (slf r (m r) b f t fl) u N K nn (k + 4 + sur u N k) (s + 1) x td vl tu else gof hs ey (slf r (m r) b f t fl) u N K nn (cl u N K k + 1) (s + 1) x td vl tu) else ((ifT u N k s td vl).1, k, x, td, vl)) : jB_X7_perform_69 X (d + 5) Q 24 o1 a2 a3 a4 a5 0 (nI cnt) h c z := by
  obtain ⟨st, ff, z0, -, -, -⟩ := pz
  have K4 := Spt_400 st
  have o : OKt u N K := st.1
  have e' := e
  obtain ⟨g, -, -, -, -, -, px, e2, hq, e4⟩ := e
  have ci' := ci
  obtain ⟨-, -, s2, kb, kp, -, -, e14, e15, cv, ot⟩ := ci
  obtain ⟨w1, -, -, -, -, -, w7, w8, -, -, -, -, -⟩ := if_in o ff hk c7
  obtain ⟨cz, ce1, ce2, -, -, ce5⟩ := cl_end o ff hk (Or.inr (Or.inl c7))
  clear cz
  refine l_k7 (d := d + 3) g px K4 e2 e15 hk (by omega) c7 ?_
  refine c_choose (d := d + 1) g px K4 o ff z0 e2 hq e4 cv e15 e14 s2 hk c7 (z := ifT u N k s td vl) rfl (fun nz h2 k2 f16 y hy => ?_) (fun q0 h2 k2 f14 f15 => ?_)
  · rw [if_neg nz] at eR
    rw [eR] at H0
    try dsimp only [jrI, jrN, jrA, jisr, jnul, jcat1]
    exact n_brk (R := ((ifT u N k s td vl).1, k, x, td, vl)) (CE_fr e' k2 (by decide) chF_s) hy nz (H0 nz h2 y (fr_trans kb (fr_mono (by decide) chF_s k2)) (KPs_fr kp k2 (by decide)) hy hk f16)
  · rw [if_pos q0] at eR
    have s1 : s ≠ 200 := by
      intro w
      unfold ifT ifR at q0
      rw [if_pos w] at q0
      exact absurd q0 (by show ¬ (1 : Int) = 0; decide)
    have s1 : s + 1 ≤ 200 := by omega
    clear q0
    have f58 : aF h2 58 = aF h 58 := frF k2 (by decide)
    try dsimp only [jrI, jrN, jrA, jisr, jnul, jcat1]
    by_cases cq : (ifT u N k s td vl).2 = true
    · rw [if_pos cq] at eR f15
      refine NX (k + 4 + sur u N k) (s + 1) x td vl tu h2 (cnt + 1) (by omega) (by omega) eR (CI_nx (A := []) ci' k2 (by decide) w1 w7 (by omega) s1 f14 f15 (fun bb hb tb => ?_))
      rw [w8] at hb
      rw [f58]
      rcases List.mem_cons.mp hb with e | e
      · subst e; omega
      · exact ot bb e tb
    · rw [if_neg cq] at eR f15
      refine NX (cl u N K k + 1) (s + 1) x td vl tu h2 (cnt + 1) (by omega) (by omega) eR (CI_nx (A := []) ci' k2 (by decide) (by omega) ce5 (by omega) s1 f14 f15 (fun bb hb tb => ?_))
      have hb2 := xo_cl o ff hk (Or.inr (Or.inl c7)) hb tb
      unfold rst at hb2
      rw [if_neg (by omega)] at hb2
      rw [f58]
      exact ot bb hb2 tb
theorem n_els (e : CEs h n m ρ τ b f t fl r hs ey p q u N K) (pz : PZs hs ey u N K B) (NX : ∀ (k' s' : Nat) (x' : S7) (td' : Nat → Bool) (vl' : Nat → V6) (tu' : Nat → Nat) (h2 : JH) (cnt' : Nat), 401 * (200 - s') + (K - k') < 401 * (200 - s) + (K - k) → cnt' + (401 * (200 - s') + (K - k')) < 1000000 → R = gof hs ey (slf r (m r) b f t fl) u N K nn k' s' x' td' vl' tu' → CIs B hb h2 q u N K k' s' x' td' vl' tu' → jB_X7_perform_69 X (d + 5) Q 24 o1 a2 a3 a4 a5 0 (nI cnt') h2 c z) (ci : CIs B hb h q u N K k s x td vl tu) (hk : k < K) (hcnt : cnt + (401 * (200 - s) + (K - k)) < 1000000) (c9 : tK u N k = 9) (eR : R = gof hs ey (slf r (m r) b f t fl) u N K nn (cl u N K k + 1) s x td vl tu) : jB_X7_perform_69 X (d + 5) Q 24 o1 a2 a3 a4 a5 0 (nI cnt) h c z := by
  obtain ⟨st, ff, z0, -, -, -⟩ := pz
  have K4 := Spt_400 st
  have o : OKt u N K := st.1
  obtain ⟨g, -, -, -, -, -, px, e2, -, -⟩ := e
  have ci' := ci
  obtain ⟨-, -, s2, -, -, -, -, e14, e15, -, ot⟩ := ci
  obtain ⟨cz, ce1, ce2, -, -, ce5⟩ := cl_end o ff hk (Or.inr (Or.inr c9))
  refine l_k9 (d := d + 3) g px K4 e2 e15 hk (by omega) c9 cz ?_
  have k2 : fr [] chF h (sV h 24 15 (.int (nI (cl u N K k + 1)))) := fr_sV (by decide) fr_rfl
  refine NX (cl u N K k + 1) s x td vl tu _ (cnt + 1) (by omega) (by omega) eR (CI_nx (A := []) ci' k2 (by decide) (by omega) ce5 (Nat.le_refl _) s2 ?_ (fI_sV (c := 7) (by simp only [gO g]) rfl) (fun bb hb tb => ?_))
  · rw [fI_sV_k (by decide)]; exact e14
  · have hb2 := xo_cl o ff hk (Or.inr (Or.inr c9)) hb tb
    unfold rst at hb2
    rw [if_pos c9] at hb2
    rw [aF_sV]; exact ot bb (List.mem_of_mem_tail hb2) tb
theorem n_end (e : CEs h n m ρ τ b f t fl r hs ey p q u N K) (pz : PZs hs ey u N K B) (H0 : R.1 ≠ 0 → ∀ h2 (y : Int32), fr cA cFv hb h2 → KPs hb h2 q → y.toInt = R.1 → R.2.1 < K → fI h2 24 16 = nI R.2.1 → ∀ o7, jB_X7_perform_278 X (d + 5) Q 24 o1 a2 a3 a4 a5 y o7 h2 c z) (NX : ∀ (k' s' : Nat) (x' : S7) (td' : Nat → Bool) (vl' : Nat → V6) (tu' : Nat → Nat) (h2 : JH) (cnt' : Nat), 401 * (200 - s') + (K - k') < 401 * (200 - s) + (K - k) → cnt' + (401 * (200 - s') + (K - k')) < 1000000 → R = gof hs ey (slf r (m r) b f t fl) u N K nn k' s' x' td' vl' tu' → CIs B hb h2 q u N K k' s' x' td' vl' tu' → jB_X7_perform_69 X (d + 5) Q 24 o1 a2 a3 a4 a5 0 (nI cnt') h2 c z) (ci : CIs B hb h q u N K k s x td vl tu) (hk : k < K) (hcnt : cnt + (401 * (200 - s) + (K - k)) < 1000000) (c6 : tK u N k = 6) (eR : R = if tK u N (hd0 (xo u N k)) = 5 ∧ 1 < tu (hd0 (xo u N k)) then (if s = 200 then (1, hd0 (xo u N k), x, td, vl) else gof hs ey (slf r (m r) b f t fl) u N K nn (hd0 (xo u N k) + 2) (s + 1) x td vl (upg tu (hd0 (xo u N k)) (tu (hd0 (xo u N k)) - 1))) else gof hs ey (slf r (m r) b f t fl) u N K nn (k + 1) s x td vl tu) : jB_X7_perform_69 X (d + 5) Q 24 o1 a2 a3 a4 a5 0 (nI cnt) h c z := by
  obtain ⟨st, ff, z0, -, -, -⟩ := pz
  have K4 := Spt_400 st
  have o : OKt u N K := st.1
  have e' := e
  obtain ⟨g, -, -, -, -, -, px, e2, -, -⟩ := e
  have ci' := ci
  obtain ⟨-, -, s2, kb, kp, -, -, e14, e15, -, ot⟩ := ci
  obtain ⟨-, fw1, xne, -⟩ := fw69 (hft_0 (o k hk)).1 (Or.inl c6)
  have xk1 : xe u N (k + 1) = 1 := by rw [xe_s]; exact fw1
  have xt : xo u N (k + 1) = (xo u N k).tail := by rw [xo_s, if_neg (by omega), if_neg (by omega), if_pos c6]
  have hd := xo_hd xne rfl
  have hm := hd0_mem xne
  have hm0 := (xo_m k _ hm).1
  have ot0 := ot _ hm
  clear xne fw1
  have RI := fun b5 => rep_in o ff z0 (show hd0 (xo u N k) < K by omega) b5
  generalize ebh : hd0 (xo u N k) = bh at *
  refine l_k6 (d := d + 3) g px K4 e2 e15 hk (by omega) c6 ?_
  refine c_endTurn (d := d + 2) (T := tu bh) g px K4 e2 e15 e14 s2 hk c6 ebh (by omega) ot0 (fun nn2 h2 k2 f14 f15 => ?_) (fun b5 t1 e200 h2 k2 f16 => ?_) (fun b5 t1 ns h2 k2 f14 f15 f58 => ?_)
  · rw [if_neg nn2] at eR
    have k2' : fr [] chF h h2 := fr_mono (fun _ w => w) (by decide) k2
    try dsimp only [jrI, jrN, jrA, jisr, jnul, jcat1]
    refine NX (k + 1) s x td vl tu h2 (cnt + 1) (by omega) (by omega) eR (CI_nx (A := []) ci' k2' (by decide) (by omega) xk1 (Nat.le_refl _) s2 f14 f15 (fun bb hb tb => ?_))
    rw [xt] at hb
    rw [frF k2 (by decide)]
    exact ot bb (List.mem_of_mem_tail hb) tb
  · rw [if_pos ⟨b5, t1⟩, if_pos e200] at eR
    rw [eR] at H0
    have k2' : fr [] chF h h2 := fr_mono (fun _ w => w) (by decide) k2
    try dsimp only [jrI, jrN, jrA, jisr, jnul, jcat1]
    exact n_brk (R := (1, bh, x, td, vl)) (CE_fr e' k2' (by decide) chF_s) (y := 1) rfl (show ¬ (1 : Int) = 0 by decide) (H0 (show ¬ (1 : Int) = 0 by decide) h2 1 (fr_trans kb (fr_mono (by decide) chF_s k2')) (KPs_fr kp k2' (by decide)) rfl (show bh < K by omega) f16)
  · rw [if_pos ⟨b5, t1⟩, if_neg ns] at eR
    have k2' : fr [58] chF h h2 := fr_mono (fun _ w => w) (by decide) k2
    obtain ⟨r1, -, -, r4, r5, -, -, -, -, -⟩ := RI b5
    have rs : rst u N bh = xo u N bh := if_neg (by omega)
    rw [rs] at hd
    obtain ⟨t2, t3, t4⟩ := ot0 b5
    try dsimp only [jrI, jrN, jrA, jisr, jnul, jcat1]
    refine NX (bh + 2) (s + 1) x td vl _ h2 (cnt + 1) (by omega) (by omega) eR (CI_nx ci' k2' (by decide) (by omega) r4 (by omega) (by omega) f14 f15 (fun bb hb tb => ?_))
    rw [r5] at hb
    rcases List.mem_cons.mp hb with e | e
    · subst e
      rw [f58, upd_s, upg_s]
      exact ⟨rfl, by omega, by omega⟩
    · have := (xo_m bh bb e).1
      rw [upg_n (by omega), f58, upd_n (by omega)]
      exact ot bb (by rw [hd]; exact List.mem_cons_of_mem _ e) tb
theorem l_perf (e : CEs hb n m ρ τ b f t fl r hs ey p q u N K) (pz : PZs hs ey u N K B) (H1 : R.1 = 0 → ∀ h2 (pp : Int), fr cA cFv hb h2 → KPs hb h2 q → HS h2 6 (setp R.2.2.1 pp) → CVs h2 q R.2.2.2.1 R.2.2.2.2 → ∀ o7, jB_X7_perform_278 X (d + 5) Q 24 o1 a2 a3 a4 a5 0 o7 h2 c z) (H0 : R.1 ≠ 0 → ∀ h2 (y : Int32), fr cA cFv hb h2 → KPs hb h2 q → y.toInt = R.1 → R.2.1 < K → fI h2 24 16 = nI R.2.1 → ∀ o7, jB_X7_perform_278 X (d + 5) Q 24 o1 a2 a3 a4 a5 y o7 h2 c z) : ∀ (nn k s : Nat) (x : S7) (td : Nat → Bool) (vl : Nat → V6) (tu : Nat → Nat) (h1 : JH) (cnt : Nat), 401 * (200 - s) + (K - k) < nn → cnt + (401 * (200 - s) + (K - k)) < 1000000 → R = gof hs ey (slf r (m r) b f t fl) u N K nn k s x td vl tu → CIs B hb h1 q u N K k s x td vl tu → jB_X7_perform_69 X (d + 5) Q 24 o1 a2 a3 a4 a5 0 (nI cnt) h1 c z := by
  intro nn
  induction nn with
  | zero => intro k s x td vl tu h1 cnt hm; omega
  | succ nn ih =>
    intro k s x td vl tu h1 cnt hm hcnt eR ci
    have hk := ci.1
    have xk := ci.2.1
    have kb := ci.2.2.2.1
    have e1 := CE_fr e kb (fun _ w => w) (fun _ w => w)
    have NX : ∀ (k' s' : Nat) (x' : S7) (td' : Nat → Bool) (vl' : Nat → V6) (tu' : Nat → Nat) (h2 : JH) (cnt' : Nat), 401 * (200 - s') + (K - k') < 401 * (200 - s) + (K - k) → cnt' + (401 * (200 - s') + (K - k')) < 1000000 → R = gof hs ey (slf r (m r) b f t fl) u N K nn k' s' x' td' vl' tu' → CIs B hb h2 q u N K k' s' x' td' vl' tu' → jB_X7_perform_69 X (d + 5) Q 24 o1 a2 a3 a4 a5 0 (nI cnt') h2 c z := fun k' s' x' td' vl' tu' h2 cnt' hm' hc' eR' ci' => ih k' s' x' td' vl' tu' h2 cnt' (by omega) hc' eR' ci'
    rw [gof.eq_2] at eR
    by_cases hK : K ≤ k
    · rw [if_pos hK] at eR
      rw [eR] at H1
      have ek : k = K := by omega
      have K4 := Spt_400 pz.1
      have e15 := ci.2.2.2.2.2.2.2.2.1
      rw [ek] at e15
      obtain ⟨pp, p0, p1, hx⟩ := ci.2.2.2.2.2.1
      exact l_fin e1.1 e1.2.2.2.2.2.2.1 e1.2.2.2.2.2.2.2.1 K4 e15 (H1 rfl h1 pp kb ci.2.2.2.2.1 hx ci.2.2.2.2.2.2.2.2.2.1)
    rw [if_neg hK] at eR
    have hk' : k < K := by omega
    have tk := kind1 (hft_0 (pz.1.1 k hk')).1 xk
    by_cases c4 : tK u N k = 4
    · rw [if_pos c4] at eR
      exact n_let e1 pz H0 NX ci hk' hcnt c4 eR
    rw [if_neg c4] at eR
    by_cases c5 : tK u N k = 5
    · rw [if_pos c5] at eR
      exact n_rep e1 pz H0 NX ci hk' hcnt c5 eR
    rw [if_neg c5] at eR
    by_cases c7 : tK u N k = 7
    · rw [if_pos c7] at eR
      exact n_if e1 pz H0 NX ci hk' hcnt c7 eR
    rw [if_neg c7] at eR
    by_cases c9 : tK u N k = 9
    · rw [if_pos c9] at eR
      exact n_els e1 pz NX ci hk' hcnt c9 eR
    rw [if_neg c9] at eR
    exact n_end e1 pz H0 NX ci hk' hcnt (by omega) eR
end CGM
