/-! A RUN: the model goes, whole -/
def gA : List Nat := [89, 109, 110, 111, 112]
def gFa : List (Nat × Nat) := (81, 53) :: pF
/-- the values told so far, the model's -/
def MVs (h : JH) (td : Nat → Bool) (vl : Nat → V6) : Prop := ∀ c, c < 12 → aF h 109 c = bi (td c) ∧ (td c = true → GV (vl c) ∧ ∀ w, w < 6 → (aF h 110 (6 * c + w)).toInt = vl c w)
section MGL
variable {X : JX} {d : Nat} {Q : JQ} {h h1 : JH} {n : Nat} {m ρ τ f : Nat → Nat} {b t : Nat → Bool} {fl : Nat → Nat → Int} {r : Nat} {hs ey B : Int} {u : Nat → Int} {N K : Nat} {td : Nat → Bool} {vl : Nat → V6}
theorem nI_p {a : Nat} (h1 : 1 ≤ a) : nI a - 1 = nI (a - 1) := by
  have e : nI (a - 1) + 1 = nI a := by rw [nI_1]; congr 1; omega
  rw [← e, Int32.add_sub_cancel]
theorem GV_at (gv : ∀ c, c < 12 → td c = true → GV (vl c)) (o : OKt u N K) (z0 : (sft u N K).1 = 0) {i : Nat} (hi : i < K) (ia : isAt u N i = true) {v : V6} (e : ato u N td vl i = some v) : GV v := by
  have ia := of_decide_eq_true ia
  unfold ato at e
  by_cases c : tK u N i = 2
  · rw [if_pos c] at e
    have h12 := (hft_0 (o i hi)).2.2.1 c
    by_cases c2 : td (nnum u N i) = true
    · rw [if_pos c2] at e
      have e := Option.some.inj e
      rw [← e]
      exact gv _ h12 c2
    · rw [if_neg c2] at e
      exact absurd e (by intro w; cases w)
  · rw [if_neg c] at e
    have e := Option.some.inj e
    have t3 : tK u N i = 3 := by omega
    have w := of_decide_eq_false (sft_z K z0 i hi).2
    have nb := num_b t3 (fun q => w ⟨t3, Or.inr ⟨ia.2.2, q⟩⟩)
    exact GV_num (v := v) (D := ((dgs u N (tS u N i) : Nat) : Int)) (E := dpl u N (tS u N i)) (fun w _ => by rw [← e]; rfl) (by omega) (by omega) (by omega) (by omega)
theorem AV_at (pm : PM0 h u N K) (o : OKt u N K) (z0 : (sft u N K).1 = 0) (mv : MVs h td vl) {i : Nat} (hi : i < K) (ia : isAt u N i = true) : AV h (na u N i) (ato u N td vl i) := by
  obtain ⟨_, _, _, x4, _⟩ := pm
  obtain ⟨a1, a2, a3, a4⟩ := x4 i hi ia
  have ia := of_decide_eq_true ia
  unfold ato
  by_cases c : tK u N i = 2
  · rw [if_pos c]
    have h12 := (hft_0 (o i hi)).2.2.1 c
    obtain ⟨m1, m2⟩ := mv _ h12
    refine Or.inr ⟨nnum u N i, h12, a3 c, ?_⟩
    by_cases c2 : td (nnum u N i) = true
    · rw [if_pos c2]
      rw [c2] at m1
      exact Or.inl ⟨m1, _, rfl, fun w hw => ((m2 c2).2 w hw).symm⟩
    · rw [if_neg c2]
      rw [Bool.eq_false_iff.mpr c2] at m1
      exact Or.inr ⟨m1, rfl⟩
  · rw [if_neg c]
    have t3 : tK u N i = 3 := by omega
    have w := of_decide_eq_false (sft_z K z0 i hi).2
    have nz : dgs u N (tS u N i) ≠ 0 := fun q => w ⟨t3, Or.inr ⟨ia.2.2, q⟩⟩
    have nb := num_b t3 nz
    obtain ⟨b1, b2⟩ := a4 t3
    obtain ⟨b3, b4⟩ := b2 nz
    refine Or.inl ⟨b1, _, rfl, fun w hw => ?_⟩
    rw [b3, b4, nI_toInt (by omega), zt (by omega) (by omega)]
    rfl
theorem MVs_fr {A : List Nat} {F : List (Nat × Nat)} (mv : MVs h td vl) (a : fr A F h h1) (k1 : 109 ∉ A) (k2 : 110 ∉ A) : MVs h1 td vl := by
  unfold MVs
  rw [frF a k1, frF a k2]
  exact mv
theorem xo_cl (o : OKt u N K) (ff : fin u N K) {i : Nat} (hi : i < K) (ti : tK u N i = 5 ∨ tK u N i = 7 ∨ tK u N i = 9) {bb : Nat} (m : bb ∈ xo u N (cl u N K i + 1)) (t5 : tK u N bb = 5) : bb ∈ rst u N i := by
  obtain ⟨_, _, _, c4, c5, _⟩ := cl_end o ff hi ti
  rw [xo_s, c5, if_neg (by omega)] at m
  by_cases c9 : tK u N (cl u N K i) = 9
  · rw [if_pos c9] at m
    rcases List.mem_cons.mp m with e | e
    · subst e; omega
    · exact e
  · rw [if_neg c9, if_pos (by omega)] at m
    exact m
/-- what the model's loop stands on -/
def MEs (h : JH) (n : Nat) (m ρ τ : Nat → Nat) (b : Nat → Bool) (f : Nat → Nat) (t : Nat → Bool) (fl : Nat → Nat → Int) (r : Nat) (hs ey : Int) (u : Nat → Int) (N K : Nat) : Prop := G h ∧ RB h n m ρ τ b f t fl ∧ r < n ∧ fI h 81 13 = nI r ∧ (fI h 81 10).toInt = hs ∧ (fI h 81 11).toInt = ey ∧ PM0 h u N K
def PZs (hs ey : Int) (u : Nat → Int) (N K : Nat) (B : Int) : Prop := Spt u N K ∧ fin u N K ∧ (sft u N K).1 = 0 ∧ (0 ≤ hs ∧ hs ≤ 20) ∧ (0 ≤ ey ∧ ey ≤ 40) ∧ 999 ≤ B
/-- where the model's loop stands -/
def MIs (B : Int) (hb h1 : JH) (u : Nat → Int) (N K k s : Nat) (x : S7) (td : Nat → Bool) (vl : Nat → V6) (tu : Nat → Nat) : Prop := k ≤ K ∧ xe u N k = 1 ∧ s ≤ 200 ∧ fr gA gFa hb h1 ∧ MX h1 x ∧ BXs B s x ∧ fI h1 81 48 = nI s ∧ MVs h1 td vl ∧ (∀ bb, bb ∈ xo u N k → tK u N bb = 5 → aF h1 112 (xo u N bb).length = nI (tu bb) - 1 ∧ 1 ≤ tu bb ∧ tu bb ≤ 99)
end MGL
section MGM
variable {X : JX} {d : Nat} {Q : JQ} {hb h h1 : JH} {n : Nat} {m ρ τ f : Nat → Nat} {b t : Nat → Bool} {fl : Nat → Nat → Int} {r : Nat} {hs ey B : Int} {u : Nat → Int} {N K k s nn : Nat} {td : Nat → Bool} {vl : Nat → V6} {tu : Nat → Nat} {x : S7} {R : Int × Nat × S7 × (Nat → Bool) × (Nat → V6)} {c z : Nat} {o2 : Option Value}
theorem ME_fr {A : List Nat} {F : List (Nat × Nat)} (e : MEs h n m ρ τ b f t fl r hs ey u N K) (st : Spt u N K) (a : fr A F h h1) (hA : ∀ p, p ∈ A → p ∈ gA) (hF : ∀ p, p ∈ F → p ∈ gFa) : MEs h1 n m ρ τ b f t fl r hs ey u N K := by
  obtain ⟨g, rb, hr, e13, e10, e11, pm⟩ := e
  have k1 : fr gA gFa h h1 := fr_mono hA hF a
  exact ⟨G_fr g rfl k1, RB_fr rb k1 (by decide), hr, by rw [frI k1 (by decide) (by decide)]; exact e13, by rw [frI k1 (by decide) (by decide)]; exact e10, by rw [frI k1 (by decide) (by decide)]; exact e11, PM0_low pm st (LOW_fr k1 (by decide))⟩
/-- a step that leaves the hand and the values -/
theorem MI_nx {A : List Nat} {k' s' : Nat} {tu' : Nat → Nat} (mi : MIs B hb h u N K k s x td vl tu) (a : fr A gFs h h1) (hA : ∀ p, p ∈ A → p ∈ gA) (n109 : 109 ∉ A) (n110 : 110 ∉ A) (hk : k' ≤ K) (xk : xe u N k' = 1) (hs : s ≤ s') (s2 : s' ≤ 200) (e48 : fI h1 81 48 = nI s') (ot : ∀ bb, bb ∈ xo u N k' → tK u N bb = 5 → aF h1 112 (xo u N bb).length = nI (tu' bb) - 1 ∧ 1 ≤ tu' bb ∧ tu' bb ≤ 99) : MIs B hb h1 u N K k' s' x td vl tu' := by
  obtain ⟨m1, m2, m3, m4, m5, m6, m7, m8, m9⟩ := mi
  obtain ⟨q1, q2, q3, q4⟩ := m6
  exact ⟨hk, xk, s2, fr_trans m4 (fr_mono hA (by decide) a), MX_fr m5 a (by decide) (by decide) (by decide) (by decide) (by decide) (by decide) (by decide), ⟨q1, by omega, by omega, q4⟩, e48, MVs_fr m8 a n109 n110, ot⟩
theorem m_let (e : MEs h n m ρ τ b f t fl r hs ey u N K) (pz : PZs hs ey u N K B) (H0 : R.1 ≠ 0 → ∀ h2, fr gA gFa hb h2 → (fI h2 81 52).toInt = R.1 → fI h2 81 53 = nI (tS u N R.2.1) → Q (some (.int 0)) h2) (NX : ∀ (k' s' : Nat) (x' : S7) (td' : Nat → Bool) (vl' : Nat → V6) (tu' : Nat → Nat) (h2 : JH) (o2 : Option Value), 401 * (200 - s') + (K - k') < 401 * (200 - s) + (K - k) → R = gof hs ey (slf r (m r) b f t fl) u N K nn k' s' x' td' vl' tu' → MIs B hb h2 u N K k' s' x' td' vl' tu' → jB_X12_goes_2 X (d + 7) Q 81 (nI (ns u N k')) o2 h2 c z) (mi : MIs B hb h u N K k s x td vl tu) (hk : k < K) (c4 : tK u N k = 4) (eR : R = if s = 200 then (1, k, x, td, vl) else if (ltT hs ey (slf r (m r) b f t fl) u N K k s x td vl).1 = 0 then gof hs ey (slf r (m r) b f t fl) u N K nn (cl u N K k + 1) (s + 1 + lmy u N K k) (ltT hs ey (slf r (m r) b f t fl) u N K k s x td vl).2.1 (upg td (nnum u N (k + 1)) true) (upg vl (nnum u N (k + 1)) (ltT hs ey (slf r (m r) b f t fl) u N K k s x td vl).2.2) tu else ((ltT hs ey (slf r (m r) b f t fl) u N K k s x td vl).1, k, x, td, vl)) : jB_X12_goes_2 X (d + 7) Q 81 (nI (ns u N k)) o2 h c z := by
  obtain ⟨st, ff, z0, ⟨h0, h20⟩, ⟨y0, y40⟩, b9⟩ := pz
  have K4 := Spt_400 st
  have o : OKt u N K := st.1
  have e' := e
  obtain ⟨g, rb, hr, e13, e10, e11, pm⟩ := e
  obtain ⟨hk1, xk, s2, kb, mx, bx, e48, mv, ot⟩ := mi
  have nlK := ns_le (t := u) (N := N) K
  have naK := (na_le (t := u) (N := N) K o).1
  have gv : ∀ c, c < 12 → td c = true → GV (vl c) := fun c hc q => ((mv c hc).2 q).1
  have is : isSt u N k = true := isSt_t (Or.inl c4)
  have nlt := ns_lt (t := u) (N := N) hk is
  obtain ⟨w1, w2, w3, wL, w6, wx, wo, wn, wna⟩ := let_end o ff hk c4
  clear wL
  obtain ⟨a1, a2, -, a4, -, -, -, -⟩ := pm.2.1 k hk is
  have sk : skd u N k = 0 := if_pos c4
  obtain ⟨p93, p94, p95⟩ := a4 c4
  have a92 := a2 (Or.inl c4)
  clear a2 a4
  have t2 := (let_hd o ff hk c4).1
  have n12 : nnum u N (k + 1) < 12 := (hft_0 (o (k + 1) (by omega))).2.2.1 t2
  have nac := na_mono (t := u) (N := N) (j := cl u N K k) (k := K) (by omega)
  have e95 : na u N k + lmy u N K k = na u N (cl u N K k) := by unfold lmy; omega
  have lm1 : 1 ≤ lmy u N K k := by unfold lmy; omega
  have at0 : ∀ j, j < lmy u N K k → atk u N (na u N k + j) < K ∧ isAt u N (atk u N (na u N k + j)) = true ∧ na u N (atk u N (na u N k + j)) = na u N k + j := fun j hj => atk_s (k := K) (by omega)
  have gvo : ∀ j, j < lmy u N K k → ∀ v, lO u N td vl k j = some v → GV v := fun j hj v e => GV_at gv o z0 (at0 j hj).1 (at0 j hj).2.1 e
  have l210 : na u N k + lmy u N K k ≤ 210 := by omega
  have LB : s ≠ 200 → _ := fun (ns200 : s ≠ 200) w => ltR_b (hs := hs) (ey := ey) (sl := slf r (m r) b f t fl) (W := lW u N k) (ov := lV u N k) gvo lm1 (by omega) bx b9 h0 (show s + 1 ≤ 200 by omega) w
  refine l_gLet (d := d + 5) g pm.1 nlt (by omega) (by rw [a1, sk]) e48 s2 (fun e200 h2 k2 e52 e53 => ?_) (fun ns200 h2 k2 f48 e53 => ?_)
  · rw [if_pos e200] at eR
    rw [eR] at H0
    exact H0 (show ¬ (1 : Int) = 0 by decide) h2 (fr_trans kb (fr_mono (by decide) (by decide) k2)) e52 (by rw [e53, a92])
  · rw [if_neg ns200] at eR
    have LB := LB ns200
    obtain ⟨g2, rb2, -, f13, f10, f11, pm2⟩ := ME_fr e' st k2 (by decide) (by decide)
    have mx2 : MX h2 x := MX_fr mx k2 (by decide) (by decide) (by decide) (by decide) (by decide) (by decide) (by decide)
    have mv2 := MVs_fr mv k2 (by decide) (by decide)
    have kb2 : fr gA gFa hb h2 := fr_trans kb (fr_mono (by decide) (by decide) k2)
    have zs1 : zsl x ≤ 900000 := by have := bx.2.1; omega
    have zs2 : zhm x ≤ 900000 := by have := bx.2.2.1; omega
    refine c_lets (d := d) g2 rb2 hr f13 mx2 bx.1 zs1 zs2 f10 h0 h20 f11 y0 y40 (show ns u N k < 820 by omega) n12 lm1 l210 (by rw [frF k2 (by decide)]; exact p93) (by rw [frF k2 (by decide)]; exact p94) (by rw [frF k2 (by decide), e95]; exact p95) (O := lO u N td vl k) (W := lW u N k) (ov := lV u N k) (fun j hj => ?_) gvo (fun j hj => ?_) (fun j hj => ?_) f48 (by omega) (q := ltT hs ey (slf r (m r) b f t fl) u N K k s x td vl) rfl (fun q0 h3 k3 mx3 q109 q110 o110 g48 => ?_) (fun q0 h3 k3 e52 => ?_)
    · have := AV_at pm2 o z0 mv2 (at0 j hj).1 (at0 j hj).2.1
      rw [(at0 j hj).2.2] at this
      exact this
    · have := (pm2.2.2.2.1 _ (at0 j hj).1 (at0 j hj).2.1).1
      rw [(at0 j hj).2.2] at this
      exact this
    · have := (pm2.2.2.2.1 _ (at0 j hj).1 (at0 j hj).2.1).2.1
      rw [(at0 j hj).2.2] at this
      exact this
    · rw [if_pos q0] at eR
      obtain ⟨v1, v2, v3, -⟩ := LB q0
      have v2 : GV (ltT hs ey (slf r (m r) b f t fl) u N K k s x td vl).2.2 := v2
      have v1 : BXs B (s + 1 + lmy u N K k) (ltT hs ey (slf r (m r) b f t fl) u N K k s x td vl).2.1 := v1
      clear LB
      generalize ltT hs ey (slf r (m r) b f t fl) u N K k s x td vl = q at *
      try dsimp only [jrI, jrN, jrA, jisr, jnul, jcat1]
      refine jif_n (by decide) ?_
      have en : nI (ns u N k) + 1 = nI (ns u N (cl u N K k + 1)) := by rw [nI_1, wn]
      rw [en]
      have f109 : aF h2 109 = aF h 109 := frF k2 (by decide)
      have f110 : aF h2 110 = aF h 110 := frF k2 (by decide)
      refine NX (cl u N K k + 1) (s + 1 + lmy u N K k) _ _ _ tu h3 _ (by omega) eR ⟨by omega, wx, v3, fr_trans kb2 (fr_mono (by decide) (by decide) k3), mx3, v1, g48, fun c hc => ?_, fun bb hb tb => ?_⟩
      · by_cases e : c = nnum u N (k + 1)
        · subst e
          refine ⟨by rw [q109, upd_s, upg_s]; rfl, fun _ => ?_⟩
          rw [upg_s]
          exact ⟨v2, q110⟩
        · obtain ⟨m1, m2⟩ := mv2 c hc
          rw [q109, upd_n e, upg_n e, upg_n e]
          refine ⟨m1, fun q => ⟨(m2 q).1, fun w hw => ?_⟩⟩
          have oo : 6 * c + w < 6 * nnum u N (k + 1) ∨ 6 * nnum u N (k + 1) + 6 ≤ 6 * c + w := by omega
          rw [o110 _ oo]
          exact (m2 q).2 w hw
      · rw [wo] at hb
        have := ot bb hb tb
        rw [frF k3 (by decide), frF k2 (by decide)]
        exact this
    · rw [if_neg q0] at eR
      rw [eR] at H0
      try dsimp only [jrI, jrN, jrA, jisr, jnul, jcat1]
      refine jif_t rfl (H0 q0 h3 (fr_trans kb2 (fr_mono (by decide) (by decide) k3)) e52 ?_)
      rw [frI k3 (by decide) (by decide), e53, a92]
theorem m_rep (e : MEs h n m ρ τ b f t fl r hs ey u N K) (pz : PZs hs ey u N K B) (H0 : R.1 ≠ 0 → ∀ h2, fr gA gFa hb h2 → (fI h2 81 52).toInt = R.1 → fI h2 81 53 = nI (tS u N R.2.1) → Q (some (.int 0)) h2) (NX : ∀ (k' s' : Nat) (x' : S7) (td' : Nat → Bool) (vl' : Nat → V6) (tu' : Nat → Nat) (h2 : JH) (o2 : Option Value), 401 * (200 - s') + (K - k') < 401 * (200 - s) + (K - k) → R = gof hs ey (slf r (m r) b f t fl) u N K nn k' s' x' td' vl' tu' → MIs B hb h2 u N K k' s' x' td' vl' tu' → jB_X12_goes_2 X (d + 7) Q 81 (nI (ns u N k')) o2 h2 c z) (mi : MIs B hb h u N K k s x td vl tu) (hk : k < K) (c5 : tK u N k = 5) (eR : R = if s = 200 then (1, k, x, td, vl) else if trn u N k = 0 then gof hs ey (slf r (m r) b f t fl) u N K nn (cl u N K k + 1) (s + 1) x td vl tu else gof hs ey (slf r (m r) b f t fl) u N K nn (k + 2) (s + 1) x td vl (upg tu k (trn u N k))) : jB_X12_goes_2 X (d + 7) Q 81 (nI (ns u N k)) o2 h c z := by
  obtain ⟨st, ff, z0, -, -, -⟩ := pz
  have K4 := Spt_400 st
  have o : OKt u N K := st.1
  obtain ⟨g, -, -, -, -, -, pm⟩ := e
  have mi' := mi
  obtain ⟨-, -, s2, kb, -, -, e48, -, ot⟩ := mi
  have nlK := ns_le (t := u) (N := N) K
  have is : isSt u N k = true := isSt_t (Or.inr (Or.inl c5))
  have nlt := ns_lt (t := u) (N := N) hk is
  obtain ⟨w1, w2, w3, w4, w5, w6, w7, w8, w9, w10⟩ := rep_in o ff z0 hk c5
  obtain ⟨a1, a2, -, -, a5, -, -, a8⟩ := pm.2.1 k hk is
  obtain ⟨p93, p94⟩ := a5 c5
  have p93 := p93 w8
  obtain ⟨cz, ce1, ce2, -, -, ce5⟩ := cl_end o ff hk (Or.inl c5)
  have p95 := a8 (Or.inl c5) cz
  have a92 := a2 (Or.inr (Or.inl c5))
  clear a2 a5 a8 cz
  have sk : skd u N k = 1 := by unfold skd; rw [if_neg (by omega), if_pos c5]
  have eT : trn u N k = whl u (tS u N (k + 1)) (ptE u N (tS u N (k + 1)) - tS u N (k + 1)) := rfl
  rw [← eT] at p93 w9
  have OT : ∀ {h2 : JH} {v : Int32}, aF h2 112 = upd (aF h 112) (xo u N k).length v → ∀ bb, bb ∈ xo u N k → tK u N bb = 5 → aF h2 112 (xo u N bb).length = nI (tu bb) - 1 ∧ 1 ≤ tu bb ∧ tu bb ≤ 99 := by
    intro h2 v e bb hb tb
    have lt := WN_len (xo_WN k) hb tb
    rw [e, upd_n (by omega)]
    exact ot bb hb tb
  refine l_gRep (d := d + 5) g pm.1 nlt (by omega) (by rw [a1, sk]) e48 s2 w10 p94 w9 p93 (fun e200 h2 k2 e52 e53 => ?_) (fun ns200 h2 k2 f48 q112 o2 => ?_)
  · rw [if_pos e200] at eR
    rw [eR] at H0
    exact H0 (show ¬ (1 : Int) = 0 by decide) h2 (fr_trans kb (fr_mono (by decide) (by decide) k2)) e52 (by rw [e53, a92])
  · rw [if_neg ns200] at eR
    by_cases cT : trn u N k = 0
    · rw [if_pos cT] at eR ⊢
      rw [p95]
      refine NX (cl u N K k + 1) (s + 1) x td vl tu h2 _ (by omega) eR (MI_nx mi' k2 (by decide) (by decide) (by decide) (by omega) ce5 (by omega) (by omega) f48 (fun bb hb tb => ?_))
      have hb2 := xo_cl o ff hk (Or.inl c5) hb tb
      unfold rst at hb2
      rw [if_neg (by omega)] at hb2
      exact OT q112 bb hb2 tb
    · rw [if_neg cT] at eR ⊢
      rw [show nI (ns u N k + 1) = nI (ns u N (k + 2)) by rw [w6]]
      refine NX (k + 2) (s + 1) x td vl _ h2 _ (by omega) eR (MI_nx mi' k2 (by decide) (by decide) (by decide) (by omega) w4 (by omega) (by omega) f48 (fun bb hb tb => ?_))
      rw [w5] at hb
      rcases List.mem_cons.mp hb with e | e
      · subst e
        rw [q112, upd_s, upg_s]
        exact ⟨rfl, by omega, w9⟩
      · have := (xo_m k bb e).1
        rw [upg_n (by omega)]
        exact OT q112 bb e tb
theorem m_if (e : MEs h n m ρ τ b f t fl r hs ey u N K) (pz : PZs hs ey u N K B) (H0 : R.1 ≠ 0 → ∀ h2, fr gA gFa hb h2 → (fI h2 81 52).toInt = R.1 → fI h2 81 53 = nI (tS u N R.2.1) → Q (some (.int 0)) h2) (NX : ∀ (k' s' : Nat) (x' : S7) (td' : Nat → Bool) (vl' : Nat → V6) (tu' : Nat → Nat) (h2 : JH) (o2 : Option Value), 401 * (200 - s') + (K - k') < 401 * (200 - s) + (K - k) → R = gof hs ey (slf r (m r) b f t fl) u N K nn k' s' x' td' vl' tu' → MIs B hb h2 u N K k' s' x' td' vl' tu' → jB_X12_goes_2 X (d + 7) Q 81 (nI (ns u N k')) o2 h2 c z) (mi : MIs B hb h u N K k s x td vl tu) (hk : k < K) (c7 : tK u N k = 7) (eR : R = if (ifT u N k s td vl).1 = 0 then (if (ifT u N k s td vl).2 = true then gof hs ey (slf r (m r) b f t fl) u N K nn (k + 4 + sur u N k) (s + 1) x td vl tu else gof hs ey (slf r (m r) b f t fl) u N K nn (cl u N K k + 1) (s + 1) x td vl tu) else ((ifT u N k s td vl).1, k, x, td, vl)) : jB_X12_goes_2 X (d + 7) Q 81 (nI (ns u N k)) o2 h c z := by
  obtain ⟨st, ff, z0, -, -, -⟩ := pz
  have K4 := Spt_400 st
  have o : OKt u N K := st.1
  obtain ⟨g, -, -, -, -, -, pm⟩ := e
  have mi' := mi
  obtain ⟨-, -, s2, kb, -, -, e48, mv, ot⟩ := mi
  have nlK := ns_le (t := u) (N := N) K
  have naK := (na_le (t := u) (N := N) K o).1
  have is : isSt u N k = true := isSt_t (Or.inr (Or.inr (Or.inl c7)))
  have nlt := ns_lt (t := u) (N := N) hk is
  obtain ⟨w1, w2, w3, -, w5, w6, w7, w8, w9, -, -, -, -⟩ := if_in o ff hk c7
  obtain ⟨a1, a2, -, -, -, a6, -, a8⟩ := pm.2.1 k hk is
  obtain ⟨p93, p94⟩ := a6 c7
  obtain ⟨cz, ce1, ce2, -, -, ce5⟩ := cl_end o ff hk (Or.inr (Or.inl c7))
  have p95 := a8 (Or.inr (Or.inl c7)) cz
  have a92 := a2 (Or.inr (Or.inr c7))
  clear a2 a6 a8 cz
  have sk : skd u N k = 2 := by unfold skd; rw [if_neg (by omega), if_neg (by omega), if_pos c7]
  have cd4 : ifA u N k < 4 := by unfold ifA; split <;> split <;> omega
  have av1 := AV_at pm o z0 mv (show k + 1 + sur u N k < K by omega) w2
  have av2 := AV_at pm o z0 mv (show k + 3 + sur u N k < K by omega) w5
  rw [w3] at av1
  rw [w6] at av2
  have nk3 := na_lt (t := u) (N := N) (show k + 3 + sur u N k < K by omega) w5
  refine l_gIf (d := d + 5) g pm.1 nlt (by omega) (by rw [a1, sk]) e48 s2 (i := na u N k) (by omega) p94 cd4 p93 av1 av2 (q := ifT u N k s td vl) rfl (fun q0 h2 k2 e52 e53 => ?_) (fun q0 h2 k2 f48 o2 => ?_)
  · rw [if_neg q0] at eR
    rw [eR] at H0
    exact H0 q0 h2 (fr_trans kb (fr_mono (by decide) (by decide) k2)) e52 (by rw [e53, a92])
  · rw [if_pos q0] at eR
    have s1 : s ≠ 200 := by
      intro w
      unfold ifT ifR at q0
      rw [if_pos w] at q0
      exact absurd q0 (by show ¬ (1 : Int) = 0; decide)
    have s1 : s + 1 ≤ 200 := by omega
    clear q0
    by_cases cq : (ifT u N k s td vl).2 = true
    · rw [if_pos cq] at eR ⊢
      rw [show nI (ns u N k + 1) = nI (ns u N (k + 4 + sur u N k)) by rw [w9]]
      refine NX (k + 4 + sur u N k) (s + 1) x td vl tu h2 _ (by omega) eR (MI_nx mi' k2 (by decide) (by decide) (by decide) w1 w7 (by omega) s1 f48 (fun bb hb tb => ?_))
      rw [w8] at hb
      rcases List.mem_cons.mp hb with e | e
      · subst e; omega
      · rw [frF k2 (by decide)]; exact ot bb e tb
    · rw [if_neg cq] at eR ⊢
      rw [p95]
      refine NX (cl u N K k + 1) (s + 1) x td vl tu h2 _ (by omega) eR (MI_nx mi' k2 (by decide) (by decide) (by decide) (by omega) ce5 (by omega) s1 f48 (fun bb hb tb => ?_))
      have hb2 := xo_cl o ff hk (Or.inr (Or.inl c7)) hb tb
      unfold rst at hb2
      rw [if_neg (by omega)] at hb2
      rw [frF k2 (by decide)]; exact ot bb hb2 tb
theorem m_els (e : MEs h n m ρ τ b f t fl r hs ey u N K) (pz : PZs hs ey u N K B) (NX : ∀ (k' s' : Nat) (x' : S7) (td' : Nat → Bool) (vl' : Nat → V6) (tu' : Nat → Nat) (h2 : JH) (o2 : Option Value), 401 * (200 - s') + (K - k') < 401 * (200 - s) + (K - k) → R = gof hs ey (slf r (m r) b f t fl) u N K nn k' s' x' td' vl' tu' → MIs B hb h2 u N K k' s' x' td' vl' tu' → jB_X12_goes_2 X (d + 7) Q 81 (nI (ns u N k')) o2 h2 c z) (mi : MIs B hb h u N K k s x td vl tu) (hk : k < K) (c9 : tK u N k = 9) (eR : R = gof hs ey (slf r (m r) b f t fl) u N K nn (cl u N K k + 1) s x td vl tu) : jB_X12_goes_2 X (d + 7) Q 81 (nI (ns u N k)) o2 h c z := by
  obtain ⟨st, ff, z0, -, -, -⟩ := pz
  have K4 := Spt_400 st
  have o : OKt u N K := st.1
  obtain ⟨g, -, -, -, -, -, pm⟩ := e
  have mi' := mi
  obtain ⟨-, -, s2, -, -, -, e48, -, ot⟩ := mi
  have nlK := ns_le (t := u) (N := N) K
  have is : isSt u N k = true := isSt_t (Or.inr (Or.inr (Or.inr c9)))
  have nlt := ns_lt (t := u) (N := N) hk is
  obtain ⟨a1, -, -, -, -, -, -, a8⟩ := pm.2.1 k hk is
  obtain ⟨cz, ce1, ce2, -, -, ce5⟩ := cl_end o ff hk (Or.inr (Or.inr c9))
  have p95 := a8 (Or.inr (Or.inr c9)) cz
  clear a8 cz
  have sk : skd u N k = 11 := by unfold skd; rw [if_neg (by omega), if_neg (by omega), if_neg (by omega), if_pos c9]
  refine l_gEls g pm.1 nlt (by omega) (by rw [a1, sk]; decide) (by rw [a1, sk]; decide) (by rw [a1, sk]; decide) (by rw [a1, sk]; decide) (fun o2 => ?_)
  rw [p95]
  have k2 : fr [] gFs h (sV h 81 53 (.int (aF h 92 (ns u N k)))) := fr_sV (by decide) fr_rfl
  refine NX (cl u N K k + 1) s x td vl tu _ _ (by omega) eR (MI_nx mi' k2 (by decide) (by decide) (by decide) (by omega) ce5 (Nat.le_refl _) s2 ?_ (fun bb hb tb => ?_))
  · rw [fI_sV_k (by decide)]; exact e48
  · have hb2 := xo_cl o ff hk (Or.inr (Or.inr c9)) hb tb
    unfold rst at hb2
    rw [if_pos c9] at hb2
    rw [frF k2 (by decide)]; exact ot bb (List.mem_of_mem_tail hb2) tb
theorem m_end (e : MEs h n m ρ τ b f t fl r hs ey u N K) (pz : PZs hs ey u N K B) (H0 : R.1 ≠ 0 → ∀ h2, fr gA gFa hb h2 → (fI h2 81 52).toInt = R.1 → fI h2 81 53 = nI (tS u N R.2.1) → Q (some (.int 0)) h2) (NX : ∀ (k' s' : Nat) (x' : S7) (td' : Nat → Bool) (vl' : Nat → V6) (tu' : Nat → Nat) (h2 : JH) (o2 : Option Value), 401 * (200 - s') + (K - k') < 401 * (200 - s) + (K - k) → R = gof hs ey (slf r (m r) b f t fl) u N K nn k' s' x' td' vl' tu' → MIs B hb h2 u N K k' s' x' td' vl' tu' → jB_X12_goes_2 X (d + 7) Q 81 (nI (ns u N k')) o2 h2 c z) (mi : MIs B hb h u N K k s x td vl tu) (hk : k < K) (c6 : tK u N k = 6) (eR : R = if tK u N (hd0 (xo u N k)) = 5 ∧ 1 < tu (hd0 (xo u N k)) then (if s = 200 then (1, hd0 (xo u N k), x, td, vl) else gof hs ey (slf r (m r) b f t fl) u N K nn (hd0 (xo u N k) + 2) (s + 1) x td vl (upg tu (hd0 (xo u N k)) (tu (hd0 (xo u N k)) - 1))) else gof hs ey (slf r (m r) b f t fl) u N K nn (k + 1) s x td vl tu) : jB_X12_goes_2 X (d + 7) Q 81 (nI (ns u N k)) o2 h c z := by
  obtain ⟨st, ff, z0, -, -, -⟩ := pz
  have K4 := Spt_400 st
  have o : OKt u N K := st.1
  obtain ⟨g, -, -, -, -, -, pm⟩ := e
  have mi' := mi
  obtain ⟨-, -, s2, kb, -, -, e48, -, ot⟩ := mi
  have nlK := ns_le (t := u) (N := N) K
  obtain ⟨-, fw1, xne, -⟩ := fw69 (hft_0 (o k hk)).1 (Or.inl c6)
  have xk1 : xe u N (k + 1) = 1 := by rw [xe_s]; exact fw1
  have xt : xo u N (k + 1) = (xo u N k).tail := by rw [xo_s, if_neg (by omega), if_neg (by omega), if_pos c6]
  have hd := xo_hd xne rfl
  have hm := hd0_mem xne
  have hm0 := (xo_m k _ hm).1
  clear xne fw1
  by_cases b5 : tK u N (hd0 (xo u N k)) = 5
  · have is : isSt u N k = true := decide_eq_true (Or.inr (Or.inr (Or.inr (Or.inr ⟨c6, b5⟩))))
    have nlt := ns_lt (t := u) (N := N) hk is
    obtain ⟨a1, -, a3, -, -, -, a7, -⟩ := pm.2.1 k hk is
    obtain ⟨p94, p95⟩ := a7 c6
    have a92 := a3 c6
    clear a3 a7
    have sk : skd u N k = 10 := by unfold skd; rw [if_neg (by omega), if_neg (by omega), if_neg (by omega), if_neg (by omega)]
    obtain ⟨t1, t2, t3⟩ := ot _ hm b5
    have rs : rst u N (hd0 (xo u N k)) = xo u N (hd0 (xo u N k)) := if_neg (by omega)
    rw [rs] at hd
    obtain ⟨r1, -, -, r4, r5, r6, -, -, -, r10⟩ := rep_in o ff z0 (show hd0 (xo u N k) < K by omega) b5
    generalize hd0 (xo u N k) = bh at *
    have ty : (nI (tu bh) - 1).toInt = (tu bh : Int) - 1 := by
      rw [nI_p t2, nI_toInt (by omega)]; omega
    have t0 : (0 : Int32).toInt = 0 := rfl
    refine l_gEnd (d := d + 5) g pm.1 nlt (by omega) (by rw [a1, sk]) e48 s2 r10 p94 t1 (fun pos e200 h2 k2 e52 e53 => ?_) (fun pos ns200 h2 k2 f48 q112 o2 => ?_) (fun npos h2 k2 f48 o2 => ?_)
    · rw [ti_lt, ty, t0] at pos
      rw [if_pos ⟨b5, by omega⟩, if_pos e200] at eR
      rw [eR] at H0
      exact H0 (show ¬ (1 : Int) = 0 by decide) h2 (fr_trans kb (fr_mono (by decide) (by decide) k2)) e52 (by rw [e53, a92])
    · rw [ti_lt, ty, t0] at pos
      rw [if_pos ⟨b5, by omega⟩, if_neg ns200] at eR
      rw [p95, show nI (ns u N bh + 1) = nI (ns u N (bh + 2)) by rw [r6]]
      refine NX (bh + 2) (s + 1) x td vl _ h2 _ (by omega) eR (MI_nx mi' k2 (by decide) (by decide) (by decide) (by omega) r4 (by omega) (by omega) f48 (fun bb hb tb => ?_))
      rw [r5] at hb
      rcases List.mem_cons.mp hb with e | e
      · subst e
        rw [q112, upd_s, upg_s, nI_p t2]
        exact ⟨rfl, by omega, by omega⟩
      · have lt := WN_len (xo_WN bh) e tb
        have := (xo_m bh bb e).1
        rw [upg_n (by omega), q112, upd_n (by omega)]
        exact ot bb (by rw [hd]; exact List.mem_cons_of_mem _ e) tb
    · rw [ti_lt, ty, t0] at npos
      rw [if_neg (fun w => by omega)] at eR
      rw [show nI (ns u N k + 1) = nI (ns u N (k + 1)) by rw [ns_st is]]
      refine NX (k + 1) s x td vl tu h2 _ (by omega) eR (MI_nx mi' k2 (by decide) (by decide) (by decide) (by omega) xk1 (Nat.le_refl _) s2 f48 (fun bb hb tb => ?_))
      rw [xt] at hb
      rw [frF k2 (by decide)]; exact ot bb (List.mem_of_mem_tail hb) tb
  · have is : isSt u N k = false := decide_eq_false (by omega)
    rw [if_neg (fun w => b5 w.1)] at eR
    rw [show ns u N k = ns u N (k + 1) from (ns_sm is).symm]
    refine NX (k + 1) s x td vl tu h _ (by omega) eR (MI_nx (A := []) mi' fr_rfl (by decide) (by decide) (by decide) (by omega) xk1 (Nat.le_refl _) s2 e48 (fun bb hb tb => ?_))
    rw [xt] at hb
    exact ot bb (List.mem_of_mem_tail hb) tb
theorem l_goes (e : MEs hb n m ρ τ b f t fl r hs ey u N K) (pz : PZs hs ey u N K B) (H1 : R.1 = 0 → ∀ h2 s', fr gA gFa hb h2 → MX h2 R.2.2.1 → BXs B s' R.2.2.1 → s' ≤ 200 → MVs h2 R.2.2.2.1 R.2.2.2.2 → Q (some (.int 1)) h2) (H0 : R.1 ≠ 0 → ∀ h2, fr gA gFa hb h2 → (fI h2 81 52).toInt = R.1 → fI h2 81 53 = nI (tS u N R.2.1) → Q (some (.int 0)) h2) : ∀ (nn k s : Nat) (x : S7) (td : Nat → Bool) (vl : Nat → V6) (tu : Nat → Nat) (h1 : JH) (o2 : Option Value), 401 * (200 - s) + (K - k) < nn → R = gof hs ey (slf r (m r) b f t fl) u N K nn k s x td vl tu → MIs B hb h1 u N K k s x td vl tu → jB_X12_goes_2 X (d + 7) Q 81 (nI (ns u N k)) o2 h1 c z := by
  intro nn
  induction nn with
  | zero => intro k s x td vl tu h1 o2 hm; omega
  | succ nn ih =>
    intro k s x td vl tu h1 o2 hm eR mi
    have hk := mi.1
    have xk := mi.2.1
    have kb := mi.2.2.2.1
    have e1 := ME_fr e pz.1 kb (fun _ w => w) (fun _ w => w)
    have NX : ∀ (k' s' : Nat) (x' : S7) (td' : Nat → Bool) (vl' : Nat → V6) (tu' : Nat → Nat) (h2 : JH) (o2 : Option Value), 401 * (200 - s') + (K - k') < 401 * (200 - s) + (K - k) → R = gof hs ey (slf r (m r) b f t fl) u N K nn k' s' x' td' vl' tu' → MIs B hb h2 u N K k' s' x' td' vl' tu' → jB_X12_goes_2 X (d + 7) Q 81 (nI (ns u N k')) o2 h2 c z := fun k' s' x' td' vl' tu' h2 o2 hm' eR' mi' => ih k' s' x' td' vl' tu' h2 o2 (by omega) eR' mi'
    rw [gof.eq_2] at eR
    by_cases hK : K ≤ k
    · rw [if_pos hK] at eR
      rw [eR] at H1
      have ek : k = K := by omega
      have K4 := Spt_400 pz.1
      have nlK := ns_le (t := u) (N := N) K
      refine l_gFin e1.1 e1.2.2.2.2.2.2.1 (by rw [ek]; exact Nat.le_refl _) (by omega) (by rw [ek]; omega) ?_
      exact H1 rfl h1 s kb mi.2.2.2.2.1 mi.2.2.2.2.2.1 mi.2.2.1 mi.2.2.2.2.2.2.2.1
    rw [if_neg hK] at eR
    have hk' : k < K := by omega
    have tk := kind1 (hft_0 (pz.1.1 k hk')).1 xk
    by_cases c4 : tK u N k = 4
    · rw [if_pos c4] at eR
      exact m_let e1 pz H0 NX mi hk' c4 eR
    rw [if_neg c4] at eR
    by_cases c5 : tK u N k = 5
    · rw [if_pos c5] at eR
      exact m_rep e1 pz H0 NX mi hk' c5 eR
    rw [if_neg c5] at eR
    by_cases c7 : tK u N k = 7
    · rw [if_pos c7] at eR
      exact m_if e1 pz H0 NX mi hk' c7 eR
    rw [if_neg c7] at eR
    by_cases c9 : tK u N k = 9
    · rw [if_pos c9] at eR
      exact m_els e1 pz NX mi hk' c9 eR
    rw [if_neg c9] at eR
    exact m_end e1 pz H0 NX mi hk' (by omega) eR
end MGM
