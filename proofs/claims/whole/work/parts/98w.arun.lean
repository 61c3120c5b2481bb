/-! A RUN: class and model alike -/
def RUA : List Nat := cA ++ mA1
def RUF : List (Nat × Nat) := (24, 2) :: (24, 3) :: (24, 4) :: (24, 17) :: (24, 18) :: (24, 19) :: (81, 51) :: (81, 54) :: (81, 55) :: (gFa ++ cFv)
section ARU
variable {X : JX} {h : JH} {n : Nat} {m ρ τ f : Nat → Nat} {b t : Nat → Bool} {fl : Nat → Nat → Int} {B : Int}
theorem RUF_1 : ∀ y, y ∈ rF1 → y ∈ RUF := by
  intro y hy
  unfold rF1 at hy
  rcases List.mem_cons.mp hy with e | hy
  · rw [e]; exact List.mem_append_left (bs := gFa ++ cFv) (as := [(24, 2), (24, 3), (24, 4), (24, 17), (24, 18), (24, 19), (81, 51), (81, 54), (81, 55)]) (by decide)
  rcases List.mem_cons.mp hy with e | hy
  · rw [e]; exact List.mem_append_left (bs := gFa ++ cFv) (as := [(24, 2), (24, 3), (24, 4), (24, 17), (24, 18), (24, 19), (81, 51), (81, 54), (81, 55)]) (by decide)
  rcases List.mem_cons.mp hy with e | hy
  · rw [e]; exact List.mem_append_left (bs := gFa ++ cFv) (as := [(24, 2), (24, 3), (24, 4), (24, 17), (24, 18), (24, 19), (81, 51), (81, 54), (81, 55)]) (by decide)
  rcases List.mem_cons.mp hy with e | hy
  · rw [e]; exact List.mem_append_left (bs := gFa ++ cFv) (as := [(24, 2), (24, 3), (24, 4), (24, 17), (24, 18), (24, 19), (81, 51), (81, 54), (81, 55)]) (by decide)
  · exact List.mem_append_right (bs := gFa ++ cFv) [(24, 2), (24, 3), (24, 4), (24, 17), (24, 18), (24, 19), (81, 51), (81, 54), (81, 55)] (List.mem_append_right _ hy)
theorem RUF_0 : ∀ y, y ∈ rF0 → y ∈ RUF := by
  intro y hy
  unfold rF0 at hy
  rcases List.mem_cons.mp hy with e | hy
  · rw [e]; exact List.mem_append_left (bs := gFa ++ cFv) (as := [(24, 2), (24, 3), (24, 4), (24, 17), (24, 18), (24, 19), (81, 51), (81, 54), (81, 55)]) (by decide)
  rcases List.mem_cons.mp hy with e | hy
  · rw [e]; exact List.mem_append_left (bs := gFa ++ cFv) (as := [(24, 2), (24, 3), (24, 4), (24, 17), (24, 18), (24, 19), (81, 51), (81, 54), (81, 55)]) (by decide)
  rcases List.mem_cons.mp hy with e | hy
  · rw [e]; exact List.mem_append_left (bs := gFa ++ cFv) (as := [(24, 2), (24, 3), (24, 4), (24, 17), (24, 18), (24, 19), (81, 51), (81, 54), (81, 55)]) (by decide)
  · exact List.mem_append_right (bs := gFa ++ cFv) [(24, 2), (24, 3), (24, 4), (24, 17), (24, 18), (24, 19), (81, 51), (81, 54), (81, 55)] (List.mem_append_right _ hy)
theorem RUF_m : ∀ y, (y ∈ mF1 ∨ y ∈ mF0) → y ∈ RUF := by
  intro y hy
  have A : ∀ y, (y ∈ mF1 ∨ y ∈ mF0) → y ∈ ([(24, 2), (24, 3), (24, 4), (24, 17), (24, 18), (24, 19), (81, 51), (81, 54), (81, 55)] : List (Nat × Nat)) ∨ y ∈ gFa := by
    intro y hy
    rcases hy with hy | hy
    · rcases List.mem_cons.mp hy with e | e
      · rw [e]; exact Or.inl (by decide)
      · exact Or.inr e
    · rcases List.mem_cons.mp hy with e | e
      · rw [e]; exact Or.inl (by decide)
      · rcases List.mem_cons.mp e with e | e
        · rw [e]; exact Or.inl (by decide)
        · exact Or.inr e
  rcases A y hy with e | e
  · exact List.mem_append_left (bs := gFa ++ cFv) (as := [(24, 2), (24, 3), (24, 4), (24, 17), (24, 18), (24, 19), (81, 51), (81, 54), (81, 55)]) e
  · exact List.mem_append_right (bs := gFa ++ cFv) [(24, 2), (24, 3), (24, 4), (24, 17), (24, 18), (24, 19), (81, 51), (81, 54), (81, 55)] (List.mem_append_left _ e)
theorem a_run (g : G h) (rb : RB h n m ρ τ b f t fl) (hst : ST h) (hd : HD B h n ρ) (pr : PR h) (va : VA h) (hB : 999 ≤ B) (hB2 : B ≤ 100000) (q1 : fI h 81 54 = fI h 24 17) (q2 : fI h 81 55 = fI h 24 18) (q3 : fI h 81 51 = fI h 24 19) : AGR X 162 196 [] h (fun h2 => fr RUA RUF h h2 ∧ HD B h2 n ρ ∧ VA h2 ∧ fI h2 81 54 = fI h2 24 17 ∧ fI h2 81 55 = fI h2 24 18 ∧ fI h2 81 51 = fI h2 24 19) := by
  intro Q KK
  have hd' := hd
  obtain ⟨d13, d14, d15, d16, d17, b1, b2, b3, b4, b5, b6, b7, b8, dr⟩ := hd
  have n4 := rb.1
  rcases dr with ⟨en, e62⟩ | ⟨r, hr, er, e62⟩
  · change jex X (9 + 1) _ _ _ _
    rw [jE_X11_run]
    refine jT_X11_run_0 ?_
    rw [jgf_ob (c := 11) (by simp only [gO g]) rfl, show fV h 0 3 = .ref 6 by simp only [gF g], jgf_ob (c := 2) (by simp only [gO g]) rfl, e62]
    try dsimp only [jnul]
    refine KK _ h (fun Q2 J => ?_)
    change jex X (9 + 1) _ _ _ _
    rw [jE_X12_run]
    refine jT_X12_run_0 ?_
    rw [jgI_ob (c := 12) (by simp only [gM g]) rfl, d13]
    refine jif_t ?_ (J h ⟨fr_rfl, hd', va, q1, q2, q3⟩)
    rw [ti_lt, en]
    decide
  · have e13 : fI h 81 13 = nI r := by rw [d13, ti_eq, nI_toInt (by omega)]; exact er
    obtain ⟨u, N, K, n2, st, ff, z0, pm, pc⟩ := pr
    obtain ⟨qk, hqk, v3, v4, vv⟩ : ∃ qk : Nat, (qk = 25 ∨ qk = 26) ∧ fV h 24 3 = .ref qk ∧ fV h 24 4 = .ref (51 - qk) ∧ ∀ i, i < 12 → (aF h 107 i = 0 ∨ aF h 107 i = 1) ∧ fI h (kvo qk i) 0 = aF h 107 i ∧ (aF h 107 i = 1 → ∀ w, w < 6 → fI h (kvo qk i) (w + 1) = aF h 108 (6 * i + w)) := va
    obtain ⟨s1, s2, s3, s4, s5, s6⟩ := hst
    have hq : 51 - qk = 25 ∨ 51 - qk = 26 := by omega
    have eq : 51 - (51 - qk) = qk := by omega
    have pz : PZs (fI h 6 0).toInt (fI h 6 1).toInt u N K B := ⟨st, ff, z0, ⟨s3, s4⟩, ⟨by omega, s6⟩, hB⟩
    have bx : BXs B 0 (x0s h) := by
      have c1 : zs (x0s h) = (fI h 6 4).toInt := by rw [← d14]; rfl
      have c2 : zh (x0s h) = (fI h 6 5).toInt := by rw [← d15]; rfl
      have c3 : zu (x0s h) = (fI h 6 6).toInt := by rw [← d16]; rfl
      have c4 : zv (x0s h) = (fI h 6 7).toInt := by rw [← d17]; rfl
      have c5 : zsl (x0s h) = 0 := rfl
      have c6 : zhm (x0s h) = 0 := rfl
      unfold BXs BUn
      rw [c1, c2, c3, c4, c5, c6]
      omega
    have hx : (fI h 6 4).toInt = zs (x0s h) ∧ (fI h 6 5).toInt = zh (x0s h) ∧ (fI h 6 6).toInt = zu (x0s h) ∧ (fI h 6 7).toInt = zv (x0s h) ∧ zsl (x0s h) = 0 ∧ zhm (x0s h) = 0 := by
      rw [← d14, ← d15, ← d16, ← d17]
      exact ⟨rfl, rfl, rfl, rfl, rfl, rfl⟩
    obtain ⟨p, p5, px⟩ : ∃ p, fV h 0 5 = .ref p ∧ PXs h p u N K := by
      rcases pc with ⟨y1, y2, y3⟩ | ⟨y1, y2, y3⟩
      · exact ⟨10, y1, Or.inl ⟨rfl, y3⟩⟩
      · exact ⟨17, y1, Or.inr ⟨rfl, y3⟩⟩
    generalize eqq : 51 - qk = q at *
    have hn : 401 * 200 + K < 401 * 200 + K + 1 := Nat.lt_succ_self _
    generalize 401 * 200 + K + 1 = nn at hn
    -- the model, from where the class ended
    have MM : ∀ {F : List (Nat × Nat)} {h1 : JH}, fr cA F h h1 → keep cA F = true → (offF [(0, 2), (81, 4)] F && offA [5, 83, 84, 85, 86, 87] cA && cA.all (fun q => decide (q < 126)) && F.all (fun q => decide (q.1 < 126))) = true → (F.all (fun y => decide (y.1 ≠ 81))) = true → MEs h1 n m ρ τ b f t fl r (fI h 6 0).toInt (fI h 6 1).toInt u N K ∧ x0s h1 = x0s h ∧ ∀ k, fI h1 81 k = fI h 81 k := by
      intro F h1 k kp kr kF
      have nm : ∀ c, (81, c) ∉ F := fun c w => absurd (of_decide_eq_true (List.all_eq_true.mp kF _ w)) (fun z => z rfl)
      have e81 : ∀ c, fI h1 81 c = fI h 81 c := fun c => frI k (nm c) (by omega)
      refine ⟨⟨G_fr g kp k, RB_fr rb k kr, hr, by rw [e81]; exact e13, by rw [e81, s1], by rw [e81, s2], PM0_low pm st (LOW_fr k (by decide))⟩, ?_, e81⟩
      unfold x0s
      rw [e81, e81, e81, e81, e81]
    change jex X (3 + 7) _ _ _ _
    refine c_crun (R := gof (fI h 6 0).toInt (fI h 6 1).toInt (slf r (m r) b f t fl) u N K nn 0 0 (x0s h) (fun _ => false) (fun _ _ => 0) (fun _ => 0)) g rb hr e62 rfl rfl p5 px hq (by rw [eq]; exact v3) v4 pz hx bx hn rfl (fun r0 h1 pp k1 kp1 hx1 cv1 w3 w4 w19 => ?_) (fun r0 h1 k1 kp1 hm1 w17 w18 => ?_)
    · obtain ⟨me, ex, e81⟩ := MM k1 (by decide +kernel) (by decide +kernel) (by decide +kernel)
      refine KK _ h1 (fun Q2 J => ?_)
      change jex X (1 + 9) _ _ _ _
      refine c_mrun me pz n4 (by rw [ex]; exact bx) hn (by rw [ex]) (fun _ h2 s' k2 mx2 bx2 t107 v108 e51 => ?_) (fun nz => absurd r0 nz)
      generalize gof (fI h 6 0).toInt (fI h 6 1).toInt (slf r (m r) b f t fl) u N K nn 0 0 (x0s h) (fun _ => false) (fun _ _ => 0) (fun _ => 0) = R at *
      obtain ⟨m1, m2, m3, m4, m5, m6, m7⟩ := mx2
      have hx2 : HS h2 6 (setp R.2.2.1 pp) := HS_fr hx1 k2 (by decide) (by decide) (by decide) (by decide) (by decide) (by decide) (by decide)
      have hx1' := hx1
      obtain ⟨x1, x2, x3, x4, x5, x6, x7⟩ := hx1
      obtain ⟨y1, y2, y3, y4, y5, y6, y7⟩ := hx2
      have ey : fI h2 81 49 = fI h1 6 8 := by rw [ti_eq, m5, x5]; rfl
      rw [ey]
      obtain ⟨⟨z1, z2, z3, z4, z5, z6, z7, z8, -⟩, -, -, z9, z10⟩ := bx2
      have I6 : ∀ c, c < 4 → fI h2 6 c = fI h 6 c ∧ fV h2 6 c = fV h 6 c := fun c hc => by
        have q : c = 0 ∨ c = 1 ∨ c = 2 ∨ c = 3 := by omega
        rcases q with q | q | q | q <;> subst q
        all_goals exact ⟨by rw [frI k2 (by decide) (by decide), frI k1 (nmF (by decide +kernel)) (by decide)], by rw [frV k2 (by decide) (by decide), frV k1 (nmF (by decide +kernel)) (by decide)]⟩
      refine J h2 ⟨fr_trans (fr_mono (by decide) RUF_1 k1) (fr_mono (by decide) (fun y hy => RUF_m y (Or.inl hy)) k2), ⟨?_, ?_, ?_, ?_, ?_, ?_, ?_, ?_, ?_, ?_, ?_, ?_, ?_, Or.inr ⟨r, hr, ?_, ?_⟩⟩, ⟨q, hq, ?_, ?_, fun i hi => ?_⟩, ?_, ?_, ?_⟩
      · rw [(I6 3 (by decide)).1, frI k2 (by decide) (by decide), e81]; exact d13
      · rw [ti_eq, m1, y1]; rfl
      · rw [ti_eq, m2, y2]; rfl
      · rw [ti_eq, m3, y3]; rfl
      · rw [ti_eq, m4, y4]; rfl
      · rw [y1]; exact z1
      · rw [y1]; exact z2
      · rw [y2]; exact z3
      · rw [y2]; exact z4
      · rw [y3]; exact z5
      · rw [y3]; exact z9
      · rw [y4]; exact z7
      · rw [y4]; exact z10
      · rw [(I6 3 (by decide)).1]; exact er
      · rw [(I6 2 (by decide)).2]; exact e62
      · rw [frV k2 (by decide) (by decide)]; exact w3
      · rw [frV k2 (by decide) (by decide)]; exact w4
      · have kr := kvo_r (q := q) hi
        have nk : ∀ c, (kvo q i, c) ∉ mF1 := fun c => mid_n (by decide) kr.1 kr.2
        obtain ⟨c1, c2⟩ := cv1 i hi
        rw [t107 i hi]
        refine ⟨by cases R.2.2.2.1 i; exact Or.inl rfl; exact Or.inr rfl, by rw [frI k2 (nk _) (by omega)]; exact c1, fun w1 w hw => ?_⟩
        have tr : R.2.2.2.1 i = true := by
          cases et : R.2.2.2.1 i
          · rw [et] at w1; exact absurd w1 (by decide)
          · rfl
        rw [ti_eq, frI k2 (nk _) (by omega), v108 i hi tr w hw]
        exact (c2 tr).2.2 w hw
      · rw [frI k2 (by decide) (by decide), e81, frI k2 (by decide) (by decide), frI k1 (nmF (by decide +kernel)) (by decide)]; exact q1
      · rw [frI k2 (by decide) (by decide), e81, frI k2 (by decide) (by decide), frI k1 (nmF (by decide +kernel)) (by decide)]; exact q2
      · rw [e51, frI k2 (p := 24) (by decide) (by decide), w19, ti_eq, m6, x6]; rfl
    · obtain ⟨me, ex, e81⟩ := MM k1 (by decide +kernel) (by decide +kernel) (by decide +kernel)
      refine KK _ h1 (fun Q2 J => ?_)
      change jex X (1 + 9) _ _ _ _
      refine c_mrun me pz n4 (by rw [ex]; exact bx) hn (by rw [ex]) (fun z => absurd z r0) (fun _ h2 k2 hm2 t54 t55 => ?_)
      generalize gof (fI h 6 0).toInt (fI h 6 1).toInt (slf r (m r) b f t fl) u N K nn 0 0 (x0s h) (fun _ => false) (fun _ _ => 0) (fun _ => 0) = R at *
      obtain ⟨a4, a5, a6, a7⟩ := hm1
      obtain ⟨c4, c5, c6, c7⟩ := hm2
      have I6 : ∀ c, c < 4 → fI h2 6 c = fI h 6 c ∧ fV h2 6 c = fV h 6 c := fun c hc => by
        have q : c = 0 ∨ c = 1 ∨ c = 2 ∨ c = 3 := by omega
        rcases q with q | q | q | q <;> subst q
        all_goals exact ⟨by rw [frI k2 (by decide) (by decide), frI k1 (nmF (by decide +kernel)) (by decide)], by rw [frV k2 (by decide) (by decide), frV k1 (nmF (by decide +kernel)) (by decide)]⟩
      have f4 : fI h2 6 4 = fI h 6 4 := by rw [frI k2 (by decide) (by decide)]; exact a4
      have f5 : fI h2 6 5 = fI h 6 5 := by rw [frI k2 (by decide) (by decide)]; exact a5
      have f6 : fI h2 6 6 = fI h 6 6 := by rw [frI k2 (by decide) (by decide)]; exact a6
      have f7 : fI h2 6 7 = fI h 6 7 := by rw [frI k2 (by decide) (by decide)]; exact a7
      have F107 : aF h2 107 = aF h 107 := by rw [frF k2 (by decide), frF k1 (by decide)]
      have F108 : aF h2 108 = aF h 108 := by rw [frF k2 (by decide), frF k1 (by decide)]
      refine J h2 ⟨fr_trans (fr_mono (by decide) RUF_0 k1) (fr_mono (by decide) (fun y hy => RUF_m y (Or.inr hy)) k2), ?_, ⟨qk, hqk, ?_, ?_, fun i hi => ?_⟩, ?_, ?_, ?_⟩
      · unfold HD
        rw [f4, f5, f6, f7, c4, c5, c6, c7, e81, e81, e81, e81, (I6 3 (by decide)).1, (I6 2 (by decide)).2, frI k2 (p := 81) (k := 13) (by decide) (by decide), e81]
        exact hd'
      · rw [frV k2 (by decide) (by decide), frV k1 (nmF (by decide +kernel)) (by decide)]; exact v3
      · rw [frV k2 (by decide) (by decide), frV k1 (nmF (by decide +kernel)) (by decide), eqq]; exact v4
      · have kr := kvo_r (q := qk) hi
        have nk : ∀ c, (kvo qk i, c) ∉ mF0 := fun c => mid_n (by decide) kr.1 kr.2
        have KP : ∀ w, w < 7 → fI h2 (kvo qk i) w = fI h (kvo qk i) w := fun w hw => by
          rw [frI k2 (nk w) (by omega)]
          have := kp1 i hi w hw
          rw [eq] at this
          exact this
        obtain ⟨g1, g2, g3⟩ := vv i hi
        rw [F107, F108, KP 0 (by decide)]
        refine ⟨g1, g2, fun w1 w hw => ?_⟩
        rw [KP (w + 1) (by omega)]
        exact g3 w1 w hw
      · rw [frI k2 (p := 24) (by decide) (by decide), ti_eq, t54, w17]
      · rw [frI k2 (p := 24) (by decide) (by decide), t55, w18]
      · rw [frI k2 (by decide) (by decide), e81, frI k2 (by decide) (by decide), frI k1 (nmF (by decide +kernel)) (by decide)]; exact q3
end ARU
