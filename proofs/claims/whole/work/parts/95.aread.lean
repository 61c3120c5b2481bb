/-! READING: class and model alike -/
/-- the class's program, as a run and a count need it -/
def CWA (h : JH) (t : Nat → Int) (N k : Nat) : Prop := fI h 10 4 = nI k ∧ NRA h t N (nms t N k) ∧ ARA h t N k
def CWB (h : JH) (t : Nat → Int) (N k : Nat) : Prop := fI h 17 4 = nI k ∧ NRB h t N (nms t N k) ∧ ARB h t N k
theorem CW_ofA {h : JH} {t : Nat → Int} {N k : Nat} (x : CPA h t N k) : CWA h t N k := ⟨x.1, x.2.1, x.2.2.2.2⟩
theorem CW_ofB {h : JH} {t : Nat → Int} {N k : Nat} (x : CPB h t N k) : CWB h t N k := ⟨x.1, x.2.1, x.2.2.2.2⟩
theorem CW_frA {A : List Nat} {F : List (Nat × Nat)} {h h1 : JH} {t : Nat → Int} {N k : Nat} (x : CWA h t N k) (a : fr A F h h1) (k1 : offF PFA F = true) (k2 : offA PAA A = true) : CWA h1 t N k := by
  have e := offV (fw_fr a) k1
  have e2 := offR (fw_fr a) k2
  unfold CWA NRA ARA fI at *
  rw [e (10, 4) (by decide), e (10, 6) (by decide), (e2 11 (by decide)).1, (e2 12 (by decide)).1, (e2 13 (by decide)).1, (e2 14 (by decide)).1, (e2 15 (by decide)).2.1]
  exact x
theorem CW_frB {A : List Nat} {F : List (Nat × Nat)} {h h1 : JH} {t : Nat → Int} {N k : Nat} (x : CWB h t N k) (a : fr A F h h1) (k1 : offF PFB F = true) (k2 : offA PAB A = true) : CWB h1 t N k := by
  have e := offV (fw_fr a) k1
  have e2 := offR (fw_fr a) k2
  unfold CWB NRB ARB fI at *
  rw [e (17, 4) (by decide), e (17, 6) (by decide), (e2 18 (by decide)).1, (e2 19 (by decide)).1, (e2 20 (by decide)).1, (e2 21 (by decide)).1, (e2 22 (by decide)).2.1]
  exact x
/-- the program in place, the class's and the model's -/
def PR (h : JH) : Prop := ∃ (t : Nat → Int) (N K : Nat), N ≤ 2000 ∧ Spt t N K ∧ fin t N K ∧ (sft t N K).1 = 0 ∧ PM0 h t N K ∧ ((fV h 0 5 = .ref 10 ∧ fV h 0 6 = .ref 17 ∧ CWA h t N K) ∨ (fV h 0 5 = .ref 17 ∧ fV h 0 6 = .ref 10 ∧ CWB h t N K))
/-- the values kept -/
def VA (h : JH) : Prop := ∃ q, (q = 25 ∨ q = 26) ∧ fV h 24 3 = .ref q ∧ fV h 24 4 = .ref (51 - q) ∧ ∀ i, i < 12 → (aF h 107 i = 0 ∨ aF h 107 i = 1) ∧ fI h (kvo q i) 0 = aF h 107 i ∧ (aF h 107 i = 1 → ∀ w, w < 6 → fI h (kvo q i) (w + 1) = aF h 108 (6 * i + w))
def vAll : List (Nat × Nat) := (List.range 24).flatMap (fun i => (List.range 7).map (fun j => (27 + i, j)))
theorem vAll_m {q i w : Nat} (hi : i < 12) (hw : w < 7) : (kvo q i, w) ∈ vAll := by
  unfold vAll kvo
  refine List.mem_flatMap.mpr ?_
  by_cases c : q = 25
  · rw [if_pos c]; exact ⟨2 * i, List.mem_range.mpr (by omega), List.mem_map.mpr ⟨w, List.mem_range.mpr hw, rfl⟩⟩
  · rw [if_neg c]
    refine ⟨2 * i + 1, List.mem_range.mpr (by omega), List.mem_map.mpr ⟨w, List.mem_range.mpr hw, ?_⟩⟩
    rw [show 27 + (2 * i + 1) = 28 + 2 * i by omega]
def PRA : List Nat := PAA ++ PAB ++ [90, 91, 92, 93, 94, 95, 96, 97, 98, 99, 100, 101, 102]
def PRF : List (Nat × Nat) := (0, 5) :: (0, 6) :: PFA ++ PFB
def RDA : List Nat := PAA ++ PAB ++ MRA
def RDF : List (Nat × Nat) := PFA ++ PFB ++ TF ++ [(7, 1), (0, 5), (0, 6), (0, 7)] ++ vF ++ MRF
section PRG
variable {A : List Nat} {F : List (Nat × Nat)} {h h1 : JH} {t : Nat → Int} {N K : Nat}
theorem PM0_low (x : PM0 h t N K) (st : Spt t N K) (lw : LOW h h1) : PM0 h1 t N K := by
  have K4 := Spt_400 st
  obtain ⟨x1, x2, x3, x4, x5⟩ := x
  obtain ⟨l1, l2, l3, l4, l5⟩ := lw
  refine ⟨l1.trans x1, fun i hi si => ?_, l3.trans x3, fun i hi ai => ?_, l5.trans x5⟩
  · have nl := ns_le (t := t) (N := N) i
    have m := x2 i hi si
    obtain ⟨a1, a2, a3, a4, a5⟩ := l2 (ns t N i) (by omega)
    unfold MS0 at m ⊢
    rw [a1, a2, a3, a4, a5]
    exact m
  · have nl := (na_le i (OKt_m st.1 (by omega))).1
    have m := x4 i hi ai
    obtain ⟨a1, a2, a3, a4, a5⟩ := l4 (na t N i) (by omega)
    unfold MA0 at m ⊢
    rw [a1, a2, a3, a4, a5]
    exact m
theorem PR_fw (x : PR h) (a : fw A F h h1) (k : offF PRF F = true) (k2 : offA PRA A = true) : PR h1 := by
  have e := offV a k
  have e2 := offR a k2
  obtain ⟨t, N, K, x1, x2, x3, x4, x5, x6⟩ := x
  refine ⟨t, N, K, x1, x2, x3, x4, PM0_low x5 x2 ?_, ?_⟩
  · unfold LOW
    rw [(e2 90 (by decide)).1, (e2 91 (by decide)).1, (e2 92 (by decide)).1, (e2 93 (by decide)).1, (e2 94 (by decide)).1, (e2 95 (by decide)).1, (e2 96 (by decide)).1, (e2 97 (by decide)).1, (e2 98 (by decide)).1, (e2 99 (by decide)).1, (e2 100 (by decide)).1, (e2 101 (by decide)).1, (e2 102 (by decide)).1]
    exact LOW_rfl
  · rcases x6 with ⟨y1, y2, y3⟩ | ⟨y1, y2, y3⟩
    · refine Or.inl ⟨(e (0, 5) (by decide)).trans y1, (e (0, 6) (by decide)).trans y2, ?_⟩
      unfold CWA NRA ARA fI at *
      rw [e (10, 4) (by decide), e (10, 6) (by decide), (e2 11 (by decide)).1, (e2 12 (by decide)).1, (e2 13 (by decide)).1, (e2 14 (by decide)).1, (e2 15 (by decide)).2.1]
      exact y3
    · refine Or.inr ⟨(e (0, 5) (by decide)).trans y1, (e (0, 6) (by decide)).trans y2, ?_⟩
      unfold CWB NRB ARB fI at *
      rw [e (17, 4) (by decide), e (17, 6) (by decide), (e2 18 (by decide)).1, (e2 19 (by decide)).1, (e2 20 (by decide)).1, (e2 21 (by decide)).1, (e2 22 (by decide)).2.1]
      exact y3
theorem VA_fw (x : VA h) (a : fw A F h h1) (k : offF ((24, 3) :: (24, 4) :: vAll) F = true) (k2 : offA [107, 108] A = true) : VA h1 := by
  have e := offV a k
  have e2 := offR a k2
  obtain ⟨q, x1, x2, x3, x4⟩ := x
  refine ⟨q, x1, ?_, ?_, fun i hi => ?_⟩
  · exact (e (24, 3) List.mem_cons_self).trans x2
  · exact (e (24, 4) (List.mem_cons_of_mem _ List.mem_cons_self)).trans x3
  · rw [(e2 107 (by decide)).1, (e2 108 (by decide)).1]
    have v : ∀ w, w < 7 → fI h1 (kvo q i) w = fI h (kvo q i) w := fun w hw => by
      unfold fI
      rw [e (kvo q i, w) (List.mem_cons_of_mem _ (List.mem_cons_of_mem _ (vAll_m hi hw)))]
    obtain ⟨y1, y2, y3⟩ := x4 i hi
    refine ⟨y1, (v 0 (by decide)).trans y2, fun w1 w hw => (v (w + 1) (by omega)).trans (y3 w1 w hw)⟩
theorem TP_TB (tp : TP h) : TB h (fI h 7 1).toInt.toNat ∧ TM h (bt h) (fI h 7 1).toInt.toNat := by
  obtain ⟨x1, x2, x3, x4⟩ := tp
  have e : fI h 7 1 = nI (fI h 7 1).toInt.toNat := by rw [ti_eq, nI_toInt (by omega)]; omega
  refine ⟨⟨e, by omega, fun i hi => ?_⟩, ⟨x1.trans e, by omega, fun i hi => ?_⟩⟩
  · have := x4 i (by omega); exact ⟨this.1, this.2.1⟩
  · exact x4 i (by omega)
end PRG
section ARDA
variable {X : JX} {h : JH}
theorem a_readA (g : G h) (tp : TP h) (va : VA h) {t0 : Nat → Int} {N0 K0 : Nat} (n0 : N0 ≤ 2000) (s0 : Spt t0 N0 K0) (f0 : fin t0 N0 K0) (z0 : (sft t0 N0 K0).1 = 0) (m0 : PM0 h t0 N0 K0) (p5 : fV h 0 5 = .ref 17) (p6 : fV h 0 6 = .ref 10) (cp0 : CWB h t0 N0 K0) : AGR X 36 68 [] h (fun h2 => fr RDA RDF h h2 ∧ PR h2 ∧ VA h2 ∧ TP h2 ∧ fI h2 81 3 = fI h2 0 7) := by
  intro Q KK
  obtain ⟨tb, tm⟩ := TP_TB tp
  generalize (fI h 7 1).toInt.toNat = N at *
  obtain ⟨K, st⟩ := Spt_ex (t := bt h) (N := N)
  have rr := rsl_r st
  obtain ⟨q, q1, q2, q3, q4⟩ := id va
  change jex X (3 + 7) _ _ _ _
  refine c_readA g tb st p6 p5 q1 q2 (fun h1 y k1 ey f7 f1 good bad => ?_)
  refine KK y h1 (fun Q2 J => ?_)
  have g1 := G_fr g (by decide) k1
  have tm1 : TM h1 (bt h) N := TM_fr tm k1 (by decide) (by decide)
  change jex X (1 + 9) _ _ _ _
  refine c_mread g1 tm1 st (fun h2 y2 k2 ey2 m3 m1 bad2 good2 => ?_)
  rw [ey2, ← ey]
  have k12 : fr RDA RDF h h2 := fr_trans (fr_mono (by decide) (by decide) k1) (fr_mono (by decide) (by decide) k2)
  have c3 : fV h2 24 3 = .ref q := by rw [frV k12 (by decide) (by decide)]; exact q2
  have c4 : fV h2 24 4 = .ref (51 - q) := by rw [frV k12 (by decide) (by decide)]; exact q3
  have e7 : fI h2 0 7 = fI h1 0 7 := frI k2 (by decide) (by decide)
  have e71 : fI h2 7 1 = 0 := by rw [frI k2 (by decide) (by decide)]; exact f1
  have e5 : fV h2 0 5 = fV h1 0 5 := frV k2 (by decide) (by decide)
  have e6 : fV h2 0 6 = fV h1 0 6 := frV k2 (by decide) (by decide)
  have tp2 : TP h2 := by
    unfold TP
    rw [e71, m1]
    exact ⟨rfl, by decide, by decide, fun i hi => absurd hi (by show ¬ ((i : Int) < 0); omega)⟩
  refine J h2 ⟨k12, ?_, ?_, tp2, ?_⟩
  · by_cases c : (rsl (bt h) N K).1 = 0
    · obtain ⟨ff, cp, w5, w6, _⟩ := good c
      obtain ⟨pm, _⟩ := good2 c
      have er : rsl (bt h) N K = sft (bt h) N K := if_pos ff
      have cp2 := CW_ofA (CP_frA cp k2 (by decide) (by decide))
      refine ⟨bt h, N, K, tb.2.1, st, ff, by rw [← er]; exact c, pm, ?_⟩
      rw [e5, e6, w5, w6]
      exact Or.inl ⟨rfl, rfl, cp2⟩
    · obtain ⟨w5, w6, _⟩ := bad c
      obtain ⟨lw, _⟩ := bad2 c
      have lw1 : LOW h h1 := LOW_fr k1 (by decide)
      have cp2 := CW_frB (CW_frB cp0 k1 (by decide) (by decide)) k2 (by decide) (by decide)
      refine ⟨t0, N0, K0, n0, s0, f0, z0, PM0_low m0 s0 (LOW_trans lw1 lw), ?_⟩
      rw [e5, e6, w5, w6]
      exact Or.inr ⟨rfl, rfl, cp2⟩
  · refine ⟨q, q1, c3, c4, fun i hi => ?_⟩
    have ok : 27 ≤ kvo q i ∧ kvo q i < 51 := by unfold kvo; split <;> omega
    have km : ∀ w, fI h2 (kvo q i) w = fI h1 (kvo q i) w := fun w => by
      refine frI k2 ?_ (fun c => by omega)
      intro c
      have : kvo q i = 81 := by
        have D : ∀ x ∈ MRF, x.1 = 81 := by decide
        exact D _ c
      omega
    by_cases c : (rsl (bt h) N K).1 = 0
    · obtain ⟨_, _, _, _, un⟩ := good c
      obtain ⟨_, hv⟩ := good2 c
      rw [hv i hi, km, un i hi]
      exact ⟨Or.inl rfl, rfl, fun w => absurd w (by decide)⟩
    · obtain ⟨_, _, un⟩ := bad c
      obtain ⟨_, hv⟩ := bad2 c
      have e107 : aF h2 107 = aF h 107 := hv.trans (frF k1 (by decide))
      have e108 : aF h2 108 = aF h 108 := (frF k2 (by decide)).trans (frF k1 (by decide))
      obtain ⟨y1, y2, y3⟩ := q4 i hi
      rw [e107, e108, km]
      refine ⟨y1, ?_, fun w1 w hw => ?_⟩
      · unfold fI at y2 ⊢
        rw [un _ ok.1 ok.2]
        exact y2
      · rw [km, frI k1 ?_ (fun c => by omega)]
        · exact y3 w1 w hw
        · intro cc
          have D : ∀ x ∈ RFA, x.1 < 27 ∨ x.2 = 0 := by decide
          have := D _ cc
          dsimp only at this
          omega
  · rw [m3, e7, f7]
end ARDA
section ARDB
variable {X : JX} {h : JH}
theorem a_readB (g : G h) (tp : TP h) (va : VA h) {t0 : Nat → Int} {N0 K0 : Nat} (n0 : N0 ≤ 2000) (s0 : Spt t0 N0 K0) (f0 : fin t0 N0 K0) (z0 : (sft t0 N0 K0).1 = 0) (m0 : PM0 h t0 N0 K0) (p5 : fV h 0 5 = .ref 10) (p6 : fV h 0 6 = .ref 17) (cp0 : CWA h t0 N0 K0) : AGR X 36 68 [] h (fun h2 => fr RDA RDF h h2 ∧ PR h2 ∧ VA h2 ∧ TP h2 ∧ fI h2 81 3 = fI h2 0 7) := by
  intro Q KK
  obtain ⟨tb, tm⟩ := TP_TB tp
  generalize (fI h 7 1).toInt.toNat = N at *
  obtain ⟨K, st⟩ := Spt_ex (t := bt h) (N := N)
  have rr := rsl_r st
  obtain ⟨q, q1, q2, q3, q4⟩ := id va
  change jex X (3 + 7) _ _ _ _
  refine c_readB g tb st p6 p5 q1 q2 (fun h1 y k1 ey f7 f1 good bad => ?_)
  refine KK y h1 (fun Q2 J => ?_)
  have g1 := G_fr g (by decide) k1
  have tm1 : TM h1 (bt h) N := TM_fr tm k1 (by decide) (by decide)
  change jex X (1 + 9) _ _ _ _
  refine c_mread g1 tm1 st (fun h2 y2 k2 ey2 m3 m1 bad2 good2 => ?_)
  rw [ey2, ← ey]
  have k12 : fr RDA RDF h h2 := fr_trans (fr_mono (by decide) (by decide) k1) (fr_mono (by decide) (by decide) k2)
  have c3 : fV h2 24 3 = .ref q := by rw [frV k12 (by decide) (by decide)]; exact q2
  have c4 : fV h2 24 4 = .ref (51 - q) := by rw [frV k12 (by decide) (by decide)]; exact q3
  have e7 : fI h2 0 7 = fI h1 0 7 := frI k2 (by decide) (by decide)
  have e71 : fI h2 7 1 = 0 := by rw [frI k2 (by decide) (by decide)]; exact f1
  have e5 : fV h2 0 5 = fV h1 0 5 := frV k2 (by decide) (by decide)
  have e6 : fV h2 0 6 = fV h1 0 6 := frV k2 (by decide) (by decide)
  have tp2 : TP h2 := by
    unfold TP
    rw [e71, m1]
    exact ⟨rfl, by decide, by decide, fun i hi => absurd hi (by show ¬ ((i : Int) < 0); omega)⟩
  refine J h2 ⟨k12, ?_, ?_, tp2, ?_⟩
  · by_cases c : (rsl (bt h) N K).1 = 0
    · obtain ⟨ff, cp, w5, w6, _⟩ := good c
      obtain ⟨pm, _⟩ := good2 c
      have er : rsl (bt h) N K = sft (bt h) N K := if_pos ff
      have cp2 := CW_ofB (CP_frB cp k2 (by decide) (by decide))
      refine ⟨bt h, N, K, tb.2.1, st, ff, by rw [← er]; exact c, pm, ?_⟩
      rw [e5, e6, w5, w6]
      exact Or.inr ⟨rfl, rfl, cp2⟩
    · obtain ⟨w5, w6, _⟩ := bad c
      obtain ⟨lw, _⟩ := bad2 c
      have lw1 : LOW h h1 := LOW_fr k1 (by decide)
      have cp2 := CW_frA (CW_frA cp0 k1 (by decide) (by decide)) k2 (by decide) (by decide)
      refine ⟨t0, N0, K0, n0, s0, f0, z0, PM0_low m0 s0 (LOW_trans lw1 lw), ?_⟩
      rw [e5, e6, w5, w6]
      exact Or.inl ⟨rfl, rfl, cp2⟩
  · refine ⟨q, q1, c3, c4, fun i hi => ?_⟩
    have ok : 27 ≤ kvo q i ∧ kvo q i < 51 := by unfold kvo; split <;> omega
    have km : ∀ w, fI h2 (kvo q i) w = fI h1 (kvo q i) w := fun w => by
      refine frI k2 ?_ (fun c => by omega)
      intro c
      have : kvo q i = 81 := by
        have D : ∀ x ∈ MRF, x.1 = 81 := by decide
        exact D _ c
      omega
    by_cases c : (rsl (bt h) N K).1 = 0
    · obtain ⟨_, _, _, _, un⟩ := good c
      obtain ⟨_, hv⟩ := good2 c
      rw [hv i hi, km, un i hi]
      exact ⟨Or.inl rfl, rfl, fun w => absurd w (by decide)⟩
    · obtain ⟨_, _, un⟩ := bad c
      obtain ⟨_, hv⟩ := bad2 c
      have e107 : aF h2 107 = aF h 107 := hv.trans (frF k1 (by decide))
      have e108 : aF h2 108 = aF h 108 := (frF k2 (by decide)).trans (frF k1 (by decide))
      obtain ⟨y1, y2, y3⟩ := q4 i hi
      rw [e107, e108, km]
      refine ⟨y1, ?_, fun w1 w hw => ?_⟩
      · unfold fI at y2 ⊢
        rw [un _ ok.1 ok.2]
        exact y2
      · rw [km, frI k1 ?_ (fun c => by omega)]
        · exact y3 w1 w hw
        · intro cc
          have D : ∀ x ∈ RFB, x.1 < 27 ∨ x.2 = 0 := by decide
          have := D _ cc
          dsimp only at this
          omega
  · rw [m3, e7, f7]
end ARDB
theorem a_read {X : JX} {h : JH} (g : G h) (tp : TP h) (pr : PR h) (va : VA h) : AGR X 36 68 [] h (fun h2 => fr RDA RDF h h2 ∧ PR h2 ∧ VA h2 ∧ TP h2 ∧ fI h2 81 3 = fI h2 0 7) := by
  obtain ⟨t, N, K, x1, x2, x3, x4, x5, x6⟩ := pr
  rcases x6 with ⟨y1, y2, y3⟩ | ⟨y1, y2, y3⟩
  · exact a_readB g tp va x1 x2 x3 x4 x5 y1 y2 y3
  · exact a_readA g tp va x1 x2 x3 x4 x5 y1 y2 y3
