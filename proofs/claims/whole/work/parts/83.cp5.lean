section CURA
variable {X : JX} {d : Nat} {Q : JQ} {h : JH} {N K : Nat}
/-- the class's reading, whole -/
theorem c_readFromA (g : G h) (tb : TB h N) (st : Spt (bt h) N K) (H : ∀ h1, fr PAA (PFA ++ TF) h h1 → fI h1 10 10 = nI (rsl (bt h) N K).1 → fI h1 10 11 = zI (rsl (bt h) N K).2 → ((rsl (bt h) N K).1 = 0 → fin (bt h) N K ∧ CPA h1 (bt h) N K) → Q none h1) : jex X (d + 6) 37 [.ref 10, .ref 7] h Q := by
  have K4 := Spt_400 st
  have hN := tb.2.1
  -- nextKind
  have NX : ∀ (h1 : JH) (a : Nat) (R : JQ), fr PAA (PFA ++ TF) h h1 → fI h1 7 3 = nI a → a ≤ N → (∀ h2, fr [] TF h1 h2 → TC h2 (bt h) N (tkb (bt h) N a) → R (some (.int (nI (tkK (bt h) N (tkb (bt h) N a))))) h2) → jex X (d + 5) 39 [.ref 7] h1 R := by
    intro h1 a R k1 e3 ha HR
    have g1 := G_fr g rfl k1
    obtain ⟨tb1, eb⟩ := TB_fr tb k1 (by decide) (by decide)
    change jex X (d + 1 + 4) 39 _ _ _
    refine c_nextKind g1 tb1 e3 ha ?_
    rw [eb]
    exact HR
  generalize bt h = t at *
  have sN := fun k => tS_le (t := t) (N := N) k
  have zN := fun k => (tkZ_r (t := t) (sN k)).2
  -- a fault was noted
  have BAD : ∀ (h1 : JH) (o2 o3 : Option Value) (c s : Nat), fr PAA (PFA ++ TF) h h1 → ¬ fin t N K → fI h1 10 10 = nI (hft t N K) → fI h1 10 11 = nI (tS t N K) → jB_X5_readFrom_77 X (d + 5) Q 10 (.ref 7) o2 o3 h1 c s := by
    intro h1 o2 o3 c s k1 nf f11 f12
    have g1 := G_fr g rfl k1
    have hne : hft t N K ≠ 0 := by
      rcases st.2 with q | q
      · exact absurd q nf
      · exact q
    have hl : hft t N K ≤ 2 := by
      unfold hft
      split
      · omega
      · split <;> omega
    have er : rsl t N K = (hft t N K, (tS t N K : Int)) := if_neg nf
    have FIN : Q none h1 := by
      refine H h1 k1 ?_ ?_ ?_
      · rw [er]; exact f11
      · rw [er, f12]; rfl
      · rw [er]; exact fun q => absurd q hne
    have n0 : ¬ fI h1 10 10 = 0 := by rw [f11]; exact nI_ne0 (by omega) (by omega)
    have NT : ∀ x : Int32, jrc h1 (.ref 10) 5 (jex X (d + 5) 56 [.ref 10, .int 1, .int x] h1 fun r14 h13 => (jrN r14 (jgI h13 (.ref 10) 5 10 fun x15 => (jifp (x15 = 0) (jrc h13 (.ref 10) 5 (jex X (d + 5) 61 [.ref 10] h13 fun r17 h16 => (jrN r17 (Q none h16)))) (Q none h13))))) := by
      intro x
      rw [jrc_ob (by simp only [gO g1])]
      change jex X (d + 4 + 1) 56 _ _ _
      refine c_noteA g1 (fun q => absurd q n0) (fun _ => ?_)
      try dsimp only [jrI, jrN, jrA, jisr, jnul, jcat1]
      rw [jgI_ob (c := 5) (by simp only [gO g1]) rfl]
      exact jif_n n0 FIN
    refine jT_X5_readFrom_77 ?_
    dsimp only [jisr]
    rw [jgI_ob (c := 5) (by simp only [gO g1]) rfl]
    refine ⟨fun _ => ?_, fun _ => ?_⟩
    · rw [jgI_ob (c := 5) (by simp only [gO g1]) rfl]
      refine ⟨fun _ => ?_, fun _ => ?_⟩
      · rw [jgI_ob (c := 9) (by simp only [gO g1]) rfl]
        exact NT _
      · rw [jgI_ob (c := 5) (by simp only [gO g1]) rfl]
        exact jif_n n0 FIN
    · rw [jgI_ob (c := 9) (by simp only [gO g1]) rfl]
      exact NT _
  -- the text's end
  have END : ∀ (h1 : JH) (o2 o3 : Option Value) (c s : Nat), fr PAA (PFA ++ TF) h h1 → tK t N K = 1 → CPA h1 t N K → fI h1 10 10 = 0 → fI h1 10 11 = -1 → jB_X5_readFrom_77 X (d + 5) Q 10 (.ref 7) o2 o3 h1 c s := by
    intro h1 o2 o3 c s k1 eK cp f11 f12
    have g1 := G_fr g rfl k1
    have ok : OKt t N K := st.1
    have x1 := xe_1 ok
    have l6 := xo_len K ok
    obtain ⟨c4, cn, c7, co, ca⟩ := id cp
    have NT : ¬ fin t N K → jgI h1 (.ref 7) 9 1 (fun x12 => (jrc h1 (.ref 10) 5 (jex X (d + 5) 56 [.ref 10, .int 1, .int x12] h1 fun r14 h13 => (jrN r14 (jgI h13 (.ref 10) 5 10 fun x15 => (jifp (x15 = 0) (jrc h13 (.ref 10) 5 (jex X (d + 5) 61 [.ref 10] h13 fun r17 h16 => (jrN r17 (Q none h16)))) (Q none h13))))))) := by
      intro nf
      have er : rsl t N K = (hft t N K, (tS t N K : Int)) := if_neg nf
      have eh := hft_end eK
      have eN := tK_end eK
      have s7 : fI h1 7 1 = nI N := by rw [frI k1 (by decide) (by decide)]; exact tb.1
      rw [jgI_ob (c := 9) (by simp only [gO g1]) rfl, s7, jrc_ob (by simp only [gO g1])]
      change jex X (d + 4 + 1) 56 _ _ _
      refine c_noteA g1 (fun _ => ?_) (fun q => absurd f11 q)
      try dsimp only [jrI, jrN, jrA, jisr, jnul, jcat1]
      simp (decide := true) only [jgI_ob, jgf_ob, jgL_ob, jpI_ob, jpL_ob, jpR_ob, jpN_ob, jrc_ob, obj_sV, obj_wF, obj_wG, obj_wR, arr_sV, arr_wF, arr_wG, arr_wR, arL_sV, arL_wF, arL_wG, arL_wR, arR_sV, arR_wF, arR_wG, arR_wR, fI_sV (c := 0), fI_sV (c := 1), fI_sV (c := 2), fI_sV (c := 4), fI_sV (c := 5), fI_sV (c := 7), fI_sV (c := 8), fI_sV (c := 9), fI_sV (c := 10), fI_sV (c := 11), fI_sV (c := 12), fI_sV (c := 6), fL_sV (c := 9), fL_sV (c := 12), fI_sV_k, fL_sV_k, fV_sV_k, fI_wF, fI_wG, fI_wR, fL_wF, fL_wG, fL_wR, fV_wF, fV_wG, fV_wR, aF_sV, aG_sV, aR_sV, aF_wG, aF_wR, aG_wF, aG_wR, aR_wF, aR_wG, gO g1, jif_F]
      refine H _ (fr_sV (by decide) (fr_sV (by decide) k1)) ?_ ?_ ?_
      · rw [er, eh]
        simp (decide := true) only [jgI_ob, jgf_ob, jgL_ob, jpI_ob, jpL_ob, jpR_ob, jpN_ob, jrc_ob, obj_sV, obj_wF, obj_wG, obj_wR, arr_sV, arr_wF, arr_wG, arr_wR, arL_sV, arL_wF, arL_wG, arL_wR, arR_sV, arR_wF, arR_wG, arR_wR, fI_sV (c := 0), fI_sV (c := 1), fI_sV (c := 2), fI_sV (c := 4), fI_sV (c := 5), fI_sV (c := 7), fI_sV (c := 8), fI_sV (c := 9), fI_sV (c := 10), fI_sV (c := 11), fI_sV (c := 12), fI_sV (c := 6), fL_sV (c := 9), fL_sV (c := 12), fI_sV_k, fL_sV_k, fV_sV_k, fI_wF, fI_wG, fI_wR, fL_wF, fL_wG, fL_wR, fV_wF, fV_wG, fV_wR, aF_sV, aG_sV, aR_sV, aF_wG, aF_wR, aG_wF, aG_wR, aR_wF, aR_wG, gO g1]
      · rw [er, eN]
        simp (decide := true) only [jgI_ob, jgf_ob, jgL_ob, jpI_ob, jpL_ob, jpR_ob, jpN_ob, jrc_ob, obj_sV, obj_wF, obj_wG, obj_wR, arr_sV, arr_wF, arr_wG, arr_wR, arL_sV, arL_wF, arL_wG, arL_wR, arR_sV, arR_wF, arR_wG, arR_wR, fI_sV (c := 0), fI_sV (c := 1), fI_sV (c := 2), fI_sV (c := 4), fI_sV (c := 5), fI_sV (c := 7), fI_sV (c := 8), fI_sV (c := 9), fI_sV (c := 10), fI_sV (c := 11), fI_sV (c := 12), fI_sV (c := 6), fL_sV (c := 9), fL_sV (c := 12), fI_sV_k, fL_sV_k, fV_sV_k, fI_wF, fI_wG, fI_wR, fL_wF, fL_wG, fL_wR, fV_wF, fV_wG, fV_wR, aF_sV, aG_sV, aR_sV, aF_wG, aF_wR, aG_wF, aG_wR, aR_wF, aR_wG, gO g1]
        rfl
      · rw [er, eh]
        exact fun q => absurd q (show ¬ (1 : Nat) = 0 by decide)
    refine jT_X5_readFrom_77 ?_
    dsimp only [jisr]
    rw [jgI_ob (c := 5) (by simp only [gO g1]) rfl, c7]
    refine ⟨fun q1 => ?_, fun q1 => NT (fun w => q1 (by rw [w.2.1]; rfl))⟩
    have q1 := (nI_eq (b := 1) (by omega) (by omega)).1 q1
    rw [jgI_ob (c := 5) (by simp only [gO g1]) rfl, co.1]
    refine ⟨fun q2 => NT (fun w => ?_), fun q2 => ?_⟩
    · rw [w.2.2] at q2
      exact absurd q2 (by decide)
    · have q2 : xo t N K = [] := by
        refine Classical.byContradiction (fun w => q2 ?_)
        exact nI_lt (a := 0) (List.length_pos_iff.mpr w) (by omega)
      have ff : fin t N K := ⟨eK, q1, q2⟩
      have er : rsl t N K = sft t N K := if_pos ff
      rw [jgI_ob (c := 5) (by simp only [gO g1]) rfl, f11]
      refine jif_t rfl ?_
      rw [jrc_ob (by simp only [gO g1])]
      change jex X (d + 1 + 4) 61 _ _ _
      refine c_checkAtomsA g1 cp ok K4 f11 f12 (fun h2 k2 w1 w2 => ?_)
      try dsimp only [jrI, jrN, jrA, jisr, jnul, jcat1]
      refine H h2 (fr_trans k1 (fr_mono (by decide) (by decide) k2)) (by rw [er]; exact w1) (by rw [er]; exact w2) (fun _ => ⟨ff, ?_⟩)
      -- the picture needs neither fault nor its place
      have e1 : ∀ q, q ≠ 10 → q ≠ 11 → fI h2 10 q = fI h1 10 q := fun q n1 n2 => by
        refine frI k2 ?_ (fun c => absurd c (by decide))
        intro c
        simp only [List.mem_cons, Prod.mk.injEq, List.not_mem_nil, or_false] at c
        omega
      unfold CPA NRA ORA ARA at cp ⊢
      rw [e1 4 (by decide) (by decide), e1 6 (by decide) (by decide), e1 7 (by decide) (by decide), e1 9 (by decide) (by decide), frF k2 (by decide), frF k2 (by decide), frF k2 (by decide), frF k2 (by decide), frF k2 (by decide), frG k2 (by decide)]
      exact cp
  have L : ∀ (r k : Nat) (h1 : JH) (c s : Nat), k + r = K → fr PAA (PFA ++ TF) h h1 → CPA h1 t N k → fI h1 10 10 = 0 → fI h1 10 11 = -1 → TC h1 t N (tS t N k) → jB_X5_readFrom_41 X (d + 5) Q 10 (.ref 7) (nI (tK t N k)) (nI k) h1 c s := by
    intro r
    induction r with
    | zero =>
      intro k h1 c s hk k1 cp f11 f12 tc
      have ek : k = K := by omega
      subst ek
      have g1 := G_fr g rfl k1
      have ok : OKt t N k := st.1
      have hq : tK t N k ≤ 20 := tkK_r _
      refine jT_X5_readFrom_41 (jif_t (nI_lt (b := 2000) (by omega) (by omega)) ?_)
      refine ⟨fun q => ?_, fun q => ?_⟩
      · have q := (nI_eq (b := 1) (by omega) (by omega)).1 q
        exact END h1 _ _ _ _ k1 q cp f11 f12
      · have n1 : tK t N k ≠ 1 := fun w => q (by rw [w]; rfl)
        have nf : ¬ fin t N k := fun w => n1 w.1
        rw [jgI_ob (c := 5) (by simp only [gO g1]) rfl, f11]
        refine jif_t rfl ?_
        dsimp only [jisr]
        rw [jrc_ob (by simp only [gO g1])]
        refine c_takeA g1 cp ok f11 tc (fun w => ?_) (fun w h2 k2 w11 w12 => ?_)
        · rcases st.2 with z | z
          · exact absurd z nf
          · exact absurd w z
        · try dsimp only [jrI, jrN, jrA, jisr, jnul, jcat1]
          have kk : fr PAA (PFA ++ TF) h h2 := fr_trans k1 (fr_mono (fun _ q => q) (fun p q => List.mem_append_left _ q) k2)
          have g2 := G_fr g rfl kk
          rw [jrc_ob (by simp only [gO g2])]
          have e3 : fI h2 7 3 = nI (tkZ t N (tS t N k)) := by rw [frI k2 (by decide) (by decide)]; exact tc.2.1
          refine NX h2 _ _ kk e3 (zN k) (fun h3 k3 tc3 => ?_)
          try dsimp only [jrI, jrN, jrA, jisr, jnul, jcat1]
          have k4 : fr PAA (PFA ++ TF) h h3 := fr_trans kk (fr_mono (fun p q => absurd q List.not_mem_nil) (fun p q => List.mem_append_right _ q) k3)
          have g3 := G_fr g rfl k4
          have z11 : fI h3 10 10 = nI (hft t N k) := by rw [frI k3 (by decide) (by decide)]; exact w11
          have z12 : fI h3 10 11 = nI (tS t N k) := by rw [frI k3 (by decide) (by decide)]; exact w12
          have hl : hft t N k ≤ 2 := by
            unfold hft
            split
            · omega
            · split <;> omega
          rw [nI_1]
          refine jT_X5_readFrom_41 (jif_t (nI_lt (b := 2000) (by omega) (by omega)) ?_)
          refine ⟨fun _ => BAD h3 _ _ _ _ k4 nf z11 z12, fun _ => ?_⟩
          rw [jgI_ob (c := 5) (by simp only [gO g3]) rfl, z11]
          exact jif_n (nI_ne0 (by omega) (by omega)) (BAD h3 _ _ _ _ k4 nf z11 z12)
    | succ r ih =>
      intro k h1 c s hk k1 cp f11 f12 tc
      have g1 := G_fr g rfl k1
      have o0 := st.1 k (by omega)
      have ok : OKt t N k := fun j hj => st.1 j (by omega)
      have hq : tK t N k ≤ 20 := tkK_r _
      have n1 : tK t N k ≠ 1 := fun w => by have := hft_end w; omega
      refine jT_X5_readFrom_41 (jif_t (nI_lt (b := 2000) (by omega) (by omega)) ?_)
      refine jif_n (fun q => n1 ((nI_eq (b := 1) (by omega) (by omega)).1 q)) ?_
      rw [jgI_ob (c := 5) (by simp only [gO g1]) rfl, f11]
      refine jif_t rfl ?_
      dsimp only [jisr]
      rw [jrc_ob (by simp only [gO g1])]
      refine c_takeA g1 cp ok f11 tc (fun _ h2 k2 w11 w12 cp2 => ?_) (fun w => absurd o0 w)
      try dsimp only [jrI, jrN, jrA, jisr, jnul, jcat1]
      have kk : fr PAA (PFA ++ TF) h h2 := fr_trans k1 (fr_mono (fun _ q => q) (fun p q => List.mem_append_left _ q) k2)
      have g2 := G_fr g rfl kk
      rw [jrc_ob (by simp only [gO g2])]
      have e3 : fI h2 7 3 = nI (tkZ t N (tS t N k)) := by rw [frI k2 (by decide) (by decide)]; exact tc.2.1
      refine NX h2 _ _ kk e3 (zN k) (fun h3 k3 tc3 => ?_)
      try dsimp only [jrI, jrN, jrA, jisr, jnul, jcat1]
      have k4 : fr PAA (PFA ++ TF) h h3 := fr_trans kk (fr_mono (fun p q => absurd q List.not_mem_nil) (fun p q => List.mem_append_right _ q) k3)
      rw [nI_1]
      refine ih (k + 1) h3 _ _ (by omega) k4 (CP_frA cp2 k3 rfl rfl) ?_ ?_ tc3
      · rw [frI k3 (by decide) (by decide)]; exact w11
      · rw [frI k3 (by decide) (by decide), w12]; exact f12
  rw [jE_X5_readFrom]
  refine jT_X5_readFrom_0 ?_
  simp (decide := true) only [jpI_ob (p := 10) (c := 5), obj_sV, gO g]
  refine (fun S : (∀ hh, hh = sV (sV (sV (sV (sV (sV h 10 4 (.int 0)) 10 6 (.int 0)) 10 7 (.int 1)) 10 9 (.int 0)) 10 10 (.int 0)) 10 11 (.int (-1)) → jisr (.ref 7) (jrc hh (.ref 7) 9 (jex X (d + 5) 38 [.ref 7] hh fun r9 h8 => (jrN r9 (jisr (.ref 7) (jrc h8 (.ref 7) 9 (jex X (d + 5) 39 [.ref 7] h8 fun r11 h10 => (jrI r11 fun x12 => (jB_X5_readFrom_41 X (d + 5) Q 10 (.ref 7) x12 0 h10 0 0))))))))) => S _ rfl) (fun hh ee => ?_)
  have k0 : fr PAA (PFA ++ TF) h hh := by
    rw [ee]
    exact fr_sV (by decide) (fr_sV (by decide) (fr_sV (by decide) (fr_sV (by decide) (fr_sV (by decide) (fr_sV (by decide) fr_rfl)))))
  have z4 : fI hh 10 4 = nI 0 := by rw [ee]; simp (decide := true) only [jgI_ob, jgf_ob, jgL_ob, jpI_ob, jpL_ob, jpR_ob, jpN_ob, jrc_ob, obj_sV, obj_wF, obj_wG, obj_wR, arr_sV, arr_wF, arr_wG, arr_wR, arL_sV, arL_wF, arL_wG, arL_wR, arR_sV, arR_wF, arR_wG, arR_wR, fI_sV (c := 0), fI_sV (c := 1), fI_sV (c := 2), fI_sV (c := 4), fI_sV (c := 5), fI_sV (c := 7), fI_sV (c := 8), fI_sV (c := 9), fI_sV (c := 10), fI_sV (c := 11), fI_sV (c := 12), fI_sV (c := 6), fL_sV (c := 9), fL_sV (c := 12), fI_sV_k, fL_sV_k, fV_sV_k, fI_wF, fI_wG, fI_wR, fL_wF, fL_wG, fL_wR, fV_wF, fV_wG, fV_wR, aF_sV, aG_sV, aR_sV, aF_wG, aF_wR, aG_wF, aG_wR, aR_wF, aR_wG, gO g]
  have z6 : fI hh 10 6 = nI 0 := by rw [ee]; simp (decide := true) only [jgI_ob, jgf_ob, jgL_ob, jpI_ob, jpL_ob, jpR_ob, jpN_ob, jrc_ob, obj_sV, obj_wF, obj_wG, obj_wR, arr_sV, arr_wF, arr_wG, arr_wR, arL_sV, arL_wF, arL_wG, arL_wR, arR_sV, arR_wF, arR_wG, arR_wR, fI_sV (c := 0), fI_sV (c := 1), fI_sV (c := 2), fI_sV (c := 4), fI_sV (c := 5), fI_sV (c := 7), fI_sV (c := 8), fI_sV (c := 9), fI_sV (c := 10), fI_sV (c := 11), fI_sV (c := 12), fI_sV (c := 6), fL_sV (c := 9), fL_sV (c := 12), fI_sV_k, fL_sV_k, fV_sV_k, fI_wF, fI_wG, fI_wR, fL_wF, fL_wG, fL_wR, fV_wF, fV_wG, fV_wR, aF_sV, aG_sV, aR_sV, aF_wG, aF_wR, aG_wF, aG_wR, aR_wF, aR_wG, gO g]
  have z7 : fI hh 10 7 = nI 1 := by rw [ee]; simp (decide := true) only [jgI_ob, jgf_ob, jgL_ob, jpI_ob, jpL_ob, jpR_ob, jpN_ob, jrc_ob, obj_sV, obj_wF, obj_wG, obj_wR, arr_sV, arr_wF, arr_wG, arr_wR, arL_sV, arL_wF, arL_wG, arL_wR, arR_sV, arR_wF, arR_wG, arR_wR, fI_sV (c := 0), fI_sV (c := 1), fI_sV (c := 2), fI_sV (c := 4), fI_sV (c := 5), fI_sV (c := 7), fI_sV (c := 8), fI_sV (c := 9), fI_sV (c := 10), fI_sV (c := 11), fI_sV (c := 12), fI_sV (c := 6), fL_sV (c := 9), fL_sV (c := 12), fI_sV_k, fL_sV_k, fV_sV_k, fI_wF, fI_wG, fI_wR, fL_wF, fL_wG, fL_wR, fV_wF, fV_wG, fV_wR, aF_sV, aG_sV, aR_sV, aF_wG, aF_wR, aG_wF, aG_wR, aR_wF, aR_wG, gO g]
  have z9 : fI hh 10 9 = nI 0 := by rw [ee]; simp (decide := true) only [jgI_ob, jgf_ob, jgL_ob, jpI_ob, jpL_ob, jpR_ob, jpN_ob, jrc_ob, obj_sV, obj_wF, obj_wG, obj_wR, arr_sV, arr_wF, arr_wG, arr_wR, arL_sV, arL_wF, arL_wG, arL_wR, arR_sV, arR_wF, arR_wG, arR_wR, fI_sV (c := 0), fI_sV (c := 1), fI_sV (c := 2), fI_sV (c := 4), fI_sV (c := 5), fI_sV (c := 7), fI_sV (c := 8), fI_sV (c := 9), fI_sV (c := 10), fI_sV (c := 11), fI_sV (c := 12), fI_sV (c := 6), fL_sV (c := 9), fL_sV (c := 12), fI_sV_k, fL_sV_k, fV_sV_k, fI_wF, fI_wG, fI_wR, fL_wF, fL_wG, fL_wR, fV_wF, fV_wG, fV_wR, aF_sV, aG_sV, aR_sV, aF_wG, aF_wR, aG_wF, aG_wR, aR_wF, aR_wG, gO g]
  have z11 : fI hh 10 10 = 0 := by rw [ee]; simp (decide := true) only [jgI_ob, jgf_ob, jgL_ob, jpI_ob, jpL_ob, jpR_ob, jpN_ob, jrc_ob, obj_sV, obj_wF, obj_wG, obj_wR, arr_sV, arr_wF, arr_wG, arr_wR, arL_sV, arL_wF, arL_wG, arL_wR, arR_sV, arR_wF, arR_wG, arR_wR, fI_sV (c := 0), fI_sV (c := 1), fI_sV (c := 2), fI_sV (c := 4), fI_sV (c := 5), fI_sV (c := 7), fI_sV (c := 8), fI_sV (c := 9), fI_sV (c := 10), fI_sV (c := 11), fI_sV (c := 12), fI_sV (c := 6), fL_sV (c := 9), fL_sV (c := 12), fI_sV_k, fL_sV_k, fV_sV_k, fI_wF, fI_wG, fI_wR, fL_wF, fL_wG, fL_wR, fV_wF, fV_wG, fV_wR, aF_sV, aG_sV, aR_sV, aF_wG, aF_wR, aG_wF, aG_wR, aR_wF, aR_wG, gO g]
  have z12 : fI hh 10 11 = -1 := by rw [ee]; simp (decide := true) only [jgI_ob, jgf_ob, jgL_ob, jpI_ob, jpL_ob, jpR_ob, jpN_ob, jrc_ob, obj_sV, obj_wF, obj_wG, obj_wR, arr_sV, arr_wF, arr_wG, arr_wR, arL_sV, arL_wF, arL_wG, arL_wR, arR_sV, arR_wF, arR_wG, arR_wR, fI_sV (c := 0), fI_sV (c := 1), fI_sV (c := 2), fI_sV (c := 4), fI_sV (c := 5), fI_sV (c := 7), fI_sV (c := 8), fI_sV (c := 9), fI_sV (c := 10), fI_sV (c := 11), fI_sV (c := 12), fI_sV (c := 6), fL_sV (c := 9), fL_sV (c := 12), fI_sV_k, fL_sV_k, fV_sV_k, fI_wF, fI_wG, fI_wR, fL_wF, fL_wG, fL_wR, fV_wF, fV_wG, fV_wR, aF_sV, aG_sV, aR_sV, aF_wG, aF_wR, aG_wF, aG_wR, aR_wF, aR_wG, gO g]
  clear ee
  have gh := G_fr g rfl k0
  dsimp only [jisr]
  rw [jrc_ob (by simp only [gO gh]), jE_X9_rewind]
  refine jT_X9_rewind_0 ?_
  rw [jpI_ob (c := 9) (by simp only [gO gh]) rfl]
  try dsimp only [jrI, jrN, jrA, jisr, jnul, jcat1]
  have kr : fr [] TF hh (sV hh 7 3 (.int 0)) := fr_sV (by decide) fr_rfl
  have y3 : fI (sV hh 7 3 (.int 0)) 7 3 = nI 0 := by simp (decide := true) only [jgI_ob, jgf_ob, jgL_ob, jpI_ob, jpL_ob, jpR_ob, jpN_ob, jrc_ob, obj_sV, obj_wF, obj_wG, obj_wR, arr_sV, arr_wF, arr_wG, arr_wR, arL_sV, arL_wF, arL_wG, arL_wR, arR_sV, arR_wF, arR_wG, arR_wR, fI_sV (c := 0), fI_sV (c := 1), fI_sV (c := 2), fI_sV (c := 4), fI_sV (c := 5), fI_sV (c := 7), fI_sV (c := 8), fI_sV (c := 9), fI_sV (c := 10), fI_sV (c := 11), fI_sV (c := 12), fI_sV (c := 6), fL_sV (c := 9), fL_sV (c := 12), fI_sV_k, fL_sV_k, fV_sV_k, fI_wF, fI_wG, fI_wR, fL_wF, fL_wG, fL_wR, fV_wF, fV_wG, fV_wR, aF_sV, aG_sV, aR_sV, aF_wG, aF_wR, aG_wF, aG_wR, aR_wF, aR_wG, gO gh]
  have k1 : fr PAA (PFA ++ TF) h (sV hh 7 3 (.int 0)) := fr_trans k0 (fr_mono (fun p q => absurd q List.not_mem_nil) (fun p q => List.mem_append_right _ q) kr)
  have cp0 : CPA hh t N 0 := ⟨z4, ⟨z6, fun j hj => absurd hj (Nat.not_lt_zero _)⟩, z7, ⟨z9, fun j hj => absurd hj (Nat.not_lt_zero _)⟩, fun i hi => absurd hi (Nat.not_lt_zero _)⟩
  generalize sV hh 7 3 (.int 0) = h1 at *
  have g1 := G_fr g rfl k1
  rw [jrc_ob (by simp only [gO g1])]
  refine NX h1 0 _ k1 y3 (Nat.zero_le _) (fun h2 k2 tc2 => ?_)
  try dsimp only [jrI, jrN, jrA, jisr, jnul, jcat1]
  have k3 : fr PAA (PFA ++ TF) h h2 := fr_trans k1 (fr_mono (fun p q => absurd q List.not_mem_nil) (fun p q => List.mem_append_right _ q) k2)
  refine L K 0 h2 0 0 (by omega) k3 (CP_frA (CP_frA cp0 kr rfl rfl) k2 rfl rfl) ?_ ?_ tc2
  · rw [frI k2 (by decide) (by decide), frI kr (by decide) (by decide)]; exact z11
  · rw [frI k2 (by decide) (by decide), frI kr (by decide) (by decide)]; exact z12
end CURA
section CURB
variable {X : JX} {d : Nat} {Q : JQ} {h : JH} {N K : Nat}
/-- the class's reading, whole -/
theorem c_readFromB (g : G h) (tb : TB h N) (st : Spt (bt h) N K) (H : ∀ h1, fr PAB (PFB ++ TF) h h1 → fI h1 17 10 = nI (rsl (bt h) N K).1 → fI h1 17 11 = zI (rsl (bt h) N K).2 → ((rsl (bt h) N K).1 = 0 → fin (bt h) N K ∧ CPB h1 (bt h) N K) → Q none h1) : jex X (d + 6) 37 [.ref 17, .ref 7] h Q := by
  have K4 := Spt_400 st
  have hN := tb.2.1
  -- nextKind
  have NX : ∀ (h1 : JH) (a : Nat) (R : JQ), fr PAB (PFB ++ TF) h h1 → fI h1 7 3 = nI a → a ≤ N → (∀ h2, fr [] TF h1 h2 → TC h2 (bt h) N (tkb (bt h) N a) → R (some (.int (nI (tkK (bt h) N (tkb (bt h) N a))))) h2) → jex X (d + 5) 39 [.ref 7] h1 R := by
    intro h1 a R k1 e3 ha HR
    have g1 := G_fr g rfl k1
    obtain ⟨tb1, eb⟩ := TB_fr tb k1 (by decide) (by decide)
    change jex X (d + 1 + 4) 39 _ _ _
    refine c_nextKind g1 tb1 e3 ha ?_
    rw [eb]
    exact HR
  generalize bt h = t at *
  have sN := fun k => tS_le (t := t) (N := N) k
  have zN := fun k => (tkZ_r (t := t) (sN k)).2
  -- a fault was noted
  have BAD : ∀ (h1 : JH) (o2 o3 : Option Value) (c s : Nat), fr PAB (PFB ++ TF) h h1 → ¬ fin t N K → fI h1 17 10 = nI (hft t N K) → fI h1 17 11 = nI (tS t N K) → jB_X5_readFrom_77 X (d + 5) Q 17 (.ref 7) o2 o3 h1 c s := by
    intro h1 o2 o3 c s k1 nf f11 f12
    have g1 := G_fr g rfl k1
    have hne : hft t N K ≠ 0 := by
      rcases st.2 with q | q
      · exact absurd q nf
      · exact q
    have hl : hft t N K ≤ 2 := by
      unfold hft
      split
      · omega
      · split <;> omega
    have er : rsl t N K = (hft t N K, (tS t N K : Int)) := if_neg nf
    have FIN : Q none h1 := by
      refine H h1 k1 ?_ ?_ ?_
      · rw [er]; exact f11
      · rw [er, f12]; rfl
      · rw [er]; exact fun q => absurd q hne
    have n0 : ¬ fI h1 17 10 = 0 := by rw [f11]; exact nI_ne0 (by omega) (by omega)
    have NT : ∀ x : Int32, jrc h1 (.ref 17) 5 (jex X (d + 5) 56 [.ref 17, .int 1, .int x] h1 fun r14 h13 => (jrN r14 (jgI h13 (.ref 17) 5 10 fun x15 => (jifp (x15 = 0) (jrc h13 (.ref 17) 5 (jex X (d + 5) 61 [.ref 17] h13 fun r17 h16 => (jrN r17 (Q none h16)))) (Q none h13))))) := by
      intro x
      rw [jrc_ob (by simp only [gO g1])]
      change jex X (d + 4 + 1) 56 _ _ _
      refine c_noteB g1 (fun q => absurd q n0) (fun _ => ?_)
      try dsimp only [jrI, jrN, jrA, jisr, jnul, jcat1]
      rw [jgI_ob (c := 5) (by simp only [gO g1]) rfl]
      exact jif_n n0 FIN
    refine jT_X5_readFrom_77 ?_
    dsimp only [jisr]
    rw [jgI_ob (c := 5) (by simp only [gO g1]) rfl]
    refine ⟨fun _ => ?_, fun _ => ?_⟩
    · rw [jgI_ob (c := 5) (by simp only [gO g1]) rfl]
      refine ⟨fun _ => ?_, fun _ => ?_⟩
      · rw [jgI_ob (c := 9) (by simp only [gO g1]) rfl]
        exact NT _
      · rw [jgI_ob (c := 5) (by simp only [gO g1]) rfl]
        exact jif_n n0 FIN
    · rw [jgI_ob (c := 9) (by simp only [gO g1]) rfl]
      exact NT _
  -- the text's end
  have END : ∀ (h1 : JH) (o2 o3 : Option Value) (c s : Nat), fr PAB (PFB ++ TF) h h1 → tK t N K = 1 → CPB h1 t N K → fI h1 17 10 = 0 → fI h1 17 11 = -1 → jB_X5_readFrom_77 X (d + 5) Q 17 (.ref 7) o2 o3 h1 c s := by
    intro h1 o2 o3 c s k1 eK cp f11 f12
    have g1 := G_fr g rfl k1
    have ok : OKt t N K := st.1
    have x1 := xe_1 ok
    have l6 := xo_len K ok
    obtain ⟨c4, cn, c7, co, ca⟩ := id cp
    have NT : ¬ fin t N K → jgI h1 (.ref 7) 9 1 (fun x12 => (jrc h1 (.ref 17) 5 (jex X (d + 5) 56 [.ref 17, .int 1, .int x12] h1 fun r14 h13 => (jrN r14 (jgI h13 (.ref 17) 5 10 fun x15 => (jifp (x15 = 0) (jrc h13 (.ref 17) 5 (jex X (d + 5) 61 [.ref 17] h13 fun r17 h16 => (jrN r17 (Q none h16)))) (Q none h13))))))) := by
      intro nf
      have er : rsl t N K = (hft t N K, (tS t N K : Int)) := if_neg nf
      have eh := hft_end eK
      have eN := tK_end eK
      have s7 : fI h1 7 1 = nI N := by rw [frI k1 (by decide) (by decide)]; exact tb.1
      rw [jgI_ob (c := 9) (by simp only [gO g1]) rfl, s7, jrc_ob (by simp only [gO g1])]
      change jex X (d + 4 + 1) 56 _ _ _
      refine c_noteB g1 (fun _ => ?_) (fun q => absurd f11 q)
      try dsimp only [jrI, jrN, jrA, jisr, jnul, jcat1]
      simp (decide := true) only [jgI_ob, jgf_ob, jgL_ob, jpI_ob, jpL_ob, jpR_ob, jpN_ob, jrc_ob, obj_sV, obj_wF, obj_wG, obj_wR, arr_sV, arr_wF, arr_wG, arr_wR, arL_sV, arL_wF, arL_wG, arL_wR, arR_sV, arR_wF, arR_wG, arR_wR, fI_sV (c := 0), fI_sV (c := 1), fI_sV (c := 2), fI_sV (c := 4), fI_sV (c := 5), fI_sV (c := 7), fI_sV (c := 8), fI_sV (c := 9), fI_sV (c := 10), fI_sV (c := 11), fI_sV (c := 12), fI_sV (c := 6), fL_sV (c := 9), fL_sV (c := 12), fI_sV_k, fL_sV_k, fV_sV_k, fI_wF, fI_wG, fI_wR, fL_wF, fL_wG, fL_wR, fV_wF, fV_wG, fV_wR, aF_sV, aG_sV, aR_sV, aF_wG, aF_wR, aG_wF, aG_wR, aR_wF, aR_wG, gO g1, jif_F]
      refine H _ (fr_sV (by decide) (fr_sV (by decide) k1)) ?_ ?_ ?_
      · rw [er, eh]
        simp (decide := true) only [jgI_ob, jgf_ob, jgL_ob, jpI_ob, jpL_ob, jpR_ob, jpN_ob, jrc_ob, obj_sV, obj_wF, obj_wG, obj_wR, arr_sV, arr_wF, arr_wG, arr_wR, arL_sV, arL_wF, arL_wG, arL_wR, arR_sV, arR_wF, arR_wG, arR_wR, fI_sV (c := 0), fI_sV (c := 1), fI_sV (c := 2), fI_sV (c := 4), fI_sV (c := 5), fI_sV (c := 7), fI_sV (c := 8), fI_sV (c := 9), fI_sV (c := 10), fI_sV (c := 11), fI_sV (c := 12), fI_sV (c := 6), fL_sV (c := 9), fL_sV (c := 12), fI_sV_k, fL_sV_k, fV_sV_k, fI_wF, fI_wG, fI_wR, fL_wF, fL_wG, fL_wR, fV_wF, fV_wG, fV_wR, aF_sV, aG_sV, aR_sV, aF_wG, aF_wR, aG_wF, aG_wR, aR_wF, aR_wG, gO g1]
      · rw [er, eN]
        simp (decide := true) only [jgI_ob, jgf_ob, jgL_ob, jpI_ob, jpL_ob, jpR_ob, jpN_ob, jrc_ob, obj_sV, obj_wF, obj_wG, obj_wR, arr_sV, arr_wF, arr_wG, arr_wR, arL_sV, arL_wF, arL_wG, arL_wR, arR_sV, arR_wF, arR_wG, arR_wR, fI_sV (c := 0), fI_sV (c := 1), fI_sV (c := 2), fI_sV (c := 4), fI_sV (c := 5), fI_sV (c := 7), fI_sV (c := 8), fI_sV (c := 9), fI_sV (c := 10), fI_sV (c := 11), fI_sV (c := 12), fI_sV (c := 6), fL_sV (c := 9), fL_sV (c := 12), fI_sV_k, fL_sV_k, fV_sV_k, fI_wF, fI_wG, fI_wR, fL_wF, fL_wG, fL_wR, fV_wF, fV_wG, fV_wR, aF_sV, aG_sV, aR_sV, aF_wG, aF_wR, aG_wF, aG_wR, aR_wF, aR_wG, gO g1]
        rfl
      · rw [er, eh]
        exact fun q => absurd q (show ¬ (1 : Nat) = 0 by decide)
    refine jT_X5_readFrom_77 ?_
    dsimp only [jisr]
    rw [jgI_ob (c := 5) (by simp only [gO g1]) rfl, c7]
    refine ⟨fun q1 => ?_, fun q1 => NT (fun w => q1 (by rw [w.2.1]; rfl))⟩
    have q1 := (nI_eq (b := 1) (by omega) (by omega)).1 q1
    rw [jgI_ob (c := 5) (by simp only [gO g1]) rfl, co.1]
    refine ⟨fun q2 => NT (fun w => ?_), fun q2 => ?_⟩
    · rw [w.2.2] at q2
      exact absurd q2 (by decide)
    · have q2 : xo t N K = [] := by
        refine Classical.byContradiction (fun w => q2 ?_)
        exact nI_lt (a := 0) (List.length_pos_iff.mpr w) (by omega)
      have ff : fin t N K := ⟨eK, q1, q2⟩
      have er : rsl t N K = sft t N K := if_pos ff
      rw [jgI_ob (c := 5) (by simp only [gO g1]) rfl, f11]
      refine jif_t rfl ?_
      rw [jrc_ob (by simp only [gO g1])]
      change jex X (d + 1 + 4) 61 _ _ _
      refine c_checkAtomsB g1 cp ok K4 f11 f12 (fun h2 k2 w1 w2 => ?_)
      try dsimp only [jrI, jrN, jrA, jisr, jnul, jcat1]
      refine H h2 (fr_trans k1 (fr_mono (by decide) (by decide) k2)) (by rw [er]; exact w1) (by rw [er]; exact w2) (fun _ => ⟨ff, ?_⟩)
      -- the picture needs neither fault nor its place
      have e1 : ∀ q, q ≠ 10 → q ≠ 11 → fI h2 17 q = fI h1 17 q := fun q n1 n2 => by
        refine frI k2 ?_ (fun c => absurd c (by decide))
        intro c
        simp only [List.mem_cons, Prod.mk.injEq, List.not_mem_nil, or_false] at c
        omega
      unfold CPB NRB ORB ARB at cp ⊢
      rw [e1 4 (by decide) (by decide), e1 6 (by decide) (by decide), e1 7 (by decide) (by decide), e1 9 (by decide) (by decide), frF k2 (by decide), frF k2 (by decide), frF k2 (by decide), frF k2 (by decide), frF k2 (by decide), frG k2 (by decide)]
      exact cp
  have L : ∀ (r k : Nat) (h1 : JH) (c s : Nat), k + r = K → fr PAB (PFB ++ TF) h h1 → CPB h1 t N k → fI h1 17 10 = 0 → fI h1 17 11 = -1 → TC h1 t N (tS t N k) → jB_X5_readFrom_41 X (d + 5) Q 17 (.ref 7) (nI (tK t N k)) (nI k) h1 c s := by
    intro r
    induction r with
    | zero =>
      intro k h1 c s hk k1 cp f11 f12 tc
      have ek : k = K := by omega
      subst ek
      have g1 := G_fr g rfl k1
      have ok : OKt t N k := st.1
      have hq : tK t N k ≤ 20 := tkK_r _
      refine jT_X5_readFrom_41 (jif_t (nI_lt (b := 2000) (by omega) (by omega)) ?_)
      refine ⟨fun q => ?_, fun q => ?_⟩
      · have q := (nI_eq (b := 1) (by omega) (by omega)).1 q
        exact END h1 _ _ _ _ k1 q cp f11 f12
      · have n1 : tK t N k ≠ 1 := fun w => q (by rw [w]; rfl)
        have nf : ¬ fin t N k := fun w => n1 w.1
        rw [jgI_ob (c := 5) (by simp only [gO g1]) rfl, f11]
        refine jif_t rfl ?_
        dsimp only [jisr]
        rw [jrc_ob (by simp only [gO g1])]
        refine c_takeB g1 cp ok f11 tc (fun w => ?_) (fun w h2 k2 w11 w12 => ?_)
        · rcases st.2 with z | z
          · exact absurd z nf
          · exact absurd w z
        · try dsimp only [jrI, jrN, jrA, jisr, jnul, jcat1]
          have kk : fr PAB (PFB ++ TF) h h2 := fr_trans k1 (fr_mono (fun _ q => q) (fun p q => List.mem_append_left _ q) k2)
          have g2 := G_fr g rfl kk
          rw [jrc_ob (by simp only [gO g2])]
          have e3 : fI h2 7 3 = nI (tkZ t N (tS t N k)) := by rw [frI k2 (by decide) (by decide)]; exact tc.2.1
          refine NX h2 _ _ kk e3 (zN k) (fun h3 k3 tc3 => ?_)
          try dsimp only [jrI, jrN, jrA, jisr, jnul, jcat1]
          have k4 : fr PAB (PFB ++ TF) h h3 := fr_trans kk (fr_mono (fun p q => absurd q List.not_mem_nil) (fun p q => List.mem_append_right _ q) k3)
          have g3 := G_fr g rfl k4
          have z11 : fI h3 17 10 = nI (hft t N k) := by rw [frI k3 (by decide) (by decide)]; exact w11
          have z12 : fI h3 17 11 = nI (tS t N k) := by rw [frI k3 (by decide) (by decide)]; exact w12
          have hl : hft t N k ≤ 2 := by
            unfold hft
            split
            · omega
            · split <;> omega
          rw [nI_1]
          refine jT_X5_readFrom_41 (jif_t (nI_lt (b := 2000) (by omega) (by omega)) ?_)
          refine ⟨fun _ => BAD h3 _ _ _ _ k4 nf z11 z12, fun _ => ?_⟩
          rw [jgI_ob (c := 5) (by simp only [gO g3]) rfl, z11]
          exact jif_n (nI_ne0 (by omega) (by omega)) (BAD h3 _ _ _ _ k4 nf z11 z12)
    | succ r ih =>
      intro k h1 c s hk k1 cp f11 f12 tc
      have g1 := G_fr g rfl k1
      have o0 := st.1 k (by omega)
      have ok : OKt t N k := fun j hj => st.1 j (by omega)
      have hq : tK t N k ≤ 20 := tkK_r _
      have n1 : tK t N k ≠ 1 := fun w => by have := hft_end w; omega
      refine jT_X5_readFrom_41 (jif_t (nI_lt (b := 2000) (by omega) (by omega)) ?_)
      refine jif_n (fun q => n1 ((nI_eq (b := 1) (by omega) (by omega)).1 q)) ?_
      rw [jgI_ob (c := 5) (by simp only [gO g1]) rfl, f11]
      refine jif_t rfl ?_
      dsimp only [jisr]
      rw [jrc_ob (by simp only [gO g1])]
      refine c_takeB g1 cp ok f11 tc (fun _ h2 k2 w11 w12 cp2 => ?_) (fun w => absurd o0 w)
      try dsimp only [jrI, jrN, jrA, jisr, jnul, jcat1]
      have kk : fr PAB (PFB ++ TF) h h2 := fr_trans k1 (fr_mono (fun _ q => q) (fun p q => List.mem_append_left _ q) k2)
      have g2 := G_fr g rfl kk
      rw [jrc_ob (by simp only [gO g2])]
      have e3 : fI h2 7 3 = nI (tkZ t N (tS t N k)) := by rw [frI k2 (by decide) (by decide)]; exact tc.2.1
      refine NX h2 _ _ kk e3 (zN k) (fun h3 k3 tc3 => ?_)
      try dsimp only [jrI, jrN, jrA, jisr, jnul, jcat1]
      have k4 : fr PAB (PFB ++ TF) h h3 := fr_trans kk (fr_mono (fun p q => absurd q List.not_mem_nil) (fun p q => List.mem_append_right _ q) k3)
      rw [nI_1]
      refine ih (k + 1) h3 _ _ (by omega) k4 (CP_frB cp2 k3 rfl rfl) ?_ ?_ tc3
      · rw [frI k3 (by decide) (by decide)]; exact w11
      · rw [frI k3 (by decide) (by decide), w12]; exact f12
  rw [jE_X5_readFrom]
  refine jT_X5_readFrom_0 ?_
  simp (decide := true) only [jpI_ob (p := 17) (c := 5), obj_sV, gO g]
  refine (fun S : (∀ hh, hh = sV (sV (sV (sV (sV (sV h 17 4 (.int 0)) 17 6 (.int 0)) 17 7 (.int 1)) 17 9 (.int 0)) 17 10 (.int 0)) 17 11 (.int (-1)) → jisr (.ref 7) (jrc hh (.ref 7) 9 (jex X (d + 5) 38 [.ref 7] hh fun r9 h8 => (jrN r9 (jisr (.ref 7) (jrc h8 (.ref 7) 9 (jex X (d + 5) 39 [.ref 7] h8 fun r11 h10 => (jrI r11 fun x12 => (jB_X5_readFrom_41 X (d + 5) Q 17 (.ref 7) x12 0 h10 0 0))))))))) => S _ rfl) (fun hh ee => ?_)
  have k0 : fr PAB (PFB ++ TF) h hh := by
    rw [ee]
    exact fr_sV (by decide) (fr_sV (by decide) (fr_sV (by decide) (fr_sV (by decide) (fr_sV (by decide) (fr_sV (by decide) fr_rfl)))))
  have z4 : fI hh 17 4 = nI 0 := by rw [ee]; simp (decide := true) only [jgI_ob, jgf_ob, jgL_ob, jpI_ob, jpL_ob, jpR_ob, jpN_ob, jrc_ob, obj_sV, obj_wF, obj_wG, obj_wR, arr_sV, arr_wF, arr_wG, arr_wR, arL_sV, arL_wF, arL_wG, arL_wR, arR_sV, arR_wF, arR_wG, arR_wR, fI_sV (c := 0), fI_sV (c := 1), fI_sV (c := 2), fI_sV (c := 4), fI_sV (c := 5), fI_sV (c := 7), fI_sV (c := 8), fI_sV (c := 9), fI_sV (c := 10), fI_sV (c := 11), fI_sV (c := 12), fI_sV (c := 6), fL_sV (c := 9), fL_sV (c := 12), fI_sV_k, fL_sV_k, fV_sV_k, fI_wF, fI_wG, fI_wR, fL_wF, fL_wG, fL_wR, fV_wF, fV_wG, fV_wR, aF_sV, aG_sV, aR_sV, aF_wG, aF_wR, aG_wF, aG_wR, aR_wF, aR_wG, gO g]
  have z6 : fI hh 17 6 = nI 0 := by rw [ee]; simp (decide := true) only [jgI_ob, jgf_ob, jgL_ob, jpI_ob, jpL_ob, jpR_ob, jpN_ob, jrc_ob, obj_sV, obj_wF, obj_wG, obj_wR, arr_sV, arr_wF, arr_wG, arr_wR, arL_sV, arL_wF, arL_wG, arL_wR, arR_sV, arR_wF, arR_wG, arR_wR, fI_sV (c := 0), fI_sV (c := 1), fI_sV (c := 2), fI_sV (c := 4), fI_sV (c := 5), fI_sV (c := 7), fI_sV (c := 8), fI_sV (c := 9), fI_sV (c := 10), fI_sV (c := 11), fI_sV (c := 12), fI_sV (c := 6), fL_sV (c := 9), fL_sV (c := 12), fI_sV_k, fL_sV_k, fV_sV_k, fI_wF, fI_wG, fI_wR, fL_wF, fL_wG, fL_wR, fV_wF, fV_wG, fV_wR, aF_sV, aG_sV, aR_sV, aF_wG, aF_wR, aG_wF, aG_wR, aR_wF, aR_wG, gO g]
  have z7 : fI hh 17 7 = nI 1 := by rw [ee]; simp (decide := true) only [jgI_ob, jgf_ob, jgL_ob, jpI_ob, jpL_ob, jpR_ob, jpN_ob, jrc_ob, obj_sV, obj_wF, obj_wG, obj_wR, arr_sV, arr_wF, arr_wG, arr_wR, arL_sV, arL_wF, arL_wG, arL_wR, arR_sV, arR_wF, arR_wG, arR_wR, fI_sV (c := 0), fI_sV (c := 1), fI_sV (c := 2), fI_sV (c := 4), fI_sV (c := 5), fI_sV (c := 7), fI_sV (c := 8), fI_sV (c := 9), fI_sV (c := 10), fI_sV (c := 11), fI_sV (c := 12), fI_sV (c := 6), fL_sV (c := 9), fL_sV (c := 12), fI_sV_k, fL_sV_k, fV_sV_k, fI_wF, fI_wG, fI_wR, fL_wF, fL_wG, fL_wR, fV_wF, fV_wG, fV_wR, aF_sV, aG_sV, aR_sV, aF_wG, aF_wR, aG_wF, aG_wR, aR_wF, aR_wG, gO g]
  have z9 : fI hh 17 9 = nI 0 := by rw [ee]; simp (decide := true) only [jgI_ob, jgf_ob, jgL_ob, jpI_ob, jpL_ob, jpR_ob, jpN_ob, jrc_ob, obj_sV, obj_wF, obj_wG, obj_wR, arr_sV, arr_wF, arr_wG, arr_wR, arL_sV, arL_wF, arL_wG, arL_wR, arR_sV, arR_wF, arR_wG, arR_wR, fI_sV (c := 0), fI_sV (c := 1), fI_sV (c := 2), fI_sV (c := 4), fI_sV (c := 5), fI_sV (c := 7), fI_sV (c := 8), fI_sV (c := 9), fI_sV (c := 10), fI_sV (c := 11), fI_sV (c := 12), fI_sV (c := 6), fL_sV (c := 9), fL_sV (c := 12), fI_sV_k, fL_sV_k, fV_sV_k, fI_wF, fI_wG, fI_wR, fL_wF, fL_wG, fL_wR, fV_wF, fV_wG, fV_wR, aF_sV, aG_sV, aR_sV, aF_wG, aF_wR, aG_wF, aG_wR, aR_wF, aR_wG, gO g]
  have z11 : fI hh 17 10 = 0 := by rw [ee]; simp (decide := true) only [jgI_ob, jgf_ob, jgL_ob, jpI_ob, jpL_ob, jpR_ob, jpN_ob, jrc_ob, obj_sV, obj_wF, obj_wG, obj_wR, arr_sV, arr_wF, arr_wG, arr_wR, arL_sV, arL_wF, arL_wG, arL_wR, arR_sV, arR_wF, arR_wG, arR_wR, fI_sV (c := 0), fI_sV (c := 1), fI_sV (c := 2), fI_sV (c := 4), fI_sV (c := 5), fI_sV (c := 7), fI_sV (c := 8), fI_sV (c := 9), fI_sV (c := 10), fI_sV (c := 11), fI_sV (c := 12), fI_sV (c := 6), fL_sV (c := 9), fL_sV (c := 12), fI_sV_k, fL_sV_k, fV_sV_k, fI_wF, fI_wG, fI_wR, fL_wF, fL_wG, fL_wR, fV_wF, fV_wG, fV_wR, aF_sV, aG_sV, aR_sV, aF_wG, aF_wR, aG_wF, aG_wR, aR_wF, aR_wG, gO g]
  have z12 : fI hh 17 11 = -1 := by rw [ee]; simp (decide := true) only [jgI_ob, jgf_ob, jgL_ob, jpI_ob, jpL_ob, jpR_ob, jpN_ob, jrc_ob, obj_sV, obj_wF, obj_wG, obj_wR, arr_sV, arr_wF, arr_wG, arr_wR, arL_sV, arL_wF, arL_wG, arL_wR, arR_sV, arR_wF, arR_wG, arR_wR, fI_sV (c := 0), fI_sV (c := 1), fI_sV (c := 2), fI_sV (c := 4), fI_sV (c := 5), fI_sV (c := 7), fI_sV (c := 8), fI_sV (c := 9), fI_sV (c := 10), fI_sV (c := 11), fI_sV (c := 12), fI_sV (c := 6), fL_sV (c := 9), fL_sV (c := 12), fI_sV_k, fL_sV_k, fV_sV_k, fI_wF, fI_wG, fI_wR, fL_wF, fL_wG, fL_wR, fV_wF, fV_wG, fV_wR, aF_sV, aG_sV, aR_sV, aF_wG, aF_wR, aG_wF, aG_wR, aR_wF, aR_wG, gO g]
  clear ee
  have gh := G_fr g rfl k0
  dsimp only [jisr]
  rw [jrc_ob (by simp only [gO gh]), jE_X9_rewind]
  refine jT_X9_rewind_0 ?_
  rw [jpI_ob (c := 9) (by simp only [gO gh]) rfl]
  try dsimp only [jrI, jrN, jrA, jisr, jnul, jcat1]
  have kr : fr [] TF hh (sV hh 7 3 (.int 0)) := fr_sV (by decide) fr_rfl
  have y3 : fI (sV hh 7 3 (.int 0)) 7 3 = nI 0 := by simp (decide := true) only [jgI_ob, jgf_ob, jgL_ob, jpI_ob, jpL_ob, jpR_ob, jpN_ob, jrc_ob, obj_sV, obj_wF, obj_wG, obj_wR, arr_sV, arr_wF, arr_wG, arr_wR, arL_sV, arL_wF, arL_wG, arL_wR, arR_sV, arR_wF, arR_wG, arR_wR, fI_sV (c := 0), fI_sV (c := 1), fI_sV (c := 2), fI_sV (c := 4), fI_sV (c := 5), fI_sV (c := 7), fI_sV (c := 8), fI_sV (c := 9), fI_sV (c := 10), fI_sV (c := 11), fI_sV (c := 12), fI_sV (c := 6), fL_sV (c := 9), fL_sV (c := 12), fI_sV_k, fL_sV_k, fV_sV_k, fI_wF, fI_wG, fI_wR, fL_wF, fL_wG, fL_wR, fV_wF, fV_wG, fV_wR, aF_sV, aG_sV, aR_sV, aF_wG, aF_wR, aG_wF, aG_wR, aR_wF, aR_wG, gO gh]
  have k1 : fr PAB (PFB ++ TF) h (sV hh 7 3 (.int 0)) := fr_trans k0 (fr_mono (fun p q => absurd q List.not_mem_nil) (fun p q => List.mem_append_right _ q) kr)
  have cp0 : CPB hh t N 0 := ⟨z4, ⟨z6, fun j hj => absurd hj (Nat.not_lt_zero _)⟩, z7, ⟨z9, fun j hj => absurd hj (Nat.not_lt_zero _)⟩, fun i hi => absurd hi (Nat.not_lt_zero _)⟩
  generalize sV hh 7 3 (.int 0) = h1 at *
  have g1 := G_fr g rfl k1
  rw [jrc_ob (by simp only [gO g1])]
  refine NX h1 0 _ k1 y3 (Nat.zero_le _) (fun h2 k2 tc2 => ?_)
  try dsimp only [jrI, jrN, jrA, jisr, jnul, jcat1]
  have k3 : fr PAB (PFB ++ TF) h h2 := fr_trans k1 (fr_mono (fun p q => absurd q List.not_mem_nil) (fun p q => List.mem_append_right _ q) k2)
  refine L K 0 h2 0 0 (by omega) k3 (CP_frB (CP_frB cp0 kr rfl rfl) k2 rfl rfl) ?_ ?_ tc2
  · rw [frI k2 (by decide) (by decide), frI kr (by decide) (by decide)]; exact z11
  · rw [frI k2 (by decide) (by decide), frI kr (by decide) (by decide)]; exact z12
end CURB
