/-! READING: an if, by the model -/
section IFT
variable {X : JX} {d : Nat} {Q : JQ} {h bh : JH} {N k K : Nat} {t : Nat → Int}
/-- within an if that began at token k: token j is the current one -/
def IFM (bh h : JH) (t : Nat → Int) (N k j : Nat) (A : Int32) : Prop := MKt bh h t N j ∧ MN h t N (nms t N j) (tld t N j) ∧ MAt h t N j ∧ MFl h t N j ∧ MSx h t N k (ns t N k + 1) ∧ aF h 91 (410 + ns t N k) = 2 ∧ aF h 92 (410 + ns t N k) = nI (tS t N k) ∧ aF h 93 (410 + ns t N k) = A
def IFP (t : Nat → Int) (N k j : Nat) : Prop := ns t N j = ns t N k + 1 ∧ xo t N j = k :: xo t N k ∧ (∀ i, cl t N j i = cl t N k i) ∧ (∀ i, k < i → i < j → isSt t N i = false)
theorem IFM_fr {A : List Nat} {F : List (Nat × Nat)} {h1 : JH} {j : Nat} {w : Int32} (x : IFM bh h t N k j w) (a : fr A F h h1) (k1 : offF ((81, 1) :: AFi) F = true) (k2 : offA (82 :: 90 :: 91 :: 92 :: 93 :: 94 :: 95 :: AA) A = true) : IFM bh h1 t N k j w := by
  obtain ⟨x1, x2, x3, x4, x5, x6, x7, x8⟩ := x
  have e := offV (fw_fr a) k1
  have e2 := offR (fw_fr a) k2
  refine ⟨?_, ?_, ?_, ?_, ?_, ?_, ?_, ?_⟩
  · unfold MKt MT TM LOW fI fL at *
    rw [e (81, 1) (by decide), e (81, 19) (by decide), e (81, 20) (by decide), e (81, 21) (by decide), e (81, 22) (by decide), e (81, 23) (by decide), e (81, 24) (by decide), (e2 82 (by decide)).1, (e2 90 (by decide)).1, (e2 91 (by decide)).1, (e2 92 (by decide)).1, (e2 93 (by decide)).1, (e2 94 (by decide)).1, (e2 95 (by decide)).1, (e2 96 (by decide)).1, (e2 97 (by decide)).1, (e2 98 (by decide)).1, (e2 99 (by decide)).1, (e2 100 (by decide)).1, (e2 101 (by decide)).1, (e2 102 (by decide)).1]
    exact x1
  · unfold MN at *
    rw [(e2 102 (by decide)).1, (e2 103 (by decide)).2.1, (e2 104 (by decide)).1]
    exact x2
  · unfold MAt MA1 at *
    rw [(e2 96 (by decide)).1, (e2 97 (by decide)).1, (e2 98 (by decide)).1, (e2 99 (by decide)).1, (e2 100 (by decide)).1, (e2 101 (by decide)).1]
    exact x3
  · unfold MFl fI at *
    rw [e (81, 2) (by decide), e (81, 3) (by decide)]
    exact x4
  · unfold MSx MS1 at *
    rw [(e2 90 (by decide)).1, (e2 91 (by decide)).1, (e2 92 (by decide)).1, (e2 93 (by decide)).1, (e2 94 (by decide)).1, (e2 95 (by decide)).1]
    exact x5
  · rw [(e2 91 (by decide)).1]; exact x6
  · rw [(e2 92 (by decide)).1]; exact x7
  · rw [(e2 93 (by decide)).1]; exact x8
/-- a token more, of no note -/
theorem IFP_s {j : Nat} (x : IFP t N k j) (q : tK t N j ≠ 4 ∧ tK t N j ≠ 5 ∧ tK t N j ≠ 6 ∧ tK t N j ≠ 7 ∧ tK t N j ≠ 9 ∧ tK t N j ≠ 15) : IFP t N k (j + 1) := by
  have s := q_step q
  refine ⟨s.1.trans x.1, s.2.1.trans x.2.1, fun i => (s.2.2.2.1 i).trans (x.2.2.1 i), fun i h1 h2 => ?_⟩
  by_cases e : i = j
  · rw [e]; exact isSt_f (by omega)
  · exact x.2.2.2 i h1 (by omega)
/-- a token that is neither name nor number passes -/
theorem c_ifPass (g : G h) (st : Spt t N K) {j : Nat} (hj : j ≤ K) {w : Int32} (im : IFM bh h t N k j w) (fw : fwl t N j ≠ 0) (nk : tK t N j ≠ 2 ∧ tK t N j ≠ 3 ∧ tK t N j ≠ 5 ∧ tK t N j ≠ 7 ∧ tK t N j ≠ 15) (HS : ∀ h1, fr [] [(81, 2), (81, 3)] h h1 → SPD bh h1 t N K → Q (some (.int 0)) h1) (HC : j + 1 ≤ K → ∀ h1, fr [] [(81, 19), (81, 20), (81, 21), (81, 22), (81, 23), (81, 24)] h h1 → IFM bh h1 t N k (j + 1) w → Q (some (.int 1)) h1) : jex X (d + 5) 79 [.ref 81] h Q := by
  obtain ⟨x1, x2, x3, x4, x5, x6, x7, x8⟩ := im
  refine c_pass g st hj x1 (hft_pw fw (fun q => by omega) (fun q => by omega)) HS (fun lt o0 h1 k1 mk1 => HC (by omega) h1 k1 ?_)
  have qn := q_name (t := t) (N := N) (k := j) (by omega)
  have et : tld t N (j + 1) = tld t N j := by funext i; show (if tK t N j = 15 ∧ i = nnum t N (la t N j + 1) then true else tld t N j i) = _; rw [if_neg (by omega)]
  refine ⟨mk1, ?_, ?_, ?_, MSx_fr x5 k1 rfl, ?_, ?_, ?_⟩
  · rw [qn.1, et]; exact MN_fr x2 k1 rfl
  · have w := MAt_fr x3 k1 rfl
    refine ⟨by rw [qn.2.2.1]; exact w.1, fun i hi ai => w.2 i ?_ ai⟩
    refine Classical.byContradiction (fun q => ?_)
    rw [show i = j by omega, qn.2.1] at ai
    cases ai
  · have w := MFl_fr x4 k1 rfl
    unfold MFl at w ⊢
    rw [qn.2.2.2]
    exact w
  · rw [frF k1 (by decide)]; exact x6
  · rw [frF k1 (by decide)]; exact x7
  · rw [frF k1 (by decide)]; exact x8
theorem c_ifAtom (g : G h) (st : Spt t N K) {j : Nat} (hj : j ≤ K) {w : Int32} (im : IFM bh h t N k j w) (ip : IFP t N k j) (e : xe t N j = 8 ∨ xe t N j = 9 ∨ xe t N j = 11) (fw : fwl t N j ≠ 0 ↔ (tK t N j = 2 ∨ tK t N j = 3)) (n20 : tK t N (j - 1) ≠ 20) (HS : ∀ h1, fr AA AFi h h1 → SPD bh h1 t N K → Q (some (.int 0)) h1) (HC : j + 1 ≤ K → fwl t N j ≠ 0 → ∀ h1, fr AA AFi h h1 → IFM bh h1 t N k (j + 1) w → IFP t N k (j + 1) → Q (some (.int 1)) h1) : jex X (d + 6) 84 [.ref 81, .int (-1), .int 0] h Q := by
  obtain ⟨x1, x2, x3, x4, x5, x6, x7, x8⟩ := im
  refine c_atomTold g st hj x1 x2 x3 x4 (by omega) fw ?_ ?_ HS (fun lt h1 k1 mk1 mn1 ma1 mf1 => ?_)
  · unfold wrd; rw [if_neg (by omega)]
  · unfold ovr; rw [if_neg (by omega), decide_eq_false n20]; rfl
  · have o0 := st.1 j (by omega)
    have fj := (hft_0 o0).1
    have ta := fw.1 fj
    refine HC (by omega) fj h1 k1 ⟨mk1, mn1, ma1, mf1, MSx_fr x5 k1 rfl, ?_, ?_, ?_⟩ (IFP_s ip (by omega))
    · rw [frF k1 (by decide)]; exact x6
    · rw [frF k1 (by decide)]; exact x7
    · rw [frF k1 (by decide)]; exact x8
theorem c_ifTold (g : G h) (st : Spt t N K) (hk : k ≤ K) (al : ALLm bh h t N k) (h7 : tK t N k = 7) (fw : fwl t N k ≠ 0) (rm : (xo t N k).length < 6) (HS : ∀ h1, fr MAr MFi h h1 → SPD bh h1 t N K → Q (some (.int 0)) h1) (HC : ∀ j, k < j → j ≤ K → xe t N j = 1 → ∀ h1, fr MAr MFi h h1 → ALLm bh h1 t N j → Q (some (.int 1)) h1) : jex X (d + 7) 88 [.ref 81] h Q := by
  obtain ⟨mk, mn, ma, mf, ms, mo⟩ := al
  have K4 := Spt_400 st
  have fi := fwl_inv fw
  have nk := ns_le (t := t) (N := N) k
  have i1 : vp_in 1 2 := by rw [vp_inI]; decide
  have c1 : (1 : Int32).toNatClampNeg = 1 := rfl
  have ivk : vp_in (nI (410 + ns t N k)) 820 := by rw [vp_inI, nI_toInt (by omega)]; omega
  have ick : (nI (410 + ns t N k)).toNatClampNeg = 410 + ns t N k := nI_clamp (by omega)
  have ivl : vp_in (nI (xo t N k).length) 6 := by rw [vp_inI, nI_toInt (by omega)]; omega
  have icl : (nI (xo t N k).length).toNatClampNeg = (xo t N k).length := nI_clamp (by omega)
  rw [jE_X12_ifTold]
  refine jT_X12_ifTold_0 ?_
  rw [jgI_ob (c := 12) (by simp only [gM g]) rfl, mk.1.1, jrc_ob (by simp only [gM g])]
  change jex X (d + 1 + 5) 79 _ _ _
  refine c_pass g st hk mk (hft_pw fw (fun q => by omega) (fun _ => rm)) (fun h1 k1 sp => ?_) (fun lt o0 h1 k1 mk1 => ?_)
  · try dsimp only [jrI, jrN, jrA, jisr, jnul, jcat1]
    exact jif_t rfl ⟨by decide, HS h1 (fr_mono (by decide) (by decide) k1) sp⟩
  try dsimp only [jrI, jrN, jrA, jisr, jnul, jcat1]
  refine jif_n (by decide) ?_
  have g1 := G_fr g rfl k1
  have x8 : xe t N (k + 1) = 8 := by rw [xe_s]; omega
  have q0 := q_name (t := t) (N := N) (k := k) (by omega)
  have et1 : tld t N (k + 1) = tld t N k := by funext j; show (if tK t N k = 15 ∧ j = nnum t N (la t N k + 1) then true else tld t N k j) = _; rw [if_neg (by omega)]
  have ip1 : IFP t N k (k + 1) := by
    refine ⟨by rw [q_ns, isSt_t (by omega)]; rfl, by rw [xo_s, if_pos (by omega)], fun i => by rw [q_cl, if_neg (by omega)], fun i h1 h2 => by omega⟩
  rw [jrc_ob (by simp only [gM g1])]
  change jex X (d + 5 + 1) 81 _ _ _
  refine c_newStep g1 (m := ns t N k) (MSx_fr ms k1 rfl).1 (by omega) (fun h2 k2 p90 p91 p92 p900 => ?_)
  have g2 := G_fr g1 rfl k2
  have ms1 := MSx_fr ms k1 rfl
  -- within, whatever stands at A
  have IM : ∀ (h3 : JH) (w : Int32), fr [93] [] h2 h3 → aF h3 93 = upd (aF h2 93) (410 + ns t N k) w → IFM bh h3 t N k (k + 1) w := by
    intro h3 w k3 p93
    have k13 : fr [90, 91, 92, 93] [] h1 h3 := fr_trans (fr_mono (by decide) (by decide) k2) (fr_mono (by decide) (by decide) k3)
    have lw3 : LOW h1 h3 := by
      refine ⟨?_, fun j hj => ⟨?_, ?_, ?_, ?_, ?_⟩, ?_, fun j hj => ⟨?_, ?_, ?_, ?_, ?_⟩, ?_⟩
      all_goals (try rw [frF k13 (by decide)])
      · rw [frF k3 (by decide)]; exact p900
      · rw [frF k3 (by decide), p91, upd_n (by omega)]
      · rw [frF k3 (by decide), p92, upd_n (by omega)]
      · rw [p93, upd_n (by omega), frF k2 (by decide)]
    refine ⟨MKt_lw mk1 k13 rfl rfl lw3, ?_, ?_, ?_, ⟨by rw [frF k3 (by decide)]; exact p90, fun i hi si => ?_⟩, ?_, ?_, ?_⟩
    · rw [q0.1, et1]; exact MN_fr (MN_fr mn k1 rfl) k13 rfl
    · have w := MAt_fr (MAt_fr ma k1 rfl) k13 rfl
      refine ⟨by rw [q0.2.2.1]; exact w.1, fun i hi ai => w.2 i ?_ ai⟩
      refine Classical.byContradiction (fun q => ?_)
      rw [show i = k by omega, q0.2.1] at ai
      cases ai
    · have w := MFl_fr (MFl_fr mf k1 rfl) k13 rfl
      unfold MFl at w ⊢
      rw [q0.2.2.2]
      exact w
    · have li := ns_lt hi si
      refine MS1_eq (h := h1) (m := ns t N k) (ms1.2 i hi si) li (fun j hj => ?_) (fun j hj => ?_) (fun j hj => ?_) (fun j hj => ?_) (fun j hj => ?_)
      · rw [frF k3 (by decide), p91, upd_n (by omega)]
      · rw [frF k3 (by decide), p92, upd_n (by omega)]
      · rw [p93, upd_n (by omega), frF k2 (by decide)]
      · rw [frF k13 (by decide)]
      · rw [frF k13 (by decide)]
    · rw [frF k3 (by decide), p91, upd_s]
    · rw [frF k3 (by decide), p92, upd_s]
    · rw [p93, upd_s]
  -- from the first atom on
  have R57 : ∀ (j : Nat) (w : Int32) (h3 : JH) (o1 o3 : Option Value) (c s : Nat), k < j → j ≤ K → j = k + 1 + (if tK t N (k + 1) = 8 then 1 else 0) → w = (if tK t N (k + 1) = 8 then 1 else 0) → fr MAr MFi h h3 → IFM bh h3 t N k j w → IFP t N k j → MOp h3 t N (xo t N k) → na t N j = na t N k → (xe t N j = 8 ∨ xe t N j = 9) → (tK t N j = 8 → xe t N j = 9) → tK t N (j - 1) ≠ 20 → jB_X12_ifTold_57 X (d + 6) Q 81 o1 (nI (410 + ns t N k)) o3 h3 c s := by
    intro j w h3 o1 o3 c s hkj hjK ej ew k3 im ip mo3 ena xj x98 n20
    have g3 := G_fr g rfl k3
    have f40 := mo3.1
    have e96 := im.2.2.1.1
    refine jT_X12_ifTold_57 ?_
    simp (decide := true) only [jgI_ob, jgf_ob, jgL_ob, jpI_ob, jpL_ob, jpR_ob, jpN_ob, jrc_ob, obj_sV, obj_wF, obj_wG, obj_wR, arr_sV, arr_wF, arr_wG, arr_wR, arL_sV, arL_wF, arL_wG, arL_wR, arR_sV, arR_wF, arR_wG, arR_wR, fI_sV (c := 0), fI_sV (c := 1), fI_sV (c := 2), fI_sV (c := 4), fI_sV (c := 5), fI_sV (c := 7), fI_sV (c := 8), fI_sV (c := 9), fI_sV (c := 10), fI_sV (c := 11), fI_sV (c := 12), fI_sV (c := 6), fL_sV (c := 9), fL_sV (c := 12), fI_sV_k, fL_sV_k, fV_sV_k, fI_wF, fI_wG, fI_wR, fL_wF, fL_wG, fL_wR, fV_wF, fV_wG, fV_wR, aF_sV, aG_sV, aR_sV, aF_wG, aF_wR, aG_wF, aG_wR, aR_wF, aR_wG, kC, kM, gM g3, gN g3, f40, ivl, icl, true_and, i1, c1, nI_1, e96, ena, aF_wF_ne]
    refine (fun S : (∀ h4, fr [105, 106] [(81, 40)] h3 h4 → fI h4 81 40 = nI ((xo t N k).length + 1) → aF h4 105 = upd (aF h3 105) (xo t N k).length (nI (410 + ns t N k)) → aF h4 106 = upd (aF h3 106) (xo t N k).length (-1) → jex X (d + 6) 84 [.ref 81, .int (-1), .int 0] h4 (fun r12 h11 => (jrI r12 fun x13 => (jifp (x13 = 0) (Q (some (.int 0)) h11) (jrc h11 (.ref 81) 12 (jex X (d + 6) 83 [.ref 81, .int 60] h11 fun r15 h14 => (jrI r15 fun x16 => (jifp (x16 = 0) (jrc h14 (.ref 81) 12 (jex X (d + 6) 83 [.ref 81, .int 300] h14 fun r18 h17 => (jrI r18 fun x19 => (jifp (x19 = 0) (jgI h17 (.ref 81) 12 20 fun x20 => (jrc h17 (.ref 81) 12 (jex X (d + 6) 77 [.ref 81, .int 1, .int x20] h17 fun r22 h21 => (jrI r22 fun x23 => ((x23 : Int32) &&& 1 = x23 ∧ (Q (some (.int x23)) h21)))))) (jB_X12_ifTold_134 X (d + 6) Q 81 o1 (nI (410 + ns t N k)) (nI (na t N k)) h17 c s))))) (jB_X12_ifTold_134 X (d + 6) Q 81 o1 (nI (410 + ns t N k)) (nI (na t N k)) h14 c s))))))))) => S _ (fr_sV (by decide) (fr_wF (by decide) (fr_wF (by decide) fr_rfl))) (by simp (decide := true) only [jgI_ob, jgf_ob, jgL_ob, jpI_ob, jpL_ob, jpR_ob, jpN_ob, jrc_ob, obj_sV, obj_wF, obj_wG, obj_wR, arr_sV, arr_wF, arr_wG, arr_wR, arL_sV, arL_wF, arL_wG, arL_wR, arR_sV, arR_wF, arR_wG, arR_wR, fI_sV (c := 0), fI_sV (c := 1), fI_sV (c := 2), fI_sV (c := 4), fI_sV (c := 5), fI_sV (c := 7), fI_sV (c := 8), fI_sV (c := 9), fI_sV (c := 10), fI_sV (c := 11), fI_sV (c := 12), fI_sV (c := 6), fL_sV (c := 9), fL_sV (c := 12), fI_sV_k, fL_sV_k, fV_sV_k, fI_wF, fI_wG, fI_wR, fL_wF, fL_wG, fL_wR, fV_wF, fV_wG, fV_wR, aF_sV, aG_sV, aR_sV, aF_wG, aF_wR, aG_wF, aG_wR, aR_wF, aR_wG, gM g3]) (by simp (decide := true) only [jgI_ob, jgf_ob, jgL_ob, jpI_ob, jpL_ob, jpR_ob, jpN_ob, jrc_ob, obj_sV, obj_wF, obj_wG, obj_wR, arr_sV, arr_wF, arr_wG, arr_wR, arL_sV, arL_wF, arL_wG, arL_wR, arR_sV, arR_wF, arR_wG, arR_wR, fI_sV (c := 0), fI_sV (c := 1), fI_sV (c := 2), fI_sV (c := 4), fI_sV (c := 5), fI_sV (c := 7), fI_sV (c := 8), fI_sV (c := 9), fI_sV (c := 10), fI_sV (c := 11), fI_sV (c := 12), fI_sV (c := 6), fL_sV (c := 9), fL_sV (c := 12), fI_sV_k, fL_sV_k, fV_sV_k, fI_wF, fI_wG, fI_wR, fL_wF, fL_wG, fL_wR, fV_wF, fV_wG, fV_wR, aF_sV, aG_sV, aR_sV, aF_wG, aF_wR, aG_wF, aG_wR, aR_wF, aR_wG, kC, kM, gM g3, aF_wF_ne]) (by simp (decide := true) only [jgI_ob, jgf_ob, jgL_ob, jpI_ob, jpL_ob, jpR_ob, jpN_ob, jrc_ob, obj_sV, obj_wF, obj_wG, obj_wR, arr_sV, arr_wF, arr_wG, arr_wR, arL_sV, arL_wF, arL_wG, arL_wR, arR_sV, arR_wF, arR_wG, arR_wR, fI_sV (c := 0), fI_sV (c := 1), fI_sV (c := 2), fI_sV (c := 4), fI_sV (c := 5), fI_sV (c := 7), fI_sV (c := 8), fI_sV (c := 9), fI_sV (c := 10), fI_sV (c := 11), fI_sV (c := 12), fI_sV (c := 6), fL_sV (c := 9), fL_sV (c := 12), fI_sV_k, fL_sV_k, fV_sV_k, fI_wF, fI_wG, fI_wR, fL_wF, fL_wG, fL_wR, fV_wF, fV_wG, fV_wR, aF_sV, aG_sV, aR_sV, aF_wG, aF_wR, aG_wF, aG_wR, aR_wF, aR_wG, kC, kM, gM g3, aF_wF_ne])) (fun h4 k4 q40 p105 p106 => ?_)
    have k4' : fr MAr MFi h h4 := fr_trans k3 (fr_mono (by decide) (by decide) k4)
    have g4 := G_fr g rfl k4'
    have im4 := IFM_fr im k4 rfl rfl
    have okj : OKt t N j := fun i hi => st.1 i (by omega)
    have mo4 : MOp h4 t N (k :: xo t N k) := by
      refine ⟨by rw [q40, List.length_cons], fun i hi => ?_⟩
      rw [List.length_cons] at hi ⊢
      cases i with
      | zero =>
        show OPn h4 t N k _
        unfold OPn
        rw [p105, p106, show (xo t N k).length + 1 - 1 - 0 = (xo t N k).length by omega, upd_s, upd_s]
        exact ⟨fun _ => rfl, fun _ => rfl, fun q => by omega⟩
      | succ i =>
        have oi := mo3.2 i (by omega)
        rw [show (k :: xo t N k).getD (i + 1) 0 = (xo t N k).getD i 0 from rfl, show (xo t N k).length + 1 - 1 - (i + 1) = (xo t N k).length - 1 - i by omega]
        have xg := xo_g (t := t) (N := N) (k := k) (j := i) (by omega)
        refine OPn_eq (m := ns t N k) oi (ns_mono (by omega)) ?_ ?_ (fun z hz => ?_)
        · rw [p105, upd_n (by omega)]
        · rw [p106, upd_n (by omega)]
        · rw [frF k4 (by decide)]
    have fwj : fwl t N j ≠ 0 ↔ (tK t N j = 2 ∨ tK t N j = 3) := by
      constructor
      · intro q
        have := fwl_inv q
        omega
      · intro q
        unfold fwl fol
        rw [if_neg (by omega), if_neg (by omega), if_neg (by omega), if_neg (by omega), if_neg (by omega), if_neg (by omega), if_neg (by omega)]
        by_cases x : xe t N j = 8
        · rw [if_pos x, if_neg (by omega), if_pos q]; decide
        · rw [if_neg x, if_pos (by omega), if_pos q]; decide
    refine c_ifAtom g4 st hjK im4 ip (by omega) fwj n20 (fun h5 k5 sp => ?_) (fun hj1 fj h5 k5 im5 ip5 => ?_)
    · try dsimp only [jrI, jrN, jrA, jisr, jnul, jcat1]
      exact jif_t rfl (HS h5 (fr_trans k4' (fr_mono (by decide) (by decide) k5)) sp)
    try dsimp only [jrI, jrN, jrA, jisr, jnul, jcat1]
    refine jif_n (by decide) ?_
    have k5' : fr MAr MFi h h5 := fr_trans k4' (fr_mono (by decide) (by decide) k5)
    have g5 := G_fr g rfl k5'
    have mo5 := MOp_fr mo4 k5 rfl rfl
    have x10 : xe t N (j + 1) = 10 := by
      rw [xe_s]
      have := fwl_inv fj
      omega
    have aj := fwj.1 fj
    -- behind the sign
    have R134 : (tK t N (j + 1) = 17 ∨ tK t N (j + 1) = 18) → jB_X12_ifTold_134 X (d + 6) Q 81 o1 (nI (410 + ns t N k)) (nI (na t N k)) h5 c s := by
      intro hs
      have fw1 : fwl t N (j + 1) = 11 := by
        unfold fwl fol
        rw [if_neg (by omega), if_neg (by omega), if_neg (by omega), if_neg (by omega), if_neg (by omega), if_neg (by omega), if_neg (by omega), if_neg (by omega), if_neg (by omega), if_pos x10, if_pos hs]
      have e93 := im5.2.2.2.2.2.2.2
      refine jT_X12_ifTold_134 ?_
      rw [jgf_ob (c := 12) (by simp only [gM g5]) rfl, show fV h5 81 28 = .ref 93 by simp only [gN g5]]
      dsimp only [jcat1]
      rw [jaI_ar (n := 820) (by simp only [gM g5])]
      refine ⟨ivk, ?_⟩
      rw [ick, e93, jrc_ob (by simp only [gM g5])]
      change jex X (d + 5 + 1) 83 [.ref 81, .int (sgM 18)] _ _
      -- the writing, and what comes behind
      have WR : ∀ v : Int32, v = nI (ifA t N k) → jwI h5 (.ref 93) (nI (410 + ns t N k)) v (fun h6 => (jgf h6 (.ref 81) 12 29 fun v7 => (jwI h6 v7 (nI (410 + ns t N k)) (nI (na t N k)) fun h8 => (jrc h8 (.ref 81) 12 (jex X (d + 6) 79 [.ref 81] h8 fun r10 h9 => (jrI r10 fun x11 => (jifp (x11 = 0) ((0 : Int32) &&& 1 = 0 ∧ (Q (some (.int 0)) h9)) (jrc h9 (.ref 81) 12 (jex X (d + 6) 84 [.ref 81, .int (-1), .int 0] h9 fun r13 h12 => (jrI r13 fun x14 => (jifp (x14 = 0) ((0 : Int32) &&& 1 = 0 ∧ (Q (some (.int 0)) h12)) ((1 : Int32) &&& 1 = 1 ∧ (Q (some (.int 1)) h12))))))))))))) := by
        intro v ev
        simp (decide := true) only [jgI_ob, jgf_ob, jgL_ob, jpI_ob, jpL_ob, jpR_ob, jpN_ob, jrc_ob, obj_sV, obj_wF, obj_wG, obj_wR, arr_sV, arr_wF, arr_wG, arr_wR, arL_sV, arL_wF, arL_wG, arL_wR, arR_sV, arR_wF, arR_wG, arR_wR, fI_sV (c := 0), fI_sV (c := 1), fI_sV (c := 2), fI_sV (c := 4), fI_sV (c := 5), fI_sV (c := 7), fI_sV (c := 8), fI_sV (c := 9), fI_sV (c := 10), fI_sV (c := 11), fI_sV (c := 12), fI_sV (c := 6), fL_sV (c := 9), fL_sV (c := 12), fI_sV_k, fL_sV_k, fV_sV_k, fI_wF, fI_wG, fI_wR, fL_wF, fL_wG, fL_wR, fV_wF, fV_wG, fV_wR, aF_sV, aG_sV, aR_sV, aF_wG, aF_wR, aG_wF, aG_wR, aR_wF, aR_wG, kC, kM, gM g5, gN g5, ivk, ick, true_and, aF_wF_ne]
        refine (fun S : (∀ h6, fr [93, 94] [] h5 h6 → aF h6 93 = upd (aF h5 93) (410 + ns t N k) v → aF h6 94 = upd (aF h5 94) (410 + ns t N k) (nI (na t N k)) → jex X (d + 6) 79 [.ref 81] h6 (fun r10 h9 => (jrI r10 fun x11 => (jifp (x11 = 0) (Q (some (.int 0)) h9) (jrc h9 (.ref 81) 12 (jex X (d + 6) 84 [.ref 81, .int (-1), .int 0] h9 fun r13 h12 => (jrI r13 fun x14 => (jifp (x14 = 0) (Q (some (.int 0)) h12) (Q (some (.int 1)) h12))))))))) => S _ (fr_wF (by decide) (fr_wF (by decide) fr_rfl)) (by simp (decide := true) only [jgI_ob, jgf_ob, jgL_ob, jpI_ob, jpL_ob, jpR_ob, jpN_ob, jrc_ob, obj_sV, obj_wF, obj_wG, obj_wR, arr_sV, arr_wF, arr_wG, arr_wR, arL_sV, arL_wF, arL_wG, arL_wR, arR_sV, arR_wF, arR_wG, arR_wR, fI_sV (c := 0), fI_sV (c := 1), fI_sV (c := 2), fI_sV (c := 4), fI_sV (c := 5), fI_sV (c := 7), fI_sV (c := 8), fI_sV (c := 9), fI_sV (c := 10), fI_sV (c := 11), fI_sV (c := 12), fI_sV (c := 6), fL_sV (c := 9), fL_sV (c := 12), fI_sV_k, fL_sV_k, fV_sV_k, fI_wF, fI_wG, fI_wR, fL_wF, fL_wG, fL_wR, fV_wF, fV_wG, fV_wR, aF_sV, aG_sV, aR_sV, aF_wG, aF_wR, aG_wF, aG_wR, aR_wF, aR_wG, kC, kM, gM g5, aF_wF_ne]) (by simp (decide := true) only [jgI_ob, jgf_ob, jgL_ob, jpI_ob, jpL_ob, jpR_ob, jpN_ob, jrc_ob, obj_sV, obj_wF, obj_wG, obj_wR, arr_sV, arr_wF, arr_wG, arr_wR, arL_sV, arL_wF, arL_wG, arL_wR, arR_sV, arR_wF, arR_wG, arR_wR, fI_sV (c := 0), fI_sV (c := 1), fI_sV (c := 2), fI_sV (c := 4), fI_sV (c := 5), fI_sV (c := 7), fI_sV (c := 8), fI_sV (c := 9), fI_sV (c := 10), fI_sV (c := 11), fI_sV (c := 12), fI_sV (c := 6), fL_sV (c := 9), fL_sV (c := 12), fI_sV_k, fL_sV_k, fV_sV_k, fI_wF, fI_wG, fI_wR, fL_wF, fL_wG, fL_wR, fV_wF, fV_wG, fV_wR, aF_sV, aG_sV, aR_sV, aF_wG, aF_wR, aG_wF, aG_wR, aR_wF, aR_wG, kC, kM, gM g5, aF_wF_ne])) (fun h6 k6 p93 p94 => ?_)
        have k6' : fr MAr MFi h h6 := fr_trans k5' (fr_mono (by decide) (by decide) k6)
        have g6 := G_fr g rfl k6'
        obtain ⟨y1, y2, y3, y4, y5, y6, y7, y8⟩ := im5
        have im6 : IFM bh h6 t N k (j + 1) v := by
          have lw6 : LOW h5 h6 := by
            refine ⟨?_, fun j hj => ⟨?_, ?_, ?_, ?_, ?_⟩, ?_, fun j hj => ⟨?_, ?_, ?_, ?_, ?_⟩, ?_⟩
            all_goals (try rw [frF k6 (by decide)])
            · rw [p93, upd_n (by omega)]
            · rw [p94, upd_n (by omega)]
          refine ⟨MKt_lw y1 k6 rfl rfl lw6, MN_fr y2 k6 rfl, MAt_fr y3 k6 rfl, MFl_fr y4 k6 rfl, ⟨by rw [frF k6 (by decide)]; exact y5.1, fun i hi si => ?_⟩, ?_, ?_, ?_⟩
          · have li := ns_lt hi si
            refine MS1_eq (h := h5) (m := ns t N k) (y5.2 i hi si) li (fun z hz => ?_) (fun z hz => ?_) (fun z hz => ?_) (fun z hz => ?_) (fun z hz => ?_)
            · rw [frF k6 (by decide)]
            · rw [frF k6 (by decide)]
            · rw [p93, upd_n (by omega)]
            · rw [p94, upd_n (by omega)]
            · rw [frF k6 (by decide)]
          · rw [frF k6 (by decide)]; exact y6
          · rw [frF k6 (by decide)]; exact y7
          · rw [p93, upd_s]
        have e94 : aF h6 94 (410 + ns t N k) = nI (na t N k) := by rw [p94, upd_s]
        change jex X (d + 1 + 5) 79 _ _ _
        refine c_ifPass g6 st hj1 im6 (by omega) (by omega) (fun h7 k7 sp => ?_) (fun hj2 h7 k7 im7 => ?_)
        · try dsimp only [jrI, jrN, jrA, jisr, jnul, jcat1]
          exact jif_t rfl (HS h7 (fr_trans k6' (fr_mono (by decide) (by decide) k7)) sp)
        try dsimp only [jrI, jrN, jrA, jisr, jnul, jcat1]
        refine jif_n (by decide) ?_
        have k7' : fr MAr MFi h h7 := fr_trans k6' (fr_mono (by decide) (by decide) k7)
        have g7 := G_fr g rfl k7'
        have x11 : xe t N (j + 2) = 11 := by show xe t N (j + 1 + 1) = 11; rw [xe_s]; exact fw1
        have ip7 : IFP t N k (j + 2) := IFP_s ip5 (by omega)
        rw [jrc_ob (by simp only [gM g7])]
        have fw2 : fwl t N (j + 2) ≠ 0 ↔ (tK t N (j + 2) = 2 ∨ tK t N (j + 2) = 3) := by
          constructor
          · intro q
            have := fwl_inv q
            omega
          · intro q
            unfold fwl fol
            rw [if_neg (by omega), if_neg (by omega), if_neg (by omega), if_neg (by omega), if_neg (by omega), if_neg (by omega), if_neg (by omega), if_neg (by omega), if_neg (by omega), if_neg (by omega), if_pos x11, if_pos q]
            decide
        refine c_ifAtom g7 st (j := j + 2) hj2 im7 ip7 (by omega) fw2 (by show tK t N (j + 1) ≠ 20; omega) (fun h8 k8 sp => ?_) (fun hj3 fj2 h8 k8 im8 ip8 => ?_)
        · try dsimp only [jrI, jrN, jrA, jisr, jnul, jcat1]
          exact jif_t rfl (HS h8 (fr_trans k7' (fr_mono (by decide) (by decide) k8)) sp)
        try dsimp only [jrI, jrN, jrA, jisr, jnul, jcat1]
        refine jif_n (by decide) ?_
        have xf : xe t N (j + 3) = 1 := by
          show xe t N (j + 2 + 1) = 1
          rw [xe_s]
          have := fwl_inv fj2
          omega
        obtain ⟨z1, z2, z3, z4, z5, z6, z7, z8⟩ := im8
        have mo8 : MOp h8 t N (k :: xo t N k) := MOp_fr (MOp_fr (MOp_fr mo5 k6 rfl rfl) k7 rfl rfl) k8 rfl rfl
        refine HC (j + 3) (by omega) hj3 xf h8 (fr_trans k7' (fr_mono (by decide) (by decide) k8)) ⟨z1, z2, z3, z4, ⟨by rw [ip8.1]; exact z5.1, fun i hi si => ?_⟩, by rw [ip8.2.1]; exact mo8⟩
        by_cases ei : i = k
        · subst ei
          unfold MS1
          rw [z6, z7, z8, ip8.2.2.1, cl_ge i i (Nat.le_refl _)]
          have q94 : aF h8 94 (410 + ns t N i) = nI (na t N i) := by rw [frF k8 (by decide), frF k7 (by decide)]; exact e94
          refine ⟨?_, fun _ => rfl, fun q => by omega, fun q => by omega, fun q => by omega, fun _ => ⟨ev, q94⟩, fun q => by omega, fun _ q => absurd rfl q⟩
          unfold skd; rw [if_neg (by omega), if_neg (by omega), if_pos h7]
        · by_cases lt : i < k
          · exact MS1_cl (z5.2 i lt si) (ip8.2.2.1 i)
          · rw [ip8.2.2.2 i (by omega) hi] at si
            cases si
      have ejj : k + 2 + (if tK t N (k + 1) = 8 then 1 else 0) = j + 1 := by rw [ej]; omega
      refine c_isSign g5 im5.1 (by decide) (by decide) (fun q => ?_) (fun q => ?_)
      · try dsimp only [jrI, jrN, jrA, jisr, jnul, jcat1]
        refine jif_n (by decide) (WR _ ?_)
        unfold ifA
        rw [ejj, if_neg (show ¬ tK t N (j + 1) = 17 by omega), ew]
        by_cases e : tK t N (k + 1) = 8
        · rw [if_pos e, if_pos e]; rfl
        · rw [if_neg e, if_neg e]; rfl
      · try dsimp only [jrI, jrN, jrA, jisr, jnul, jcat1]
        refine jif_t rfl (WR _ ?_)
        unfold ifA
        rw [ejj, if_pos (show tK t N (j + 1) = 17 by omega), ew]
        by_cases e : tK t N (k + 1) = 8
        · rw [if_pos e, if_pos e]; rfl
        · rw [if_neg e, if_neg e]; rfl
    rw [jrc_ob (by simp only [gM g5])]
    change jex X (d + 5 + 1) 83 [.ref 81, .int (sgM 18)] _ _
    refine c_isSign g5 im5.1 (by decide) (by decide) (fun q => ?_) (fun q => ?_)
    · try dsimp only [jrI, jrN, jrA, jisr, jnul, jcat1]
      exact jif_n (by decide) (R134 (Or.inr q))
    · try dsimp only [jrI, jrN, jrA, jisr, jnul, jcat1]
      refine jif_t rfl ?_
      rw [jrc_ob (by simp only [gM g5])]
      change jex X (d + 5 + 1) 83 [.ref 81, .int (sgM 17)] _ _
      refine c_isSign g5 im5.1 (by decide) (by decide) (fun q2 => ?_) (fun q2 => ?_)
      · try dsimp only [jrI, jrN, jrA, jisr, jnul, jcat1]
        exact jif_n (by decide) (R134 (Or.inl q2))
      · try dsimp only [jrI, jrN, jrA, jisr, jnul, jcat1]
        refine jif_t rfl ?_
        have f0 : fwl t N (j + 1) = 0 := Classical.byContradiction (fun w => by
          have := fwl_inv w
          omega)
        have e1 : hft t N (j + 1) = 1 := by unfold hft; rw [if_pos f0]
        change jgI h5 (.ref 81) 12 20 fun x43 => (jrc h5 (.ref 81) 12 (jex X (d + 5 + 1) 77 [.ref 81, .int (nI 1), .int x43] h5 fun r45 h44 => (jrI r45 fun x46 => ((fun (x46 : Int32) (h44 : JH) => ((x46 : Int32) &&& 1 = x46 ∧ (Q (some (.int x46)) h44))) x46 h44))))
        exact c_mstopK g5 st hj1 im5.1 (by decide) e1 (fun _ w => by have := w.2.1; omega) (fun h6 k6 sp => ⟨by decide, HS h6 (fr_trans k5' (fr_mono (by decide) (by decide) k6)) sp⟩)
  have kf2 : fr MAr MFi h h2 := fr_trans (fr_mono (by decide) (by decide) k1) (fr_mono (by decide) (by decide) k2)
  have mo2 : MOp h2 t N (xo t N k) := by
    have w := MOp_fr mo k1 rfl rfl
    refine ⟨by rw [frI k2 (by decide) (by decide)]; exact w.1, fun i hi => ?_⟩
    have xg := xo_g (t := t) (N := N) (k := k) (j := i) (by omega)
    refine OPn_eq (m := ns t N k) (w.2 i hi) (ns_mono (by omega)) ?_ ?_ (fun z hz => ?_)
    · rw [frF k2 (by decide)]
    · rw [frF k2 (by decide)]
    · rw [p91, upd_n (by omega)]
  have lw2 : LOW h1 h2 := by
    refine ⟨?_, fun j hj => ⟨?_, ?_, ?_, ?_, ?_⟩, ?_, fun j hj => ⟨?_, ?_, ?_, ?_, ?_⟩, ?_⟩
    all_goals (try rw [frF k2 (by decide)])
    · exact p900
    · rw [p91, upd_n (by omega)]
    · rw [p92, upd_n (by omega)]
  have mk2 := MKt_lw mk1 k2 rfl rfl lw2
  try dsimp only [jrI, jrN, jrA, jisr, jnul, jcat1]
  rw [jgf_ob (c := 12) (by simp only [gM g2]) rfl, show fV h2 81 28 = .ref 93 by simp only [gN g2], jrc_ob (by simp only [gM g2])]
  change jex X (d + 5 + 1) 89 _ _ _
  refine c_isWord5 g2 mk2 (fun q8 => ?_) (fun q8 => ?_)
  · try dsimp only [jrI, jrN, jrA, jisr, jnul, jcat1]
    refine jif_n (by decide) ?_
    rw [jwI_ar (n := 820) (by simp only [gM g2])]
    refine ⟨ivk, ?_⟩
    rw [ick]
    have k3 : fr [93] [] h2 (wF h2 93 (upd (aF h2 93) (410 + ns t N k) 1)) := fr_wF (by decide) fr_rfl
    have p93 : aF (wF h2 93 (upd (aF h2 93) (410 + ns t N k) 1)) 93 = upd (aF h2 93) (410 + ns t N k) 1 := aF_wF (t := .int) (n := 820) (by simp only [gM g2])
    generalize wF h2 93 (upd (aF h2 93) (410 + ns t N k) 1) = h3 at *
    have k3' : fr MAr MFi h h3 := fr_trans kf2 (fr_mono (by decide) (by decide) k3)
    have g3 := G_fr g rfl k3'
    have im3 := IM h3 1 k3 p93
    rw [jrc_ob (by simp only [gM g3])]
    change jex X (d + 5 + 1) 89 _ _ _
    refine c_isWord5 g3 im3.1 (fun _ => ?_) (fun q => absurd q8 q)
    try dsimp only [jrI, jrN, jrA, jisr, jnul, jcat1]
    refine jif_n (by decide) ?_
    rw [jrc_ob (by simp only [gM g3])]
    have fw1 : fwl t N (k + 1) = 9 := by
      unfold fwl fol
      rw [if_neg (by omega), if_neg (by omega), if_neg (by omega), if_neg (by omega), if_neg (by omega), if_neg (by omega), if_neg (by omega), if_pos x8, if_pos q8]
    change jex X (d + 1 + 5) 79 _ _ _
    refine c_ifPass g3 st (by omega) im3 (by omega) (by omega) (fun h4 k4 sp => ?_) (fun hj2 h4 k4 im4 => ?_)
    · try dsimp only [jrI, jrN, jrA, jisr, jnul, jcat1]
      exact jif_t rfl ⟨by decide, HS h4 (fr_trans k3' (fr_mono (by decide) (by decide) k4)) sp⟩
    try dsimp only [jrI, jrN, jrA, jisr, jnul, jcat1]
    refine jif_n (by decide) ?_
    have q1 := q_name (t := t) (N := N) (k := k + 1) (by omega)
    refine R57 (k + 2) 1 h4 _ _ _ _ (by omega) hj2 (by rw [if_pos q8]) (by rw [if_pos q8]) (fr_trans k3' (fr_mono (by decide) (by decide) k4)) im4 (IFP_s ip1 (by omega)) (MOp_fr (MOp_fr mo2 k3 rfl rfl) k4 rfl rfl) (q1.2.2.1.trans q0.2.2.1) (Or.inr ?_) (fun _ => ?_) ?_
    · show xe t N (k + 1 + 1) = 9; rw [xe_s]; exact fw1
    · show xe t N (k + 1 + 1) = 9; rw [xe_s]; exact fw1
    · show tK t N (k + 1) ≠ 20; omega
  · try dsimp only [jrI, jrN, jrA, jisr, jnul, jcat1]
    refine jif_t rfl ?_
    rw [jwI_ar (n := 820) (by simp only [gM g2])]
    refine ⟨ivk, ?_⟩
    rw [ick]
    have k3 : fr [93] [] h2 (wF h2 93 (upd (aF h2 93) (410 + ns t N k) 0)) := fr_wF (by decide) fr_rfl
    have p93 : aF (wF h2 93 (upd (aF h2 93) (410 + ns t N k) 0)) 93 = upd (aF h2 93) (410 + ns t N k) 0 := aF_wF (t := .int) (n := 820) (by simp only [gM g2])
    generalize wF h2 93 (upd (aF h2 93) (410 + ns t N k) 0) = h3 at *
    have k3' : fr MAr MFi h h3 := fr_trans kf2 (fr_mono (by decide) (by decide) k3)
    have g3 := G_fr g rfl k3'
    have im3 := IM h3 0 k3 p93
    rw [jrc_ob (by simp only [gM g3])]
    change jex X (d + 5 + 1) 89 _ _ _
    refine c_isWord5 g3 im3.1 (fun q => absurd q q8) (fun _ => ?_)
    try dsimp only [jrI, jrN, jrA, jisr, jnul, jcat1]
    refine jif_t rfl ?_
    exact R57 (k + 1) 0 h3 _ _ _ _ (by omega) (by omega) (by rw [if_neg q8]) (by rw [if_neg q8]) k3' im3 ip1 (MOp_fr mo2 k3 rfl rfl) q0.2.2.1 (Or.inl x8) (fun q => absurd q q8) (by show tK t N k ≠ 20; omega)
end IFT
