/-! READING: an end, by the model -/
section EDT
variable {X : JX} {d : Nat} {Q : JQ} {h bh : JH} {N k K : Nat} {t : Nat → Int}
theorem c_endTold (g : G h) (st : Spt t N K) (hk : k ≤ K) (al : ALLm bh h t N k) (h6 : tK t N k = 6) (fw : fwl t N k ≠ 0) (HS : ∀ h1, fr MAr MFi h h1 → SPD bh h1 t N K → Q (some (.int 0)) h1) (HC : k + 1 ≤ K → xe t N (k + 1) = 1 → ∀ h1, fr MAr MFi h h1 → ALLm bh h1 t N (k + 1) → Q (some (.int 1)) h1) : jex X (d + 6) 91 [.ref 81] h Q := by
  obtain ⟨mk, mn, ma, mf, ms, mo⟩ := al
  have ok : OKt t N k := fun j hj => st.1 j (by omega)
  have K4 := Spt_400 st
  have fi := fwl_inv fw
  have ne : xo t N k ≠ [] ∧ fwl t N k = 1 := by
    rcases fi with ⟨_, fi⟩ | fi
    · rcases fi with fi | fi | fi | fi | fi
      · omega
      · omega
      · omega
      · omega
      · exact ⟨fi.2.2, fi.2.1⟩
    · omega
  have lp := List.length_pos_iff.mpr ne.1
  have l6 := xo_len k ok
  have hm := xo_m k _ (hd0_mem ne.1)
  have hst : isSt t N (hd0 (xo t N k)) = true := isSt_t (by omega)
  have lt := ns_lt hm.1 hst
  have nk := ns_le (t := t) (N := N) k
  have op := mo.2 0 lp
  rw [show (xo t N k).getD 0 0 = hd0 (xo t N k) from rfl, Nat.sub_zero] at op
  have msh := ms.2 _ hm.1 hst
  have i1 : vp_in 1 2 := by rw [vp_inI]; decide
  have c1 : (1 : Int32).toNatClampNeg = 1 := rfl
  have el : nI (xo t N k).length - 1 = nI ((xo t N k).length - 1) := pk_sub (b := 1) lp
  have ivl : vp_in (nI ((xo t N k).length - 1)) 6 := by rw [vp_inI, nI_toInt (by omega)]; omega
  have icl : (nI ((xo t N k).length - 1)).toNatClampNeg = (xo t N k).length - 1 := nI_clamp (by omega)
  have ivc : ∀ c, c < 410 → vp_in (nI (410 + c)) 820 := fun c hc => by rw [vp_inI, nI_toInt (by omega)]; omega
  have icc : ∀ c, c < 410 → (nI (410 + c)).toNatClampNeg = 410 + c := fun c hc => nI_clamp (by omega)
  have ivh := ivc (ns t N (hd0 (xo t N k))) (by omega)
  have ich := icc (ns t N (hd0 (xo t N k))) (by omega)
  have ivk := ivc (ns t N k) (by omega)
  have ick := icc (ns t N k) (by omega)
  have qn := q_name (t := t) (N := N) (k := k) (by omega)
  have exo : xo t N (k + 1) = (xo t N k).tail := by rw [xo_s, if_neg (by omega), if_neg (by omega), if_pos h6]
  have etl : tld t N (k + 1) = tld t N k := by funext j; show (if tK t N k = 15 ∧ j = nnum t N (la t N k + 1) then true else tld t N k j) = _; rw [if_neg (by omega)]
  have inj : ∀ i, i < k → isSt t N i = true → i ≠ hd0 (xo t N k) → ns t N i ≠ ns t N (hd0 (xo t N k)) := by
    intro i hi si q
    rcases Nat.lt_or_gt_of_ne q with q | q
    · have := ns_lt q si; omega
    · have := ns_lt q hst; omega
  -- behind all writing
  have FIN : ∀ h2 : JH, fr [90, 91, 92, 94, 95] [(81, 40)] h h2 → fI h2 81 40 = nI ((xo t N k).length - 1) → aF h2 90 1 = nI (ns t N (k + 1)) → aF h2 90 0 = aF h 90 0 → (∀ j, j < 410 + ns t N k → aF h2 91 j = aF h 91 j ∧ aF h2 92 j = aF h 92 j ∧ aF h2 94 j = aF h 94 j) → (∀ j, j < 410 + ns t N k → j ≠ 410 + ns t N (hd0 (xo t N k)) → aF h2 95 j = aF h 95 j) → aF h2 95 (410 + ns t N (hd0 (xo t N k))) = nI (ns t N (k + 1)) → (isSt t N k = true → MS1 h2 t N (k + 1) k) → jrc h2 (.ref 81) 12 (jex X (d + 5) 79 [.ref 81] h2 fun r44 h43 => (jrI r44 fun x45 => ((x45 : Int32) &&& 1 = x45 ∧ (Q (some (.int x45)) h43)))) := by
    intro h2 k2 q40 q90 q900 qa qb qc qd
    have k2' : fr MAr MFi h h2 := fr_mono (by decide) (by decide) k2
    have g2 := G_fr g rfl k2'
    have lw2 : LOW h h2 := by
      refine ⟨?_, fun j hj => ⟨?_, ?_, ?_, ?_, ?_⟩, ?_, fun j hj => ⟨?_, ?_, ?_, ?_, ?_⟩, ?_⟩
      all_goals (try rw [frF k2 (by decide)])
      · exact q900
      · exact (qa j (by omega)).1
      · exact (qa j (by omega)).2.1
      · exact (qa j (by omega)).2.2
      · exact qb j (by omega) (by omega)
    have mk2 := MKt_lw mk k2 rfl rfl lw2
    rw [jrc_ob (by simp only [gM g2])]
    refine c_pass g2 st hk mk2 (hft_pw fw (fun q => by omega) (fun q => by omega)) (fun h3 k3 sp => ?_) (fun ltK o0 h3 k3 mk3 => ?_)
    · try dsimp only [jrI, jrN, jrA, jisr, jnul, jcat1]
      exact ⟨by decide, HS h3 (fr_trans k2' (fr_mono (by decide) (by decide) k3)) sp⟩
    · try dsimp only [jrI, jrN, jrA, jisr, jnul, jcat1]
      refine ⟨by decide, HC (by omega) (by rw [xe_s]; exact ne.2) h3 (fr_trans k2' (fr_mono (by decide) (by decide) k3)) ⟨mk3, ?_, ?_, ?_, ?_, ?_⟩⟩
      · rw [qn.1, etl]
        exact MN_fr (MN_fr mn k2 rfl) k3 rfl
      · have w := MAt_fr (MAt_fr ma k2 rfl) k3 rfl
        refine ⟨by rw [qn.2.2.1]; exact w.1, fun i hi ai => ?_⟩
        refine w.2 i ?_ ai
        refine Classical.byContradiction (fun q => ?_)
        rw [show i = k by omega, qn.2.1] at ai
        cases ai
      · have w := MFl_fr (MFl_fr mf k2 rfl) k3 rfl
        unfold MFl at w ⊢
        rw [qn.2.2.2]
        exact w
      · refine MSx_fr ?_ k3 rfl
        refine ⟨q90, fun i hi si => ?_⟩
        by_cases ei : i = k
        · subst ei
          exact qd si
        · have hi' : i < k := by omega
          have li := ns_lt hi' si
          have m1 := ms.2 i hi' si
          have qai := qa (410 + ns t N i) (by omega)
          have a3 : aF h2 93 = aF h 93 := frF k2 (by decide)
          unfold MS1 at m1 ⊢
          rw [qai.1, qai.2.1, qai.2.2, a3]
          by_cases eh : i = hd0 (xo t N k)
          · refine ⟨m1.1, m1.2.1, m1.2.2.1, fun q => by rw [eh] at q; omega, m1.2.2.2.2.1, m1.2.2.2.2.2.1, fun q => by rw [eh] at q; omega, fun _ _ => ?_⟩
            rw [q_cl, if_pos (Or.inr ⟨Or.inl h6, eh⟩), eh]
            exact qc
          · rw [qb (410 + ns t N i) (by omega) (by have := inj i hi' si eh; omega), q_cl, if_neg (by omega)]
            exact m1
      · refine MOp_fr ?_ k3 rfl rfl
        rw [exo]
        refine ⟨by rw [q40, List.length_tail], fun j hj => ?_⟩
        rw [List.length_tail] at hj ⊢
        have oj := mo.2 (j + 1) (by omega)
        have gj : (xo t N k).tail.getD j 0 = (xo t N k).getD (j + 1) 0 := by
          cases e : xo t N k with
          | nil => exact absurd e ne.1
          | cons a l => rfl
        rw [gj, show (xo t N k).length - 1 - 1 - j = (xo t N k).length - 1 - (j + 1) by omega]
        have xg := xo_g (t := t) (N := N) (k := k) (j := j + 1) (by omega)
        refine OPn_eq (m := ns t N k) oj (ns_mono (by omega)) ?_ ?_ (fun z hz => (qa z (by omega)).1)
        · rw [frF k2 (by decide)]
        · rw [frF k2 (by decide)]
  rw [jE_X12_endTold]
  refine jT_X12_endTold_0 ?_
  rw [jgI_ob (c := 12) (by simp only [gM g]) rfl, mo.1, el, jpI_ob (c := 12) (by simp only [gM g]) rfl]
  have k0 : fr [] [(81, 40)] h (sV h 81 40 (.int (nI ((xo t N k).length - 1)))) := fr_sV (by decide) fr_rfl
  have z40 : fI (sV h 81 40 (.int (nI ((xo t N k).length - 1)))) 81 40 = nI ((xo t N k).length - 1) := by simp (decide := true) only [jgI_ob, jgf_ob, jgL_ob, jpI_ob, jpL_ob, jpR_ob, jpN_ob, jrc_ob, obj_sV, obj_wF, obj_wG, obj_wR, arr_sV, arr_wF, arr_wG, arr_wR, arL_sV, arL_wF, arL_wG, arL_wR, arR_sV, arR_wF, arR_wG, arR_wR, fI_sV (c := 0), fI_sV (c := 1), fI_sV (c := 2), fI_sV (c := 4), fI_sV (c := 5), fI_sV (c := 7), fI_sV (c := 8), fI_sV (c := 9), fI_sV (c := 10), fI_sV (c := 11), fI_sV (c := 12), fI_sV (c := 6), fL_sV (c := 9), fL_sV (c := 12), fI_sV_k, fL_sV_k, fV_sV_k, fI_wF, fI_wG, fI_wR, fL_wF, fL_wG, fL_wR, fV_wF, fV_wG, fV_wR, aF_sV, aG_sV, aR_sV, aF_wG, aF_wR, aG_wF, aG_wR, aR_wF, aR_wG, gM g]
  generalize sV h 81 40 (.int (nI ((xo t N k).length - 1))) = h0 at *
  have g0 := G_fr g rfl k0
  have e105 : aF h0 105 = aF h 105 := frF k0 (by decide)
  have e106 : aF h0 106 = aF h 106 := frF k0 (by decide)
  have e90 : aF h0 90 = aF h 90 := frF k0 (by decide)
  have e91 : aF h0 91 = aF h 91 := frF k0 (by decide)
  have e92 : aF h0 92 = aF h 92 := frF k0 (by decide)
  have e94 : aF h0 94 = aF h 94 := frF k0 (by decide)
  have e95 : aF h0 95 = aF h 95 := frF k0 (by decide)
  -- an if's or an else's end: no step; its step at c goes on here
  have IFE : ∀ (c : Nat), c = ns t N (hd0 (xo t N k)) → tK t N (hd0 (xo t N k)) ≠ 5 → jwI h0 (.ref 95) (nI (410 + c)) (nI (ns t N k)) (fun h14 => (jrc h14 (.ref 81) 12 (jex X (d + 5) 79 [.ref 81] h14 fun r16 h15 => (jrI r16 fun x17 => ((x17 : Int32) &&& 1 = x17 ∧ (Q (some (.int x17)) h15)))))) := by
    intro c ec n5
    have ens : ns t N (k + 1) = ns t N k := by
      rw [q_ns, show isSt t N k = false from decide_eq_false (fun q => by omega)]
      rfl
    rw [ec, jwI_ar (n := 820) (by simp only [gM g0])]
    refine ⟨ivh, ?_⟩
    rw [ich]
    have kW : fr [95] [] h0 (wF h0 95 (upd (aF h0 95) (410 + ns t N (hd0 (xo t N k))) (nI (ns t N k)))) := fr_wF (by decide) fr_rfl
    have p95 : aF (wF h0 95 (upd (aF h0 95) (410 + ns t N (hd0 (xo t N k))) (nI (ns t N k)))) 95 = upd (aF h0 95) (410 + ns t N (hd0 (xo t N k))) (nI (ns t N k)) := aF_wF (t := .int) (n := 820) (by simp only [gM g0])
    generalize wF h0 95 (upd (aF h0 95) (410 + ns t N (hd0 (xo t N k))) (nI (ns t N k))) = h2 at *
    refine FIN h2 (fr_trans (fr_mono (by decide) (fun _ q => q) k0) (fr_mono (by decide) (by decide) kW)) ?_ ?_ (by rw [frF kW (by decide), e90]) (fun j hj => ⟨?_, ?_, ?_⟩) (fun j hj hn => ?_) ?_ (fun q => ?_)
    · rw [frI kW (by decide) (by decide)]; exact z40
    · rw [frF kW (by decide), e90, ens]; exact ms.1
    · rw [frF kW (by decide), e91]
    · rw [frF kW (by decide), e92]
    · rw [frF kW (by decide), e94]
    · rw [p95, upd_n hn, e95]
    · rw [p95, upd_s, ens]
    · have := of_decide_eq_true q
      omega
  rcases hm.2 with t5 | t5 | t5
  · -- repeat
    have o105 := op.1 (Or.inl t5)
    have kd : aF h 91 (410 + ns t N (hd0 (xo t N k))) = 1 := by
      rw [msh.1]; unfold skd; rw [if_neg (by omega), if_pos t5]
    have si : isSt t N k = true := decide_eq_true (Or.inr (Or.inr (Or.inr (Or.inr ⟨h6, t5⟩))))
    have ens : ns t N (k + 1) = ns t N k + 1 := by rw [q_ns, si]; rfl
    simp (decide := true) only [jgI_ob, jgf_ob, jgL_ob, jpI_ob, jpL_ob, jpR_ob, jpN_ob, jrc_ob, obj_sV, obj_wF, obj_wG, obj_wR, arr_sV, arr_wF, arr_wG, arr_wR, arL_sV, arL_wF, arL_wG, arL_wR, arR_sV, arR_wF, arR_wG, arR_wR, fI_sV (c := 0), fI_sV (c := 1), fI_sV (c := 2), fI_sV (c := 4), fI_sV (c := 5), fI_sV (c := 7), fI_sV (c := 8), fI_sV (c := 9), fI_sV (c := 10), fI_sV (c := 11), fI_sV (c := 12), fI_sV (c := 6), fL_sV (c := 9), fL_sV (c := 12), fI_sV_k, fL_sV_k, fV_sV_k, fI_wF, fI_wG, fI_wR, fL_wF, fL_wG, fL_wR, fV_wF, fV_wG, fV_wR, aF_sV, aG_sV, aR_sV, aF_wG, aF_wR, aG_wF, aG_wR, aR_wF, aR_wG, kC, kM, gM g0, gN g0, z40, ivl, icl, true_and, e105, o105, ivh, ich, e91, kd, jif_T]
    change jex X (d + 4 + 1) 81 _ _ _
    refine c_newStep g0 (m := ns t N k) (by rw [e90]; exact ms.1) (by omega) (fun h1 k1 p90 p91 p92 p900 => ?_)
    have g1 := G_fr g0 rfl k1
    have b94 : aF h1 94 = aF h 94 := by rw [frF k1 (by decide), e94]
    have b95 : aF h1 95 = aF h 95 := by rw [frF k1 (by decide), e95]
    try dsimp only [jrI, jrN, jrA, jisr, jnul, jcat1]
    have esub : nI (410 + ns t N (hd0 (xo t N k))) - 410 + 1 = nI (ns t N (hd0 (xo t N k)) + 1) := by
      rw [show nI (410 + ns t N (hd0 (xo t N k))) - 410 = nI (410 + ns t N (hd0 (xo t N k)) - 410) from pk_sub (b := 410) (by omega), nI_1, Nat.add_sub_cancel_left]
    simp (decide := true) only [jgf_ob (c := 12), gM g1, gN g1, jaI_ar (p := 94) (n := 820), jwI_ar (p := 94) (n := 820), jwI_ar (p := 95) (n := 820), jaI_ar (p := 90) (n := 2), obj_wF, arr_wF, fV_wF, ivh, ich, ivk, ick, i1, c1, true_and, aF_wF_ne, aF_wF (p := 95) (t := .int) (n := 820), b94, b95, p90, esub]
    refine FIN _ (fr_trans (fr_mono (by decide) (fun _ q => q) k0) (fr_trans (fr_mono (by decide) (by decide) k1) (fr_wF (by decide) (fr_wF (by decide) (fr_wF (by decide) fr_rfl))))) ?_ ?_ (by simp (decide := true) only [aF_wF_ne]; rw [p900, e90]) (fun j hj => ⟨?_, ?_, ?_⟩) (fun j hj hn => ?_) ?_ (fun _ => ?_)
    · simp (decide := true) only [jgI_ob, jgf_ob, jgL_ob, jpI_ob, jpL_ob, jpR_ob, jpN_ob, jrc_ob, obj_sV, obj_wF, obj_wG, obj_wR, arr_sV, arr_wF, arr_wG, arr_wR, arL_sV, arL_wF, arL_wG, arL_wR, arR_sV, arR_wF, arR_wG, arR_wR, fI_sV (c := 0), fI_sV (c := 1), fI_sV (c := 2), fI_sV (c := 4), fI_sV (c := 5), fI_sV (c := 7), fI_sV (c := 8), fI_sV (c := 9), fI_sV (c := 10), fI_sV (c := 11), fI_sV (c := 12), fI_sV (c := 6), fL_sV (c := 9), fL_sV (c := 12), fI_sV_k, fL_sV_k, fV_sV_k, fI_wF, fI_wG, fI_wR, fL_wF, fL_wG, fL_wR, fV_wF, fV_wG, fV_wR, aF_sV, aG_sV, aR_sV, aF_wG, aF_wR, aG_wF, aG_wR, aR_wF, aR_wG, frI k1]
      exact z40
    · simp (decide := true) only [aF_wF_ne]
      rw [p90, ens]
    · simp (decide := true) only [aF_wF_ne]
      rw [p91, upd_n (by omega), e91]
    · simp (decide := true) only [aF_wF_ne]
      rw [p92, upd_n (by omega), e92]
    · simp (decide := true) only [aF_wF_ne, aF_wF (p := 94) (t := .int) (n := 820), gM g1]
      exact upd_n (by omega)
    · simp (decide := true) only [aF_wF (p := 95) (t := .int) (n := 820), arr_wF, gM g1]
      rw [upd_n hn, upd_n (by omega)]
    · simp (decide := true) only [aF_wF (p := 95) (t := .int) (n := 820), arr_wF, gM g1]
      rw [upd_s, ens]
    · unfold MS1
      simp (decide := true) only [aF_wF_ne, aF_wF (p := 95) (t := .int) (n := 820), aF_wF (p := 94) (t := .int) (n := 820), arr_wF, gM g1]
      rw [p91, p92, upd_s, upd_s, upd_s]
      refine ⟨?_, fun q => by omega, fun _ => ?_, fun q => by omega, fun q => by omega, fun q => by omega, fun _ => ⟨?_, ?_⟩, fun q => by omega⟩
      · unfold skd; rw [if_neg (by omega), if_neg (by omega), if_neg (by omega), if_neg (by omega)]
      · rw [e92]; exact msh.2.1 (by omega)
      · exact (msh.2.2.2.2.1 t5).2
      · rw [upd_n (by omega), upd_s]
  · -- if
    have o105 := op.1 (Or.inr t5)
    have o106 := op.2.1 t5
    have kd : aF h 91 (410 + ns t N (hd0 (xo t N k))) = 2 := by
      rw [msh.1]; unfold skd; rw [if_neg (by omega), if_neg (by omega), if_pos t5]
    have ms1 := ms.1
    rw [← e90] at ms1
    simp (decide := true) only [jgI_ob, jgf_ob, jgL_ob, jpI_ob, jpL_ob, jpR_ob, jpN_ob, jrc_ob, obj_sV, obj_wF, obj_wG, obj_wR, arr_sV, arr_wF, arr_wG, arr_wR, arL_sV, arL_wF, arL_wG, arL_wR, arR_sV, arR_wF, arR_wG, arR_wR, fI_sV (c := 0), fI_sV (c := 1), fI_sV (c := 2), fI_sV (c := 4), fI_sV (c := 5), fI_sV (c := 7), fI_sV (c := 8), fI_sV (c := 9), fI_sV (c := 10), fI_sV (c := 11), fI_sV (c := 12), fI_sV (c := 6), fL_sV (c := 9), fL_sV (c := 12), fI_sV_k, fL_sV_k, fV_sV_k, fI_wF, fI_wG, fI_wR, fL_wF, fL_wG, fL_wR, fV_wF, fV_wG, fV_wR, aF_sV, aG_sV, aR_sV, aF_wG, aF_wR, aG_wF, aG_wR, aR_wF, aR_wG, kC, kM, gM g0, gN g0, z40, ivl, icl, true_and, e105, o105, ivh, ich, e91, kd, jif_F, e106, o106, i1, c1, ms1, jif_T]
    have w := IFE _ rfl (by omega)
    rw [jwI_ar (n := 820) (by simp only [gM g0])] at w
    rw [ich] at w
    have w2 := w.2
    rw [jrc_ob (by simp only [obj_wF, gM g0])] at w2
    exact w2
  · -- else
    obtain ⟨o106, b, b1, b2, b3⟩ := op.2.2 t5
    have ivb := ivc b (by omega)
    have icb := icc b (by omega)
    have ms1 := ms.1
    rw [← e90] at ms1
    have nlt : ¬ nI (410 + ns t N (hd0 (xo t N k))) < 0 := nI_pos (by omega)
    simp (decide := true) only [jgI_ob, jgf_ob, jgL_ob, jpI_ob, jpL_ob, jpR_ob, jpN_ob, jrc_ob, obj_sV, obj_wF, obj_wG, obj_wR, arr_sV, arr_wF, arr_wG, arr_wR, arL_sV, arL_wF, arL_wG, arL_wR, arR_sV, arR_wF, arR_wG, arR_wR, fI_sV (c := 0), fI_sV (c := 1), fI_sV (c := 2), fI_sV (c := 4), fI_sV (c := 5), fI_sV (c := 7), fI_sV (c := 8), fI_sV (c := 9), fI_sV (c := 10), fI_sV (c := 11), fI_sV (c := 12), fI_sV (c := 6), fL_sV (c := 9), fL_sV (c := 12), fI_sV_k, fL_sV_k, fV_sV_k, fI_wF, fI_wG, fI_wR, fL_wF, fL_wG, fL_wR, fV_wF, fV_wG, fV_wR, aF_sV, aG_sV, aR_sV, aF_wG, aF_wR, aG_wF, aG_wR, aR_wF, aR_wG, kC, kM, gM g0, gN g0, z40, ivl, icl, true_and, e105, b2, ivb, icb, e91, b3, jif_F, e106, o106, i1, c1, ms1, nlt, ivh, ich]
    have w := IFE _ rfl (by omega)
    rw [jwI_ar (n := 820) (by simp only [gM g0])] at w
    rw [ich] at w
    have w2 := w.2
    rw [jrc_ob (by simp only [obj_wF, gM g0])] at w2
    exact w2
end EDT
