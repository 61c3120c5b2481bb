/-! READING: a repeat, by the model -/
section RPT
variable {X : JX} {d : Nat} {Q : JQ} {h bh : JH} {N k K : Nat} {t : Nat → Int}
theorem ptd_iff {b : Nat} (hb : b ≤ N) : (ptd t N b = true → ptE t N b < nmE t N b) ∧ (ptd t N b = false → nmE t N b = ptE t N b) := by
  refine ⟨fun c => ?_, fun c => ?_⟩
  · unfold nmE
    rw [if_pos c]
    exact tkE_ge
  · unfold nmE
    rw [c]
    rfl
theorem c_repeatTold (g : G h) (st : Spt t N K) (hk : k ≤ K) (al : ALLm bh h t N k) (h5 : tK t N k = 5) (fw : fwl t N k ≠ 0) (rm : (xo t N k).length < 6) (HS : ∀ h1, fr MAr MFi h h1 → SPD bh h1 t N K → Q (some (.int 0)) h1) (HC : k + 2 ≤ K → xe t N (k + 2) = 1 → ∀ h1, fr MAr MFi h h1 → ALLm bh h1 t N (k + 2) → Q (some (.int 1)) h1) : jex X (d + 6) 87 [.ref 81] h Q := by
  obtain ⟨mk, mn, ma, mf, ms, mo⟩ := al
  have ok : OKt t N k := fun j hj => st.1 j (by omega)
  have K4 := Spt_400 st
  have fi := fwl_inv fw
  have nk := ns_le (t := t) (N := N) k
  have i1 : vp_in 1 2 := by rw [vp_inI]; decide
  have c1 : (1 : Int32).toNatClampNeg = 1 := rfl
  rw [jE_X12_repeatTold]
  refine jT_X12_repeatTold_0 ?_
  rw [jgI_ob (c := 12) (by simp only [gM g]) rfl, mk.1.1, jrc_ob (by simp only [gM g])]
  refine c_pass g st hk mk (hft_pw fw (fun q => by omega) (fun _ => rm)) (fun h1 k1 sp => ?_) (fun lt o0 h1 k1 mk1 => ?_)
  · try dsimp only [jrI, jrN, jrA, jisr, jnul, jcat1]
    exact jif_t rfl ⟨by decide, HS h1 (fr_mono (by decide) (by decide) k1) sp⟩
  try dsimp only [jrI, jrN, jrA, jisr, jnul, jcat1]
  refine jif_n (by decide) ?_
  have g1 := G_fr g rfl k1
  have ok1 : OKt t N (k + 1) := fun j hj => st.1 j (by omega)
  have x7 : xe t N (k + 1) = 7 := (xe_2 ok1).2.2 h5
  have mn1 := MN_fr mn k1 rfl
  have ma1 := MAt_fr ma k1 rfl
  have mf1 := MFl_fr mf k1 rfl
  have ms1 := MSx_fr ms k1 rfl
  have mo1 := MOp_fr mo k1 rfl rfl
  have q0 := q_name (t := t) (N := N) (k := k) (by omega)
  have et1 : tld t N (k + 1) = tld t N k := by funext j; show (if tK t N k = 15 ∧ j = nnum t N (la t N k + 1) then true else tld t N k j) = _; rw [if_neg (by omega)]
  have exo1 : xo t N (k + 1) = k :: xo t N k := by rw [xo_s, if_pos (by omega)]
  have ens1 : ns t N (k + 1) = ns t N k + 1 := by rw [q_ns, isSt_t (by omega)]; rfl
  obtain ⟨kk, k0', k1', k2', k3', k4'⟩ := mk_k mk1
  rw [jgI_ob (c := 12) (by simp only [gM g1]) rfl, kk]
  refine ⟨fun c2 => ?_, fun c2 => ?_⟩
  case refine_2 =>
    have f0 : fwl t N (k + 1) = 0 := Classical.byContradiction (fun q => by
      have f2 := fwl_inv q
      have n3 : tK t N (k + 1) ≠ 3 := fun w => c2 (k2'.2 w)
      omega)
    have e1 : hft t N (k + 1) = 1 := by unfold hft; rw [if_pos f0]
    change jgI h1 (.ref 81) 12 20 fun x43 => (jrc h1 (.ref 81) 12 (jex X (d + 4 + 1) 77 [.ref 81, .int (nI 1), .int x43] h1 fun r45 h44 => (jrI r45 fun x46 => ((fun (x46 : Int32) (h44 : JH) => ((x46 : Int32) &&& 1 = x46 ∧ (Q (some (.int x46)) h44))) x46 h44))))
    exact c_mstopK g1 st (by omega) mk1 (by decide) e1 (fun _ w => by have := w.2.1; omega) (fun h2 k2 sp => ⟨by decide, HS h2 (fr_trans (fr_mono (by decide) (by decide) k1) (fr_mono (by decide) (by decide) k2)) sp⟩)
  have c3 := k2'.1 c2
  have fw1 : fwl t N (k + 1) = 1 := by
    unfold fwl fol
    rw [if_neg (by omega), if_neg (by omega), if_neg (by omega), if_neg (by omega), if_neg (by omega), if_neg (by omega), if_pos x7, if_pos c3]
  have q1 := q_step (t := t) (N := N) (k := k + 1) (by omega)
  have enm : nms t N (k + 2) = nms t N k := by
    show nms t N (k + 1 + 1) = _
    rw [nms_s, if_neg (by omega), q0.1]
  have ia1 : isAt t N (k + 1) = false := decide_eq_false (fun q => q.2.2 x7)
  have ena : na t N (k + 2) = na t N k := by
    show na t N (k + 1) + (if isAt t N (k + 1) = true then 1 else 0) = _
    rw [ia1, q0.2.2.1]; rfl
  have hN := mk1.2.2.1.2.1
  have n3 := tK_num c3
  have bN : tS t N (k + 1) < N := n3.1
  have pd := ptd_iff (t := t) (N := N) (b := tS t N (k + 1)) (by omega)
  have hp : tS t N (k + 1) ≤ ptE t N (tS t N (k + 1)) := ptE_ge
  have hz : ptE t N (tS t N (k + 1)) ≤ nmE t N (tS t N (k + 1)) := nmE_ge
  have hzN := nmE_le (t := t) (Nat.le_of_lt bN)
  have f20 : fI h1 81 20 = nI (tS t N (k + 1)) := mk1.1.1
  have f21 : fI h1 81 21 = nI (nmE t N (tS t N (k + 1))) := by
    rw [mk1.1.2.1]
    unfold tkZ
    rw [if_neg (by omega), if_neg (by rw [n3.2.1]; decide), if_pos n3.2.2.1]
  -- the step's making
  have RST : ∀ (h2 : JH) (v : Int32), fr [] [(81, 2), (81, 3)] h1 h2 → MFl h2 t N (k + 2) → (ptd t N (tS t N (k + 1)) = false → v = nI (whl t (tS t N (k + 1)) (ptE t N (tS t N (k + 1)) - tS t N (k + 1)))) → jrc h2 (.ref 81) 12 (jex X (d + 5) 81 [.ref 81, .int 1, .int (nI (tS t N k))] h2 fun r3 h2 => (jrI r3 fun x4 => (jgf h2 (.ref 81) 12 28 fun v5 => (jwI h2 v5 x4 v fun h6 => (jgf h6 (.ref 81) 12 29 fun v7 => (jgI h6 (.ref 81) 12 40 fun x8 => (jwI h6 v7 x4 x8 fun h9 => (jgf h9 (.ref 81) 12 41 fun v10 => (jgI h9 (.ref 81) 12 40 fun x11 => (jwI h9 v10 x11 x4 fun h12 => (jgI h12 (.ref 81) 12 40 fun x13 => (jpf h12 (.ref 81) 12 40 (.int (x13 + 1)) fun h14 => (jrc h14 (.ref 81) 12 (jex X (d + 5) 79 [.ref 81] h14 fun r16 h15 => (jrI r16 fun x17 => ((x17 : Int32) &&& 1 = x17 ∧ (Q (some (.int x17)) h15))))))))))))))))) := by
    intro h2 v kf mf2 hv
    have kf' : fr MAr MFi h h2 := fr_trans (fr_mono (by decide) (by decide) k1) (fr_mono (by decide) (by decide) kf)
    have g2 := G_fr g rfl kf'
    have mk2 := MKt_fr mk1 kf rfl rfl
    have ms2 := MSx_fr ms1 kf rfl
    have mo2 := MOp_fr mo1 kf rfl rfl
    rw [jrc_ob (by simp only [gM g2])]
    change jex X (d + 4 + 1) 81 _ _ _
    refine c_newStep g2 (m := ns t N k) ms2.1 (by omega) (fun h3 k3 p90 p91 p92 p900 => ?_)
    have g3 := G_fr g2 rfl k3
    have f40 : fI h3 81 40 = nI (xo t N k).length := by rw [frI k3 (by decide) (by decide)]; exact mo2.1
    have ivk : vp_in (nI (410 + ns t N k)) 820 := by rw [vp_inI, nI_toInt (by omega)]; omega
    have ick : (nI (410 + ns t N k)).toNatClampNeg = 410 + ns t N k := nI_clamp (by omega)
    have ivl : vp_in (nI (xo t N k).length) 6 := by rw [vp_inI, nI_toInt (by omega)]; omega
    have icl : (nI (xo t N k).length).toNatClampNeg = (xo t N k).length := nI_clamp (by omega)
    try dsimp only [jrI, jrN, jrA, jisr, jnul, jcat1]
    simp (decide := true) only [jgI_ob, jgf_ob, jgL_ob, jpI_ob, jpL_ob, jpR_ob, jpN_ob, jrc_ob, obj_sV, obj_wF, obj_wG, obj_wR, arr_sV, arr_wF, arr_wG, arr_wR, arL_sV, arL_wF, arL_wG, arL_wR, arR_sV, arR_wF, arR_wG, arR_wR, fI_sV (c := 0), fI_sV (c := 1), fI_sV (c := 2), fI_sV (c := 4), fI_sV (c := 5), fI_sV (c := 7), fI_sV (c := 8), fI_sV (c := 9), fI_sV (c := 10), fI_sV (c := 11), fI_sV (c := 12), fI_sV (c := 6), fL_sV (c := 9), fL_sV (c := 12), fI_sV_k, fL_sV_k, fV_sV_k, fI_wF, fI_wG, fI_wR, fL_wF, fL_wG, fL_wR, fV_wF, fV_wG, fV_wR, aF_sV, aG_sV, aR_sV, aF_wG, aF_wR, aG_wF, aG_wR, aR_wF, aR_wG, kC, kM, gM g3, gN g3, f40, ivk, ick, ivl, icl, true_and, aF_wF_ne, nI_1]
    refine (fun S : (∀ h4, fr [93, 94, 105] [(81, 40)] h3 h4 → fI h4 81 40 = nI ((xo t N k).length + 1) → aF h4 93 = upd (aF h3 93) (410 + ns t N k) v → aF h4 94 = upd (aF h3 94) (410 + ns t N k) (nI (xo t N k).length) → aF h4 105 = upd (aF h3 105) (xo t N k).length (nI (410 + ns t N k)) → jex X (d + 5) 79 [.ref 81] h4 (fun r17 h16 => (jrI r17 fun x18 => ((x18 : Int32) &&& 1 = x18 ∧ (Q (some (.int x18)) h16))))) => S _ (fr_sV (by decide) (fr_wF (by decide) (fr_wF (by decide) (fr_wF (by decide) fr_rfl)))) (by simp (decide := true) only [jgI_ob, jgf_ob, jgL_ob, jpI_ob, jpL_ob, jpR_ob, jpN_ob, jrc_ob, obj_sV, obj_wF, obj_wG, obj_wR, arr_sV, arr_wF, arr_wG, arr_wR, arL_sV, arL_wF, arL_wG, arL_wR, arR_sV, arR_wF, arR_wG, arR_wR, fI_sV (c := 0), fI_sV (c := 1), fI_sV (c := 2), fI_sV (c := 4), fI_sV (c := 5), fI_sV (c := 7), fI_sV (c := 8), fI_sV (c := 9), fI_sV (c := 10), fI_sV (c := 11), fI_sV (c := 12), fI_sV (c := 6), fL_sV (c := 9), fL_sV (c := 12), fI_sV_k, fL_sV_k, fV_sV_k, fI_wF, fI_wG, fI_wR, fL_wF, fL_wG, fL_wR, fV_wF, fV_wG, fV_wR, aF_sV, aG_sV, aR_sV, aF_wG, aF_wR, aG_wF, aG_wR, aR_wF, aR_wG, gM g3]) (by simp (decide := true) only [jgI_ob, jgf_ob, jgL_ob, jpI_ob, jpL_ob, jpR_ob, jpN_ob, jrc_ob, obj_sV, obj_wF, obj_wG, obj_wR, arr_sV, arr_wF, arr_wG, arr_wR, arL_sV, arL_wF, arL_wG, arL_wR, arR_sV, arR_wF, arR_wG, arR_wR, fI_sV (c := 0), fI_sV (c := 1), fI_sV (c := 2), fI_sV (c := 4), fI_sV (c := 5), fI_sV (c := 7), fI_sV (c := 8), fI_sV (c := 9), fI_sV (c := 10), fI_sV (c := 11), fI_sV (c := 12), fI_sV (c := 6), fL_sV (c := 9), fL_sV (c := 12), fI_sV_k, fL_sV_k, fV_sV_k, fI_wF, fI_wG, fI_wR, fL_wF, fL_wG, fL_wR, fV_wF, fV_wG, fV_wR, aF_sV, aG_sV, aR_sV, aF_wG, aF_wR, aG_wF, aG_wR, aR_wF, aR_wG, kC, kM, gM g3, aF_wF_ne]) (by simp (decide := true) only [jgI_ob, jgf_ob, jgL_ob, jpI_ob, jpL_ob, jpR_ob, jpN_ob, jrc_ob, obj_sV, obj_wF, obj_wG, obj_wR, arr_sV, arr_wF, arr_wG, arr_wR, arL_sV, arL_wF, arL_wG, arL_wR, arR_sV, arR_wF, arR_wG, arR_wR, fI_sV (c := 0), fI_sV (c := 1), fI_sV (c := 2), fI_sV (c := 4), fI_sV (c := 5), fI_sV (c := 7), fI_sV (c := 8), fI_sV (c := 9), fI_sV (c := 10), fI_sV (c := 11), fI_sV (c := 12), fI_sV (c := 6), fL_sV (c := 9), fL_sV (c := 12), fI_sV_k, fL_sV_k, fV_sV_k, fI_wF, fI_wG, fI_wR, fL_wF, fL_wG, fL_wR, fV_wF, fV_wG, fV_wR, aF_sV, aG_sV, aR_sV, aF_wG, aF_wR, aG_wF, aG_wR, aR_wF, aR_wG, kC, kM, gM g3, aF_wF_ne]) (by simp (decide := true) only [jgI_ob, jgf_ob, jgL_ob, jpI_ob, jpL_ob, jpR_ob, jpN_ob, jrc_ob, obj_sV, obj_wF, obj_wG, obj_wR, arr_sV, arr_wF, arr_wG, arr_wR, arL_sV, arL_wF, arL_wG, arL_wR, arR_sV, arR_wF, arR_wG, arR_wR, fI_sV (c := 0), fI_sV (c := 1), fI_sV (c := 2), fI_sV (c := 4), fI_sV (c := 5), fI_sV (c := 7), fI_sV (c := 8), fI_sV (c := 9), fI_sV (c := 10), fI_sV (c := 11), fI_sV (c := 12), fI_sV (c := 6), fL_sV (c := 9), fL_sV (c := 12), fI_sV_k, fL_sV_k, fV_sV_k, fI_wF, fI_wG, fI_wR, fL_wF, fL_wG, fL_wR, fV_wF, fV_wG, fV_wR, aF_sV, aG_sV, aR_sV, aF_wG, aF_wR, aG_wF, aG_wR, aR_wF, aR_wG, kC, kM, gM g3, aF_wF_ne])) (fun h4 k4 q40 p93 p94 p105 => ?_)
    have k24 : fr [90, 91, 92, 93, 94, 105] [(81, 40)] h2 h4 := fr_trans (fr_mono (by decide) (by decide) k3) (fr_mono (by decide) (by decide) k4)
    have k4'' : fr MAr MFi h h4 := fr_trans kf' (fr_mono (by decide) (by decide) k24)
    have g4 := G_fr g rfl k4''
    have lw4 : LOW h2 h4 := by
      refine ⟨?_, fun j hj => ⟨?_, ?_, ?_, ?_, ?_⟩, ?_, fun j hj => ⟨?_, ?_, ?_, ?_, ?_⟩, ?_⟩
      all_goals (try rw [frF k24 (by decide)])
      · rw [frF k4 (by decide)]; exact p900
      · rw [frF k4 (by decide), p91, upd_n (by omega)]
      · rw [frF k4 (by decide), p92, upd_n (by omega)]
      · rw [p93, upd_n (by omega), frF k3 (by decide)]
      · rw [p94, upd_n (by omega), frF k3 (by decide)]
    have mk4 := MKt_lw mk2 k24 rfl rfl lw4
    refine c_pass g4 st (by omega) mk4 (hft_pw (by omega) (fun q => by omega) (fun q => by omega)) (fun h5 k5 sp => ?_) (fun lt5 o5 h5 k5 mk5 => ?_)
    · try dsimp only [jrI, jrN, jrA, jisr, jnul, jcat1]
      exact ⟨by decide, HS h5 (fr_trans k4'' (fr_mono (by decide) (by decide) k5)) sp⟩
    try dsimp only [jrI, jrN, jrA, jisr, jnul, jcat1]
    refine ⟨by decide, HC (by omega) (by show xe t N (k + 1 + 1) = 1; rw [xe_s]; exact fw1) h5 (fr_trans k4'' (fr_mono (by decide) (by decide) k5)) ⟨mk5, ?_, ?_, ?_, ?_, ?_⟩⟩
    · rw [enm, show tld t N (k + 2) = tld t N k from q1.2.2.2.2.trans et1]
      exact MN_fr (MN_fr (MN_fr mn1 kf rfl) k24 rfl) k5 rfl
    · have w := MAt_fr (MAt_fr (MAt_fr ma1 kf rfl) k24 rfl) k5 rfl
      refine ⟨by rw [ena]; exact w.1, fun i hi ai => ?_⟩
      refine w.2 i ?_ ai
      refine Classical.byContradiction (fun q => ?_)
      rcases (show i = k ∨ i = k + 1 by omega) with e | e
      · rw [e, q0.2.1] at ai; cases ai
      · rw [e, ia1] at ai; cases ai
    · exact MFl_fr (MFl_fr mf2 k24 rfl) k5 rfl
    · refine MSx_fr ?_ k5 rfl
      have ens2 : ns t N (k + 2) = ns t N k + 1 := q1.1.trans ens1
      have ecl : ∀ i, cl t N (k + 2) i = cl t N k i := fun i => by
        rw [q1.2.2.2.1 i, q_cl, if_neg (by omega)]
      refine ⟨by rw [frF k4 (by decide), p90, ens2], fun i hi si => ?_⟩
      have n1 : i ≠ k + 1 := fun e => by
        rw [e, isSt_f (by omega)] at si
        cases si
      by_cases ei : i = k
      · subst ei
        unfold MS1
        rw [frF k4 (by decide), frF k4 (by decide), p91, p92, p93, p94, upd_s, upd_s, upd_s, upd_s, ecl, cl_ge i i (Nat.le_refl _)]
        refine ⟨?_, fun _ => rfl, fun q => by omega, fun q => by omega, fun _ => ⟨hv, rfl⟩, fun q => by omega, fun q => by omega, fun _ q => absurd rfl q⟩
        unfold skd; rw [if_neg (by omega), if_pos h5]
      · have li := ns_lt (show i < k by omega) si
        refine MS1_cl (k := k) ?_ (ecl i)
        refine MS1_eq (h := h2) (m := ns t N k) (ms2.2 i (by omega) si) li (fun j hj => ?_) (fun j hj => ?_) (fun j hj => ?_) (fun j hj => ?_) (fun j hj => ?_)
        · rw [frF k4 (by decide), p91, upd_n (by omega)]
        · rw [frF k4 (by decide), p92, upd_n (by omega)]
        · rw [p93, upd_n (by omega), frF k3 (by decide)]
        · rw [p94, upd_n (by omega), frF k3 (by decide)]
        · rw [frF k24 (by decide)]
    · refine MOp_fr ?_ k5 rfl rfl
      rw [show xo t N (k + 2) = k :: xo t N k from q1.2.1.trans exo1]
      refine ⟨by rw [q40, List.length_cons], fun j hj => ?_⟩
      rw [List.length_cons] at hj ⊢
      cases j with
      | zero =>
        show OPn h4 t N k _
        unfold OPn
        refine ⟨fun _ => ?_, fun q => by omega, fun q => by omega⟩
        rw [p105, show (xo t N k).length + 1 - 1 - 0 = (xo t N k).length by omega, upd_s]
      | succ j =>
        have oj := mo2.2 j (by omega)
        rw [show (k :: xo t N k).getD (j + 1) 0 = (xo t N k).getD j 0 from rfl, show (xo t N k).length + 1 - 1 - (j + 1) = (xo t N k).length - 1 - j by omega]
        have xg := xo_g (t := t) (N := N) (k := k) (j := j) (by omega)
        refine OPn_eq (m := ns t N k) oj (ns_mono (by omega)) ?_ ?_ (fun z hz => ?_)
        · rw [p105, upd_n (by omega), frF k3 (by decide)]
        · rw [frF k24 (by decide)]
        · rw [frF k4 (by decide), p91, upd_n (by omega)]
  have ss := sft_s (t := t) (N := N) (k := k + 1)
  rw [show unt t N (k + 1) = false from decide_eq_false (fun q => by omega), q0.2.2.2] at ss
  -- a number that isn't right
  have BAD : ∀ (v : Int32) (o3 o4 : Option Value) (c s : Nat), wrg t N (k + 1) = true → (ptd t N (tS t N (k + 1)) = false → v = nI (whl t (tS t N (k + 1)) (ptE t N (tS t N (k + 1)) - tS t N (k + 1)))) → jB_X12_repeatTold_105 X (d + 5) Q 81 (nI (tS t N k)) v o3 o4 h1 c s := by
    intro v o3 o4 c s wr hv
    refine jT_X12_repeatTold_105 ?_
    rw [jgI_ob (c := 12) (by simp only [gM g1]) rfl, f20, jrc_ob (by simp only [gM g1])]
    change jex X (d + 4 + 1) 86 [.ref 81, .int (nI 5), .int (nI (tS t N (k + 1)))] _ _
    have mf1' : MFl h1 t N (k + 1) := by unfold MFl; rw [q0.2.2.2]; exact mf1
    refine c_mfault g1 mf1' ok1 (by omega) (fun h2 k2 f2 f3 => ?_)
    try dsimp only [jrI, jrN, jrA, jisr, jnul, jcat1]
    refine RST h2 v k2 ?_ hv
    unfold MFl
    rw [show sft t N (k + 2) = sf2 (sft t N (k + 1)) 5 (tS t N (k + 1)) by show sft t N (k + 1 + 1) = _; rw [ss, wr]; unfold sf2; rw [q0.2.2.2]; split <;> rfl]
    exact ⟨f2, f3⟩
  have L : ∀ (r n : Nat) (v fl : Int32) (c s : Nat), tS t N (k + 1) + n + r = nmE t N (tS t N (k + 1)) → ((fl = 1 ∧ tS t N (k + 1) + n ≤ ptE t N (tS t N (k + 1)) ∧ v = nI (whl t (tS t N (k + 1)) n)) ∨ (fl = 0 ∧ ptE t N (tS t N (k + 1)) < tS t N (k + 1) + n)) → jB_X12_repeatTold_42 X (d + 5) Q 81 (nI (tS t N k)) v fl (nI (tS t N (k + 1) + n)) h1 c s := by
    intro r
    induction r with
    | zero =>
      intro n v fl c s hn hv
      refine jT_X12_repeatTold_42 ?_
      rw [jgI_ob (c := 12) (by simp only [gM g1]) rfl, f21]
      refine jif_n (nI_nlt (by omega) (by omega)) ?_
      rcases hv with ⟨e1, e2, e3⟩ | ⟨e1, e2⟩
      · subst e1
        have pf : ptd t N (tS t N (k + 1)) = false := by
          cases e : ptd t N (tS t N (k + 1)) with
          | false => rfl
          | true => have := pd.1 e; omega
        have hv : v = nI (whl t (tS t N (k + 1)) (ptE t N (tS t N (k + 1)) - tS t N (k + 1))) := by
          rw [e3, show n = ptE t N (tS t N (k + 1)) - tS t N (k + 1) by have := pd.2 pf; omega]
        have tu := tur_lt (t := t) (N := N) (k := tS t N (k + 1)) c3
        unfold tur at tu
        rw [pf] at tu
        have tu : whl t (tS t N (k + 1)) (ptE t N (tS t N (k + 1)) - tS t N (k + 1)) < 10000 := tu
        refine jif_n (by decide) ⟨fun c9 => ?_, fun c9 => ?_⟩
        · rw [hv] at c9
          have c9 := (nI_ltI (a := 99) (by omega) (by omega)).1 c9
          exact BAD v _ _ _ _ (decide_eq_true ⟨c3, Or.inl ⟨x7, Or.inr c9⟩⟩) (fun _ => hv)
        · have c9 : ¬ 99 < whl t (tS t N (k + 1)) (ptE t N (tS t N (k + 1)) - tS t N (k + 1)) := fun q => c9 (by rw [hv]; exact nI_lt (a := 99) q (by omega))
          have wr : wrg t N (k + 1) = false := decide_eq_false (fun q => by
            rcases q.2 with ⟨_, w⟩ | ⟨w, _⟩
            · rcases w with w | w
              · rw [pf] at w; cases w
              · exact c9 w
            · exact w x7)
          refine RST h1 v fr_rfl ?_ (fun _ => hv)
          unfold MFl at mf1 ⊢
          rw [show sft t N (k + 2) = sft t N k by show sft t N (k + 1 + 1) = _; rw [ss, wr]; split <;> rfl]
          exact mf1
      · subst e1
        refine jif_t rfl ?_
        have pt : ptd t N (tS t N (k + 1)) = true := by
          cases e : ptd t N (tS t N (k + 1)) with
          | true => rfl
          | false => have := pd.2 e; omega
        exact BAD v _ _ _ _ (decide_eq_true ⟨c3, Or.inl ⟨x7, Or.inl pt⟩⟩) (fun q => by rw [pt] at q; cases q)
    | succ r ih =>
      intro n v fl c s hn hv
      have tn := mk1.2.2.1.2.2 (tS t N (k + 1) + n) (by omega)
      have iv : vp_in (nI (tS t N (k + 1) + n)) 2000 := by rw [vp_inI, nI_toInt (by omega)]; omega
      have ic : (nI (tS t N (k + 1) + n)).toNatClampNeg = tS t N (k + 1) + n := nI_clamp (by omega)
      refine jT_X12_repeatTold_42 ?_
      simp (decide := true) only [jgI_ob, jgf_ob, jgL_ob, jpI_ob, jpL_ob, jpR_ob, jpN_ob, jrc_ob, obj_sV, obj_wF, obj_wG, obj_wR, arr_sV, arr_wF, arr_wG, arr_wR, arL_sV, arL_wF, arL_wG, arL_wR, arR_sV, arR_wF, arR_wG, arR_wR, fI_sV (c := 0), fI_sV (c := 1), fI_sV (c := 2), fI_sV (c := 4), fI_sV (c := 5), fI_sV (c := 7), fI_sV (c := 8), fI_sV (c := 9), fI_sV (c := 10), fI_sV (c := 11), fI_sV (c := 12), fI_sV (c := 6), fL_sV (c := 9), fL_sV (c := 12), fI_sV_k, fL_sV_k, fV_sV_k, fI_wF, fI_wG, fI_wR, fL_wF, fL_wG, fL_wR, fV_wF, fV_wG, fV_wR, aF_sV, aG_sV, aR_sV, aF_wG, aF_wR, aG_wF, aG_wR, aR_wF, aR_wG, kC, kM, gM g1, gN g1, iv, ic, true_and, f21]
      refine jif_t (nI_lt (by omega) (by omega)) ?_
      rcases hv with ⟨e1, e2, e3⟩ | ⟨e1, e2⟩
      · subst e1
        refine jif_n (by decide) ?_
        have e46 : aF h1 82 (tS t N (k + 1) + n) = 46 ↔ t (tS t N (k + 1) + n) = 46 := by
          rw [ti_eq, tn.2.2]
          exact sg_c tn.1 tn.2.1 (by decide) (by decide)
        have n46 := nm_46 (t := t) (N := N) (b := tS t N (k + 1)) (j := tS t N (k + 1) + n) (by omega) (by omega)
        rw [nI_1]
        refine ⟨fun q => ?_, fun q => ?_⟩
        · have q := n46.1 (e46.1 q)
          exact ih (n + 1) _ _ _ _ (by omega) (Or.inr ⟨rfl, by omega⟩)
        · have q : tS t N (k + 1) + n ≠ ptE t N (tS t N (k + 1)) := fun w => q (e46.2 (n46.2 w))
          have dg := nm_dig (t := t) (N := N) (b := tS t N (k + 1)) (j := tS t N (k + 1) + n) (by omega) (by omega) q
          refine ih (n + 1) _ _ _ _ (by omega) (Or.inl ⟨rfl, by omega, ?_⟩)
          have hw := whl_lt (t := t) (b := tS t N (k + 1)) n (fun i hi => tkD_of (tkE_in (N := N) (i := tS t N (k + 1)) (by omega) (by have : ptE t N (tS t N (k + 1)) = tkE tkD t N (tS t N (k + 1)) := rfl; omega)))
          have hw4 : (10 : Nat) ^ n ≤ 10 ^ 3 := Nat.pow_le_pow_right (by decide) (by omega)
          have ex : (aF h1 82 (tS t N (k + 1) + n)).toInt = t (tS t N (k + 1) + n) := by
            rw [tn.2.2]
            unfold sg
            rw [if_pos (by omega)]
          rw [e3, show 10 * nI (whl t (tS t N (k + 1)) n) = nI (10 * whl t (tS t N (k + 1)) n) from pk_mul 10 _]
          have a1 : (nI (10 * whl t (tS t N (k + 1)) n)).toInt = (10 * whl t (tS t N (k + 1)) n : Nat) := nI_toInt (by omega)
          generalize nI (10 * whl t (tS t N (k + 1)) n) = y at *
          have a2 : (y + aF h1 82 (tS t N (k + 1) + n)).toInt = 10 * (whl t (tS t N (k + 1)) n : Int) + t (tS t N (k + 1) + n) := (by simp only [Int32.toInt_add, Int32.toInt_sub, Int32.toInt_mul, Int32.toInt_neg, Int.bmod_def, tl, t4]; omega)
          generalize y + aF h1 82 (tS t N (k + 1) + n) = y2 at *
          have a3 : (y2 - 48).toInt = 10 * (whl t (tS t N (k + 1)) n : Int) + t (tS t N (k + 1) + n) - 48 := (by simp only [Int32.toInt_add, Int32.toInt_sub, Int32.toInt_mul, Int32.toInt_neg, Int.bmod_def, tl, t4]; omega)
          rw [ti_eq, a3, nI_toInt (by show 10 * whl t (tS t N (k + 1)) n + (t (tS t N (k + 1) + n) - 48).toNat < _; omega)]
          show _ = ((10 * whl t (tS t N (k + 1)) n + (t (tS t N (k + 1) + n) - 48).toNat : Nat) : Int)
          omega
      · subst e1
        refine jif_t rfl ?_
        rw [nI_1]
        exact ih (n + 1) _ _ _ _ (by omega) (Or.inr ⟨rfl, by omega⟩)
  rw [jgI_ob (c := 12) (by simp only [gM g1]) rfl, f20]
  exact L (nmE t N (tS t N (k + 1)) - tS t N (k + 1)) 0 0 1 _ _ (by omega) (Or.inl ⟨rfl, by omega, rfl⟩)
end RPT
