/-! READING: a let, by the model -/
section LTT
variable {X : JX} {d : Nat} {Q : JQ} {h bh : JH} {N k K : Nat} {t : Nat → Int}
/-- within a let that began at token k: token j is the current one -/
def LTM (bh h : JH) (t : Nat → Int) (N k j : Nat) : Prop := MKt bh h t N j ∧ MN h t N (nms t N j) (tld t N j) ∧ MAt h t N j ∧ MFl h t N j ∧ MSx h t N k (ns t N k + 1) ∧ aF h 91 (410 + ns t N k) = 0 ∧ aF h 92 (410 + ns t N k) = nI (tS t N k) ∧ aF h 93 (410 + ns t N k) = nI (nnum t N (k + 1)) ∧ aF h 94 (410 + ns t N k) = nI (na t N k) ∧ MOp h t N (xo t N k)
def LTP (t : Nat → Int) (N k j : Nat) : Prop := ns t N j = ns t N k + 1 ∧ xo t N j = xo t N k ∧ (∀ i, cl t N j i = cl t N k i) ∧ (∀ i, k < i → i < j → isSt t N i = false) ∧ la t N j = k ∧ tld t N j = tld t N k
theorem LTM_fr {A : List Nat} {F : List (Nat × Nat)} {h1 : JH} {j : Nat} (x : LTM bh h t N k j) (a : fr A F h h1) (k1 : offF ((81, 1) :: (81, 40) :: AFi) F = true) (k2 : offA (82 :: 90 :: 91 :: 92 :: 93 :: 94 :: 95 :: 105 :: 106 :: AA) A = true) : LTM bh h1 t N k j := by
  obtain ⟨x1, x2, x3, x4, x5, x6, x7, x8, x9, x10⟩ := x
  have e := offV (fw_fr a) k1
  have e2 := offR (fw_fr a) k2
  refine ⟨?_, ?_, ?_, ?_, ?_, ?_, ?_, ?_, ?_, ?_⟩
  · unfold MKt MT TM LOW fI fL at *
    rw [e (81, 1) (by decide), e (81, 19) (by decide), e (81, 20) (by decide), e (81, 21) (by decide), e (81, 22) (by decide), e (81, 23) (by decide), e (81, 24) (by decide), (e2 82 (by decide)).1, (e2 90 (by decide)).1, (e2 91 (by decide)).1, (e2 92 (by decide)).1, (e2 93 (by decide)).1, (e2 94 (by decide)).1, (e2 95 (by decide)).1, (e2 96 (by decide)).1, (e2 97 (by decide)).1, (e2 98 (by decide)).1, (e2 99 (by decide)).1, (e2 100 (by decide)).1, (e2 101 (by decide)).1, (e2 102 (by decide)).1]
    exact x1
  · unfold MN at *
    rw [(e2 102 (by decide)).1, (e2 103 (by decide)).2.1, (e2 104 (by decide)).1]
    exact x2
  · unfold MAt MA1 at *
    rw [(e2 96 (by decide)).1, (e2 97 (by decide)).1, (e2 98 (by decide)).1, (e2 99 (by decide)).1, (e2 100 (by decide)).1, (e2 101 (by decide)).1]
    exact x3
  · unfold MFl fI at *
    rw [e (81, 2) (by decide), e (81, 3) (by decide)]
    exact x4
  · unfold MSx MS1 at *
    rw [(e2 90 (by decide)).1, (e2 91 (by decide)).1, (e2 92 (by decide)).1, (e2 93 (by decide)).1, (e2 94 (by decide)).1, (e2 95 (by decide)).1]
    exact x5
  · rw [(e2 91 (by decide)).1]; exact x6
  · rw [(e2 92 (by decide)).1]; exact x7
  · rw [(e2 93 (by decide)).1]; exact x8
  · rw [(e2 94 (by decide)).1]; exact x9
  · unfold MOp OPn fI at *
    rw [e (81, 40) (by decide), (e2 91 (by decide)).1, (e2 105 (by decide)).1, (e2 106 (by decide)).1]
    exact x10
theorem LTP_s {j : Nat} (x : LTP t N k j) (q : tK t N j ≠ 4 ∧ tK t N j ≠ 5 ∧ tK t N j ≠ 6 ∧ tK t N j ≠ 7 ∧ tK t N j ≠ 9 ∧ tK t N j ≠ 15) : LTP t N k (j + 1) := by
  have s := q_step q
  refine ⟨s.1.trans x.1, s.2.1.trans x.2.1, fun i => (s.2.2.2.1 i).trans (x.2.2.1 i), fun i h1 h2 => ?_, s.2.2.1.trans x.2.2.2.2.1, s.2.2.2.2.trans x.2.2.2.2.2⟩
  by_cases e : i = j
  · rw [e]; exact isSt_f (by omega)
  · exact x.2.2.2.1 i h1 (by omega)
theorem c_letPass (g : G h) (st : Spt t N K) {j : Nat} (hj : j ≤ K) (im : LTM bh h t N k j) (fw : fwl t N j ≠ 0) (nk : tK t N j ≠ 2 ∧ tK t N j ≠ 3 ∧ tK t N j ≠ 5 ∧ tK t N j ≠ 7 ∧ tK t N j ≠ 15) (HS : ∀ h1, fr [] [(81, 2), (81, 3)] h h1 → SPD bh h1 t N K → Q (some (.int 0)) h1) (HC : j + 1 ≤ K → ∀ h1, fr [] [(81, 19), (81, 20), (81, 21), (81, 22), (81, 23), (81, 24)] h h1 → LTM bh h1 t N k (j + 1) → Q (some (.int 1)) h1) : jex X (d + 5) 79 [.ref 81] h Q := by
  obtain ⟨x1, x2, x3, x4, x5, x6, x7, x8, x9, x10⟩ := im
  refine c_pass g st hj x1 (hft_pw fw (fun q => by omega) (fun q => by omega)) HS (fun lt o0 h1 k1 mk1 => HC (by omega) h1 k1 ?_)
  have qn := q_name (t := t) (N := N) (k := j) (by omega)
  have et : tld t N (j + 1) = tld t N j := by funext i; show (if tK t N j = 15 ∧ i = nnum t N (la t N j + 1) then true else tld t N j i) = _; rw [if_neg (by omega)]
  refine ⟨mk1, ?_, ?_, ?_, MSx_fr x5 k1 rfl, ?_, ?_, ?_, ?_, MOp_fr x10 k1 rfl rfl⟩
  · rw [qn.1, et]; exact MN_fr x2 k1 rfl
  · have w := MAt_fr x3 k1 rfl
    refine ⟨by rw [qn.2.2.1]; exact w.1, fun i hi ai => w.2 i ?_ ai⟩
    refine Classical.byContradiction (fun q => ?_)
    rw [show i = j by omega, qn.2.1] at ai
    cases ai
  · have w := MFl_fr x4 k1 rfl
    unfold MFl at w ⊢
    rw [qn.2.2.2]
    exact w
  · rw [frF k1 (by decide)]; exact x6
  · rw [frF k1 (by decide)]; exact x7
  · rw [frF k1 (by decide)]; exact x8
  · rw [frF k1 (by decide)]; exact x9
/-- from a power on -/
theorem c_letLoop (g : G h) (st : Spt t N K) (hk : k ≤ K) (h4 : tK t N k = 4) (h2 : tK t N (k + 1) = 2) (n12 : nnum t N (k + 1) < 12) (HS : ∀ h1, fr MAr MFi h h1 → SPD bh h1 t N K → Q (some (.int 0)) h1) (HC : ∀ j, k < j → j ≤ K → xe t N j = 1 → ∀ h1, fr MAr MFi h h1 → ALLm bh h1 t N j → Q (some (.int 1)) h1) : ∀ (r j : Nat) (h1 : JH) (a5 : Int32) (o1 o6 : Option Value) (c s : Nat), j + r = K → k + 1 < j → xe t N j = 4 → a5 = bi (decide (tK t N (j - 1) = 20)) → fr MAr MFi h h1 → LTM bh h1 t N k j → LTP t N k j → jB_X12_letTold_101 X (d + 6) Q 81 o1 (nI (nnum t N (k + 1))) (nI (410 + ns t N k)) 1 a5 o6 h1 c s := by
  have K4 := Spt_400 st
  have nk := ns_le (t := t) (N := N) k
  have i1 : vp_in 1 2 := by rw [vp_inI]; decide
  have c1 : (1 : Int32).toNatClampNeg = 1 := rfl
  have ivk : vp_in (nI (410 + ns t N k)) 820 := by rw [vp_inI, nI_toInt (by omega)]; omega
  have ick : (nI (410 + ns t N k)).toNatClampNeg = 410 + ns t N k := nI_clamp (by omega)
  have ivn : vp_in (nI (nnum t N (k + 1))) 12 := by rw [vp_inI, nI_toInt (by omega)]; omega
  have icn : (nI (nnum t N (k + 1))).toNatClampNeg = nnum t N (k + 1) := nI_clamp (by omega)
  -- the let's end
  have END : ∀ (m : Nat) (h1 : JH) (a5 : Int32) (o1 o6 : Option Value) (c s : Nat), k + 1 < m → m ≤ K → xe t N m = 6 → tK t N m ≠ 19 → tK t N m ≠ 20 → fr MAr MFi h h1 → LTM bh h1 t N k m → LTP t N k m → jB_X12_letTold_101 X (d + 6) Q 81 o1 (nI (nnum t N (k + 1))) (nI (410 + ns t N k)) 0 a5 o6 h1 c s := by
    intro m h1 a5 o1 o6 c s hkm hmK xm n19 n20 k1 lm lp
    have g1 := G_fr g rfl k1
    have okm : OKt t N m := fun i hi => st.1 i (by omega)
    obtain ⟨x1, x2, x3, x4, x5, x6, x7, x8, x9, x10⟩ := id lm
    have nl : nnum t N (k + 1) < (nms t N m).length := nnum_lt (by omega) h2
    have td := (x2.2 (nnum t N (k + 1)) nl).2
    obtain ⟨kk, k0', k1', k2', k3', k4'⟩ := mk_k x1
    have e96 := x3.1
    -- behind the telling: what is told is td2
    have SG : ∀ (h4 : JH) (v : Int32), fr [95, 104] [] h1 h4 → aF h4 95 = upd (aF h1 95) (410 + ns t N k) (nI (na t N m)) → aF h4 104 = upd (aF h1 104) (nnum t N (k + 1)) v → (tK t N m = 15 → v = 1) → jrc h4 (.ref 81) 12 (jex X (d + 6) 82 [.ref 81, .int 59] h4 fun r24 h23 => (jrI r24 fun x25 => ((x25 : Int32) &&& 1 = x25 ∧ (Q (some (.int x25)) h23)))) := by
      intro h4 v k4 p95 p104 hv
      have k4'' : fr MAr MFi h h4 := fr_trans k1 (fr_mono (by decide) (by decide) k4)
      have g4 := G_fr g rfl k4''
      have lw4 : LOW h1 h4 := by
        refine ⟨?_, fun j hj => ⟨?_, ?_, ?_, ?_, ?_⟩, ?_, fun j hj => ⟨?_, ?_, ?_, ?_, ?_⟩, ?_⟩
        all_goals (try rw [frF k4 (by decide)])
        · rw [p95, upd_n (by omega)]
      have mk4 := MKt_lw x1 k4 rfl rfl lw4
      rw [jrc_ob (by simp only [gM g4]), jE_X12_signs]
      refine jT_X12_signs_0 ?_
      rw [jrc_ob (by simp only [gM g4])]
      change jex X (d + 4 + 1) 83 [.ref 81, .int (sgM 15)] _ _
      refine c_isSign g4 mk4 (by decide) (by decide) (fun q => ?_) (fun q => ?_)
      · try dsimp only [jrI, jrN, jrA, jisr, jnul, jcat1]
        refine jif_n (by decide) ?_
        have v1 := hv q
        have fwm : fwl t N m = 1 := by
          unfold fwl fol
          rw [if_neg (by omega), if_neg (by omega), if_neg (by omega), if_neg (by omega), if_neg (by omega), if_pos xm, if_neg (by omega), if_pos q]
        have qn := q_name (t := t) (N := N) (k := m) (by omega)
        have xf : xe t N (m + 1) = 1 := by rw [xe_s]; exact fwm
        rw [jrc_ob (by simp only [gM g4])]
        refine c_pass g4 st hmK mk4 (hft_pw (by omega) (fun q => by omega) (fun q => by omega)) (fun h5 k5 sp => ?_) (fun lt o0 h5 k5 mk5 => ?_)
        · try dsimp only [jrI, jrN, jrA, jisr, jnul, jcat1]
          exact ⟨by decide, ⟨by decide, HS h5 (fr_trans k4'' (fr_mono (by decide) (by decide) k5)) sp⟩⟩
        try dsimp only [jrI, jrN, jrA, jisr, jnul, jcat1]
        refine ⟨by decide, ⟨by decide, HC (m + 1) (by omega) (by omega) xf h5 (fr_trans k4'' (fr_mono (by decide) (by decide) k5)) ⟨mk5, ?_, ?_, ?_, ?_, ?_⟩⟩⟩
        · refine MN_fr ?_ k5 rfl
          rw [qn.1]
          refine ⟨by rw [frF k4 (by decide)]; exact x2.1, fun i hi => ?_⟩
          have etl : tld t N (m + 1) i = if tK t N m = 15 ∧ i = nnum t N (la t N m + 1) then true else tld t N m i := rfl
          rw [frG k4 (by decide), p104, etl, lp.2.2.2.2.1]
          by_cases e : i = nnum t N (k + 1)
          · rw [if_pos ⟨q, e⟩, e, upd_s, v1]
            exact ⟨(x2.2 _ nl).1, rfl⟩
          · rw [if_neg (fun w => e w.2), upd_n e]
            exact x2.2 i hi
        · have w := MAt_fr (MAt_fr x3 k4 rfl) k5 rfl
          refine ⟨by rw [qn.2.2.1]; exact w.1, fun i hi ai => w.2 i ?_ ai⟩
          refine Classical.byContradiction (fun q => ?_)
          rw [show i = m by omega, qn.2.1] at ai
          cases ai
        · have w := MFl_fr (MFl_fr x4 k4 rfl) k5 rfl
          unfold MFl at w ⊢
          rw [qn.2.2.2]
          exact w
        · refine MSx_fr ?_ k5 rfl
          have ens : ns t N (m + 1) = ns t N k + 1 := by rw [q_ns, isSt_f (by omega)]; exact lp.1
          refine ⟨by rw [frF k4 (by decide), ens]; exact x5.1, fun i hi si => ?_⟩
          by_cases ei : i = k
          · subst ei
            have ecl : cl t N (m + 1) i = m := by rw [q_cl, if_pos (Or.inl ⟨q, lp.2.2.2.2.1.symm⟩)]
            unfold MS1
            rw [frF k4 (by decide), frF k4 (by decide), frF k4 (by decide), frF k4 (by decide), x6, x7, x8, x9, p95, upd_s, ecl]
            refine ⟨?_, fun _ => rfl, fun q => by omega, fun _ => ⟨rfl, rfl, rfl⟩, fun q => by omega, fun q => by omega, fun q => by omega, fun q => by omega⟩
            unfold skd; rw [if_pos h4]
          · by_cases lt : i < k
            · have li := ns_lt lt si
              have ecl : cl t N (m + 1) i = cl t N k i := by rw [q_cl, if_neg (by rw [lp.2.2.2.2.1]; omega)]; exact lp.2.2.1 i
              refine MS1_cl (k := k) ?_ ecl
              refine MS1_eq (h := h1) (m := ns t N k) (x5.2 i lt si) li (fun z hz => ?_) (fun z hz => ?_) (fun z hz => ?_) (fun z hz => ?_) (fun z hz => ?_)
              · rw [frF k4 (by decide)]
              · rw [frF k4 (by decide)]
              · rw [frF k4 (by decide)]
              · rw [frF k4 (by decide)]
              · rw [p95, upd_n (by omega)]
            · exfalso
              by_cases em : i = m
              · rw [em, isSt_f (by omega)] at si; cases si
              · rw [lp.2.2.2.1 i (by omega) (by omega)] at si; cases si
        · refine MOp_fr ?_ k5 rfl rfl
          rw [xo_s, if_neg (by omega), if_neg (by omega), if_neg (by omega), lp.2.1]
          exact MOp_fr x10 k4 rfl rfl
      · try dsimp only [jrI, jrN, jrA, jisr, jnul, jcat1]
        refine jif_t rfl ?_
        have f0 : fwl t N m = 0 := Classical.byContradiction (fun w => by
          have := fwl_inv w
          omega)
        have e1 : hft t N m = 1 := by unfold hft; rw [if_pos f0]
        change jgI h4 (.ref 81) 12 20 fun x43 => (jrc h4 (.ref 81) 12 (jex X (d + 4 + 1) 77 [.ref 81, .int (nI 1), .int x43] h4 fun r45 h44 => (jrI r45 fun x46 => ((fun (x46 : Int32) (h44 : JH) => ((x46 : Int32) &&& 1 = x46 ∧ (jrI (some (.int x46)) fun x25 => ((x25 : Int32) &&& 1 = x25 ∧ (Q (some (.int x25)) h44))))) x46 h44))))
        refine c_mstopK g4 st hmK mk4 (by decide) e1 (fun _ w => by have := w.2.1; omega) (fun h6 k6 sp => ⟨by decide, ?_⟩)
        try dsimp only [jrI, jrN, jrA, jisr, jnul, jcat1]
        exact ⟨by decide, HS h6 (fr_trans k4'' (fr_mono (by decide) (by decide) k6)) sp⟩
    have NZ : ∀ v : Int32, v = 0 ∨ v = 1 → vp_nar .boolean v = v := fun v hv => nar_z hv
    refine jT_X12_letTold_101 (jif_t rfl ?_)
    simp (decide := true) only [jgf_ob (c := 12), jgI_ob (c := 12), gM g1, gN g1, jaI_ar (p := 96) (n := 2), jwI_ar (p := 95) (n := 820), jaZ_ar (p := 104) (n := 12), jwZ_ar (p := 104) (n := 12), obj_wF, arr_wF, fV_wF, ivk, ick, ivn, icn, i1, c1, true_and, aF_wF_ne, e96, td, fI_wF, nar_z]
    have FW : ∀ v : Int32, fr [95, 104] [] h1 (wF (wF h1 95 (upd (aF h1 95) (410 + ns t N k) (nI (na t N m)))) 104 (upd (aF h1 104) (nnum t N (k + 1)) v)) := fun v => fr_wF (by decide) (fr_wF (by decide) fr_rfl)
    have P95 : ∀ v : Int32, aF (wF (wF h1 95 (upd (aF h1 95) (410 + ns t N k) (nI (na t N m)))) 104 (upd (aF h1 104) (nnum t N (k + 1)) v)) 95 = upd (aF h1 95) (410 + ns t N k) (nI (na t N m)) := fun v => by rw [aF_wF_ne (by decide)]; exact aF_wF (t := .int) (n := 820) (by simp only [gM g1])
    have P104 : ∀ v : Int32, aF (wF (wF h1 95 (upd (aF h1 95) (410 + ns t N k) (nI (na t N m)))) 104 (upd (aF h1 104) (nnum t N (k + 1)) v)) 104 = upd (aF h1 104) (nnum t N (k + 1)) v := fun v => aF_wF (t := .boolean) (n := 12) (by simp only [arr_wF, gM g1])
    refine ⟨fun _ => ⟨fun cK => ⟨fun cS => ?_, fun cS => ?_⟩, fun cK => ?_⟩, fun cT => ?_⟩
    · exact SG _ 1 (FW 1) (P95 1) (P104 1) (fun _ => rfl)
    · refine SG _ 0 (FW 0) (P95 0) (P104 0) (fun q => absurd ?_ cS)
      rw [x1.1.2.2.2.2.1 (by show 15 ≤ tK t N m; omega)]
      show sgM (tK t N m) = 59
      rw [q]; rfl
    · refine SG _ 0 (FW 0) (P95 0) (P104 0) (fun q => absurd ?_ cK)
      rw [kk]
      exact k3'.2 (by omega)
    · exact SG _ 1 (FW 1) (P95 1) (P104 1) (fun _ => rfl)
  intro r
  induction r using Nat.strongRecOn with
  | _ r ih =>
    intro j h1 a5 o1 o6 c s hj hkj xj ea k1 lm lp
    have g1 := G_fr g rfl k1
    obtain ⟨kk, k0', k1', k2', k3', k4'⟩ := mk_k lm.1
    -- from an atom on
    have R147 : ∀ (i : Nat) (h3 : JH) (w : Int32) (o1 o4 : Option Value) (c s : Nat), j ≤ i → i ≤ K → (xe t N i = 4 ∨ xe t N i = 5) → (fwl t N i ≠ 0 ↔ (tK t N i = 2 ∨ tK t N i = 3)) → w = wrd t N i → a5 = bi (ovr t N i) → fr MAr MFi h h3 → LTM bh h3 t N k i → LTP t N k i → jB_X12_letTold_147 X (d + 6) Q 81 o1 (nI (nnum t N (k + 1))) (nI (410 + ns t N k)) o4 a5 w h3 c s := by
      intro i h3 w o1 o4 c s hji hiK xi fwi ew eo k3 l3 p3
      have g3 := G_fr g rfl k3
      obtain ⟨x1, x2, x3, x4, x5, x6, x7, x8, x9, x10⟩ := id l3
      refine jT_X12_letTold_147 ?_
      rw [jrc_ob (by simp only [gM g3])]
      refine c_atomTold g3 st hiK x1 x2 x3 x4 (by omega) fwi ew eo (fun h5 k5 sp => ?_) (fun lt h5 k5 mk5 mn5 ma5 mf5 => ?_)
      · try dsimp only [jrI, jrN, jrA, jisr, jnul, jcat1]
        exact jif_t rfl ⟨by decide, HS h5 (fr_trans k3 (fr_mono (by decide) (by decide) k5)) sp⟩
      try dsimp only [jrI, jrN, jrA, jisr, jnul, jcat1]
      refine jif_n (by decide) ?_
      have k5' : fr MAr MFi h h5 := fr_trans k3 (fr_mono (by decide) (by decide) k5)
      have g5 := G_fr g rfl k5'
      have fi := fwl_inv (hft_0 (st.1 i (by omega))).1
      have ta := fwi.1 (hft_0 (st.1 i (by omega))).1
      have x6' : xe t N (i + 1) = 6 := by rw [xe_s]; omega
      have p5 : LTP t N k (i + 1) := LTP_s p3 (by omega)
      have l5 : LTM bh h5 t N k (i + 1) := by
        refine ⟨mk5, mn5, ma5, mf5, MSx_fr x5 k5 rfl, ?_, ?_, ?_, ?_, MOp_fr x10 k5 rfl rfl⟩
        · rw [frF k5 (by decide)]; exact x6
        · rw [frF k5 (by decide)]; exact x7
        · rw [frF k5 (by decide)]; exact x8
        · rw [frF k5 (by decide)]; exact x9
      -- one power more
      have MORE : ∀ (v : Int32) (o1 : Option Value) (c s : Nat), (tK t N (i + 1) = 19 ∨ tK t N (i + 1) = 20) → v = bi (decide (tK t N (i + 1) = 20)) → jrc h5 (.ref 81) 12 (jex X (d + 6) 79 [.ref 81] h5 fun r11 h10 => (jrI r11 fun x12 => (jifp (x12 = 0) ((0 : Int32) &&& 1 = 0 ∧ (Q (some (.int 0)) h10)) (jB_X12_letTold_101 X (d + 6) Q 81 o1 (nI (nnum t N (k + 1))) (nI (410 + ns t N k)) 1 v (some (.int w)) h10 c s)))) := by
        intro v o1 c s hs ev
        have fwm : fwl t N (i + 1) = 4 := by
          unfold fwl fol
          rw [if_neg (by omega), if_neg (by omega), if_neg (by omega), if_neg (by omega), if_neg (by omega), if_pos x6', if_pos hs]
        rw [jrc_ob (by simp only [gM g5])]
        change jex X (d + 1 + 5) 79 _ _ _
        refine c_letPass g5 st (by omega) l5 (by omega) (by omega) (fun h7 k7 sp => ?_) (fun hj2 h7 k7 l7 => ?_)
        · try dsimp only [jrI, jrN, jrA, jisr, jnul, jcat1]
          exact jif_t rfl ⟨by decide, HS h7 (fr_trans k5' (fr_mono (by decide) (by decide) k7)) sp⟩
        try dsimp only [jrI, jrN, jrA, jisr, jnul, jcat1]
        refine jif_n (by decide) ?_
        refine ih (K - (i + 2)) (by omega) (i + 2) h7 v _ _ _ _ (by omega) (by omega) ?_ ev (fr_trans k5' (fr_mono (by decide) (by decide) k7)) l7 (LTP_s p5 (by omega))
        show xe t N (i + 1 + 1) = 4
        rw [xe_s]; exact fwm
      have ISS : ∀ (v : Nat) (Z : Int32 → JH → Prop), 15 ≤ v → v ≤ 20 → (tK t N (i + 1) = v → Z 1 h5) → (tK t N (i + 1) ≠ v → Z 0 h5) → jrc h5 (.ref 81) 12 (jex X (d + 6) 83 [.ref 81, .int (sgM v)] h5 fun r5 h4 => (jrI r5 fun x6 => Z x6 h4)) := by
        intro v Z v1 v2 H1 H0
        rw [jrc_ob (by simp only [gM g5])]
        change jex X (d + 5 + 1) 83 _ _ _
        refine c_isSign g5 mk5 v1 v2 (fun q => ?_) (fun q => ?_)
        · try dsimp only [jrI, jrN, jrA, jisr, jnul, jcat1]
          exact H1 q
        · try dsimp only [jrI, jrN, jrA, jisr, jnul, jcat1]
          exact H0 q
      refine ISS 19 _ (by decide) (by decide) (fun q => ?_) (fun q => ?_)
      · refine jif_n (by decide) ?_
        refine ISS 20 _ (by decide) (by decide) (fun q2 => by omega) (fun q2 => ?_)
        refine jif_t rfl (jif_n (by decide) (MORE 0 _ _ _ (Or.inl q) ?_))
        rw [decide_eq_false q2]; rfl
      · refine jif_t rfl ?_
        refine ISS 20 _ (by decide) (by decide) (fun q2 => ?_) (fun q2 => ?_)
        · refine jif_n (by decide) ?_
          refine ISS 20 _ (by decide) (by decide) (fun _ => ?_) (fun q3 => absurd q2 q3)
          refine jif_n (by decide) (jif_n (by decide) (MORE 1 _ _ _ (Or.inr q2) ?_))
          rw [decide_eq_true q2]; rfl
        · refine jif_t rfl ?_
          refine ISS 20 _ (by decide) (by decide) (fun q3 => absurd q3 q2) (fun _ => ?_)
          refine jif_t rfl (jif_t rfl ?_)
          exact END (i + 1) h5 _ _ _ _ _ (by omega) (by omega) x6' q q2 k5' l5 p5
    have hjK : j ≤ K := by omega
    have fw0 : ¬ (10 ≤ tK t N j ∧ tK t N j ≤ 14) → (fwl t N j ≠ 0 ↔ (tK t N j = 2 ∨ tK t N j = 3)) := by
      intro nw
      constructor
      · intro q
        have := fwl_inv q
        omega
      · intro q
        unfold fwl fol
        rw [if_neg (by omega), if_neg (by omega), if_neg (by omega), if_pos xj, if_neg nw, if_pos q]
        decide
    have PLAIN : ¬ (10 ≤ tK t N j ∧ tK t N j ≤ 14) → ∀ (o1 o4 : Option Value) (c s : Nat), jB_X12_letTold_147 X (d + 6) Q 81 o1 (nI (nnum t N (k + 1))) (nI (410 + ns t N k)) o4 a5 (-1) h1 c s := by
      intro nw o1 o4 c s
      refine R147 j h1 (-1) _ _ _ _ (Nat.le_refl _) hjK (Or.inl xj) (fw0 nw) ?_ ?_ k1 lm lp
      · unfold wrd; rw [if_neg (by omega)]
      · unfold ovr; rw [if_neg (by omega)]; exact ea
    refine jT_X12_letTold_101 (jif_n (by decide) ?_)
    rw [jgI_ob (c := 12) (by simp only [gM g1]) rfl, kk]
    refine ⟨fun q4 => ?_, fun q4 => ?_⟩
    · have q4 := k4'.1 q4
      have e22 : fI h1 81 22 = kwM (tK t N j) := lm.1.1.2.2.2.1 q4
      have KW : ∀ a : Nat, a < 15 → 4 ≤ a → (kwM a < 6 ↔ a < 10) ∧ (10 ≤ a → ¬ kwM a < 0) := by decide
      have kw := KW (tK t N j) (by omega) q4.1
      rw [jgI_ob (c := 12) (by simp only [gM g1]) rfl, e22]
      refine ⟨fun q6 => jif_t (by decide) (PLAIN (by have := kw.1.1 q6; omega) _ _ _ _), fun q6 => ?_⟩
      have q10 : 10 ≤ tK t N j := by
        rcases Nat.lt_or_ge (tK t N j) 10 with w | w
        · exact absurd (kw.1.2 w) q6
        · exact w
      have fwj : fwl t N j = 5 := by
        unfold fwl fol
        rw [if_neg (by omega), if_neg (by omega), if_neg (by omega), if_pos xj, if_pos (by omega)]
      rw [jgI_ob (c := 12) (by simp only [gM g1]) rfl, e22]
      refine jif_n (kw.2 q10) ?_
      rw [jrc_ob (by simp only [gM g1])]
      change jex X (d + 1 + 5) 79 _ _ _
      refine c_letPass g1 st hjK lm (by omega) (by omega) (fun h7 k7 sp => ?_) (fun hj2 h7 k7 l7 => ?_)
      · try dsimp only [jrI, jrN, jrA, jisr, jnul, jcat1]
        exact jif_t rfl ⟨by decide, HS h7 (fr_trans k1 (fr_mono (by decide) (by decide) k7)) sp⟩
      try dsimp only [jrI, jrN, jrA, jisr, jnul, jcat1]
      refine jif_n (by decide) ?_
      have x5 : xe t N (j + 1) = 5 := by rw [xe_s]; exact fwj
      refine R147 (j + 1) h7 _ _ _ _ _ (by omega) hj2 (Or.inr x5) ?_ ?_ ?_ (fr_trans k1 (fr_mono (by decide) (by decide) k7)) l7 (LTP_s lp (by omega))
      · constructor
        · intro q
          have := fwl_inv q
          omega
        · intro q
          unfold fwl fol
          rw [if_neg (by omega), if_neg (by omega), if_neg (by omega), if_neg (by omega), if_pos x5, if_pos q]
          decide
      · unfold wrd; rw [if_pos x5]; rfl
      · unfold ovr
        rw [if_pos x5, ea]
        rfl
    · exact jif_t (by decide) (PLAIN (fun w => q4 (k4'.2 (by omega))) _ _ _ _)
theorem c_letTold (g : G h) (st : Spt t N K) (hk : k ≤ K) (al : ALLm bh h t N k) (h4 : tK t N k = 4) (fw : fwl t N k ≠ 0) (HS : ∀ h1, fr MAr MFi h h1 → SPD bh h1 t N K → Q (some (.int 0)) h1) (HC : ∀ j, k < j → j ≤ K → xe t N j = 1 → ∀ h1, fr MAr MFi h h1 → ALLm bh h1 t N j → Q (some (.int 1)) h1) : jex X (d + 7) 78 [.ref 81] h Q := by
  obtain ⟨mk, mn, ma, mf, ms, mo⟩ := al
  have K4 := Spt_400 st
  have fi := fwl_inv fw
  have nk := ns_le (t := t) (N := N) k
  have i1 : vp_in 1 2 := by rw [vp_inI]; decide
  have c1 : (1 : Int32).toNatClampNeg = 1 := rfl
  have ivk : vp_in (nI (410 + ns t N k)) 820 := by rw [vp_inI, nI_toInt (by omega)]; omega
  have ick : (nI (410 + ns t N k)).toNatClampNeg = 410 + ns t N k := nI_clamp (by omega)
  have STOP1 : ∀ (j : Nat) (h5 : JH), j ≤ K → xe t N j ≠ 1 → fwl t N j = 0 → fr MAr MFi h h5 → MKt bh h5 t N j → jgI h5 (.ref 81) 12 20 (fun x28 => (jrc h5 (.ref 81) 12 (jex X (d + 6) 77 [.ref 81, .int 1, .int x28] h5 fun r30 h29 => (jrI r30 fun x31 => ((x31 : Int32) &&& 1 = x31 ∧ (Q (some (.int x31)) h29)))))) := by
    intro j h5 hj xj f0 k5 mk5
    have g5 := G_fr g rfl k5
    have e1 : hft t N j = 1 := by unfold hft; rw [if_pos f0]
    change jgI h5 (.ref 81) 12 20 fun x43 => (jrc h5 (.ref 81) 12 (jex X (d + 5 + 1) 77 [.ref 81, .int (nI 1), .int x43] h5 fun r45 h44 => (jrI r45 fun x46 => ((fun (x46 : Int32) (h44 : JH) => ((x46 : Int32) &&& 1 = x46 ∧ (Q (some (.int x46)) h44))) x46 h44))))
    exact c_mstopK g5 st hj mk5 (by decide) e1 (fun _ w => by have := w.2.1; omega) (fun h6 k6 sp => ⟨by decide, HS h6 (fr_trans k5 (fr_mono (by decide) (by decide) k6)) sp⟩)
  rw [jE_X12_letTold]
  refine jT_X12_letTold_0 ?_
  rw [jgI_ob (c := 12) (by simp only [gM g]) rfl, mk.1.1, jrc_ob (by simp only [gM g])]
  change jex X (d + 1 + 5) 79 _ _ _
  refine c_pass g st hk mk (hft_pw fw (fun q => by omega) (fun q => by omega)) (fun h1 k1 sp => ?_) (fun lt o0 h1 k1 mk1 => ?_)
  · try dsimp only [jrI, jrN, jrA, jisr, jnul, jcat1]
    exact jif_t rfl ⟨by decide, HS h1 (fr_mono (by decide) (by decide) k1) sp⟩
  try dsimp only [jrI, jrN, jrA, jisr, jnul, jcat1]
  refine jif_n (by decide) ?_
  have g1 := G_fr g rfl k1
  have k1f : fr MAr MFi h h1 := fr_mono (by decide) (by decide) k1
  have ok1 : OKt t N (k + 1) := fun j hj => st.1 j (by omega)
  have x2 : xe t N (k + 1) = 2 := (xe_2 ok1).1.2 h4
  have q0 := q_name (t := t) (N := N) (k := k) (by omega)
  have et1 : tld t N (k + 1) = tld t N k := by funext j; show (if tK t N k = 15 ∧ j = nnum t N (la t N k + 1) then true else tld t N k j) = _; rw [if_neg (by omega)]
  have lp1 : LTP t N k (k + 1) := by
    refine ⟨by rw [q_ns, isSt_t (by omega)]; rfl, by rw [xo_s, if_neg (by omega), if_neg (by omega), if_neg (by omega)], fun i => by rw [q_cl, if_neg (by omega)], fun i h1 h2 => by omega, by rw [q_la, if_pos h4], et1⟩
  have mn1 : MN h1 t N (nms t N (k + 1)) (tld t N (k + 1)) := by rw [q0.1, et1]; exact MN_fr mn k1 rfl
  have ms1 := MSx_fr ms k1 rfl
  obtain ⟨kk, k0', k1', k2', k3', k4'⟩ := mk_k mk1
  rw [jgI_ob (c := 12) (by simp only [gM g1]) rfl, kk]
  refine ⟨fun c2 => ?_, fun c2 => ?_⟩
  case refine_2 =>
    refine STOP1 (k + 1) h1 (by omega) (by omega) (Classical.byContradiction (fun q => ?_)) k1f mk1
    have f2 := fwl_inv q
    have n2 : tK t N (k + 1) ≠ 2 := fun w => c2 (k1'.2 w)
    omega
  have h2 := k1'.1 c2
  have fw1 : fwl t N (k + 1) = 3 := by
    unfold fwl fol
    rw [if_neg (by omega), if_pos x2, if_pos h2]
  rw [jrc_ob (by simp only [gM g1])]
  change jex X (d + 5 + 1) 80 _ _ _
  refine c_named g1 mk1 h2 ok1 mn1 (fun n12 h3 k3 l102 mn3 => ?_) (fun n12 => ?_)
  case refine_2 =>
    try dsimp only [jrI, jrN, jrA, jisr, jnul, jcat1]
    refine jif_t (by decide) ?_
    have e2 : hft t N (k + 1) = 2 := by
      unfold hft
      rw [if_neg (by omega), if_pos (Or.inr (Or.inl ⟨h2, n12⟩))]
    change jgI h1 (.ref 81) 12 20 fun x43 => (jrc h1 (.ref 81) 12 (jex X (d + 5 + 1) 77 [.ref 81, .int (nI 2), .int x43] h1 fun r45 h44 => (jrI r45 fun x46 => ((fun (x46 : Int32) (h44 : JH) => ((x46 : Int32) &&& 1 = x46 ∧ (Q (some (.int x46)) h44))) x46 h44))))
    exact c_mstopK g1 st (by omega) mk1 (by decide) e2 (fun q => absurd q (by decide)) (fun h6 k6 sp => ⟨by decide, HS h6 (fr_trans k1f (fr_mono (by decide) (by decide) k6)) sp⟩)
  try dsimp only [jrI, jrN, jrA, jisr, jnul, jcat1]
  refine jif_n (nI_pos (by omega)) ?_
  have k3f : fr MAr MFi h h3 := fr_trans k1f (fr_mono (by decide) (by decide) k3)
  have g3 := G_fr g rfl k3f
  have ms3 := MSx_fr ms1 k3 rfl
  rw [jrc_ob (by simp only [gM g3])]
  change jex X (d + 5 + 1) 81 _ _ _
  refine c_newStep g3 (m := ns t N k) ms3.1 (by omega) (fun h4' k4 p90 p91 p92 p900 => ?_)
  have g4 := G_fr g3 rfl k4
  have e96 : aF h4' 96 1 = nI (na t N k) := by rw [frF k4 (by decide), frF k3 (by decide), frF k1 (by decide)]; exact ma.1
  try dsimp only [jrI, jrN, jrA, jisr, jnul, jcat1]
  simp (decide := true) only [jgf_ob (c := 12), gM g4, gN g4, jaI_ar (p := 96) (n := 2), jwI_ar (p := 93) (n := 820), jwI_ar (p := 94) (n := 820), jrc_ob (c := 12), obj_wF, arr_wF, fV_wF, ivk, ick, i1, c1, true_and, aF_wF_ne, e96]
  have k5 : fr [93, 94] [] h4' (wF (wF h4' 93 (upd (aF h4' 93) (410 + ns t N k) (nI (nnum t N (k + 1))))) 94 (upd (aF h4' 94) (410 + ns t N k) (nI (na t N k)))) := fr_wF (by decide) (fr_wF (by decide) fr_rfl)
  have p93 : aF (wF (wF h4' 93 (upd (aF h4' 93) (410 + ns t N k) (nI (nnum t N (k + 1))))) 94 (upd (aF h4' 94) (410 + ns t N k) (nI (na t N k)))) 93 = upd (aF h4' 93) (410 + ns t N k) (nI (nnum t N (k + 1))) := by rw [aF_wF_ne (by decide)]; exact aF_wF (t := .int) (n := 820) (by simp only [gM g4])
  have p94 : aF (wF (wF h4' 93 (upd (aF h4' 93) (410 + ns t N k) (nI (nnum t N (k + 1))))) 94 (upd (aF h4' 94) (410 + ns t N k) (nI (na t N k)))) 94 = upd (aF h4' 94) (410 + ns t N k) (nI (na t N k)) := aF_wF (t := .int) (n := 820) (by simp only [arr_wF, gM g4])
  generalize wF (wF h4' 93 (upd (aF h4' 93) (410 + ns t N k) (nI (nnum t N (k + 1))))) 94 (upd (aF h4' 94) (410 + ns t N k) (nI (na t N k))) = h5 at *
  have k35 : fr [90, 91, 92, 93, 94] [] h3 h5 := fr_trans (fr_mono (by decide) (by decide) k4) (fr_mono (by decide) (by decide) k5)
  have k5f : fr MAr MFi h h5 := fr_trans k3f (fr_mono (by decide) (by decide) k35)
  have g5 := G_fr g rfl k5f
  have lw3 : LOW h1 h3 := by
    refine ⟨?_, fun j hj => ⟨?_, ?_, ?_, ?_, ?_⟩, ?_, fun j hj => ⟨?_, ?_, ?_, ?_, ?_⟩, ?_⟩
    all_goals (try rw [frF k3 (by decide)])
    · exact l102
  have lw35 : LOW h3 h5 := by
    refine ⟨?_, fun j hj => ⟨?_, ?_, ?_, ?_, ?_⟩, ?_, fun j hj => ⟨?_, ?_, ?_, ?_, ?_⟩, ?_⟩
    all_goals (try rw [frF k35 (by decide)])
    · rw [frF k5 (by decide)]; exact p900
    · rw [frF k5 (by decide), p91, upd_n (by omega)]
    · rw [frF k5 (by decide), p92, upd_n (by omega)]
    · rw [p93, upd_n (by omega), frF k4 (by decide)]
    · rw [p94, upd_n (by omega), frF k4 (by decide)]
  have mk5 : MKt bh h5 t N (k + 1) := MKt_lw (MKt_lw mk1 k3 rfl rfl lw3) k35 rfl rfl lw35
  change jex X (d + 1 + 5) 79 _ _ _
  refine c_pass g5 st (by omega) mk5 (hft_pw (by omega) (fun _ => n12) (fun q => by omega)) (fun h6 k6 sp => ?_) (fun lt6 o6 h6 k6 mk6 => ?_)
  · try dsimp only [jrI, jrN, jrA, jisr, jnul, jcat1]
    exact jif_t rfl (HS h6 (fr_trans k5f (fr_mono (by decide) (by decide) k6)) sp)
  try dsimp only [jrI, jrN, jrA, jisr, jnul, jcat1]
  refine jif_n (by decide) ?_
  have k6f : fr MAr MFi h h6 := fr_trans k5f (fr_mono (by decide) (by decide) k6)
  have g6 := G_fr g rfl k6f
  have x3 : xe t N (k + 2) = 3 := by show xe t N (k + 1 + 1) = 3; rw [xe_s]; exact fw1
  have qt := q_told (t := t) (N := N) h2 x2
  have lp2 : LTP t N k (k + 2) := LTP_s lp1 (by omega)
  have lm6 : LTM bh h6 t N k (k + 2) := by
    refine ⟨mk6, ?_, ?_, ?_, ?_, ?_, ?_, ?_, ?_, ?_⟩
    · rw [show tld t N (k + 2) = tld t N (k + 1) by rw [lp2.2.2.2.2.2, et1]]
      exact MN_fr (MN_fr mn3 k35 rfl) k6 rfl
    · have w := MAt_fr (MAt_fr (MAt_fr (MAt_fr ma k1 rfl) k3 rfl) k35 rfl) k6 rfl
      refine ⟨by rw [show na t N (k + 2) = na t N k from qt.2.1.trans q0.2.2.1]; exact w.1, fun i hi ai => w.2 i ?_ ai⟩
      refine Classical.byContradiction (fun q => ?_)
      rcases (show i = k ∨ i = k + 1 by omega) with e | e
      · rw [e, q0.2.1] at ai; cases ai
      · rw [e, qt.1] at ai; cases ai
    · have w := MFl_fr (MFl_fr (MFl_fr (MFl_fr mf k1 rfl) k3 rfl) k35 rfl) k6 rfl
      unfold MFl at w ⊢
      rw [show sft t N (k + 2) = sft t N k from qt.2.2.trans q0.2.2.2]
      exact w
    · refine MSx_fr ?_ k6 rfl
      refine ⟨by rw [frF k5 (by decide)]; exact p90, fun i hi si => ?_⟩
      have li := ns_lt hi si
      refine MS1_eq (h := h3) (m := ns t N k) (ms3.2 i hi si) li (fun j hj => ?_) (fun j hj => ?_) (fun j hj => ?_) (fun j hj => ?_) (fun j hj => ?_)
      · rw [frF k5 (by decide), p91, upd_n (by omega)]
      · rw [frF k5 (by decide), p92, upd_n (by omega)]
      · rw [p93, upd_n (by omega), frF k4 (by decide)]
      · rw [p94, upd_n (by omega), frF k4 (by decide)]
      · rw [frF k35 (by decide)]
    · rw [frF k6 (by decide), frF k5 (by decide), p91, upd_s]
    · rw [frF k6 (by decide), frF k5 (by decide), p92, upd_s]
    · rw [frF k6 (by decide), p93, upd_s]
    · rw [frF k6 (by decide), p94, upd_s]
    · refine MOp_fr ?_ k6 rfl rfl
      have w := MOp_fr (MOp_fr mo k1 rfl rfl) k3 rfl rfl
      refine ⟨by rw [frI k35 (by decide) (by decide)]; exact w.1, fun i hi => ?_⟩
      have xg := xo_g (t := t) (N := N) (k := k) (j := i) (by omega)
      refine OPn_eq (m := ns t N k) (w.2 i hi) (ns_mono (by omega)) ?_ ?_ (fun z hz => ?_)
      · rw [frF k35 (by decide)]
      · rw [frF k35 (by decide)]
      · rw [frF k5 (by decide), p91, upd_n (by omega)]
  rw [jrc_ob (by simp only [gM g6]), jE_X12_signs]
  refine jT_X12_signs_0 ?_
  rw [jrc_ob (by simp only [gM g6])]
  change jex X (d + 4 + 1) 83 [.ref 81, .int (sgM 16)] _ _
  refine c_isSign g6 mk6 (by decide) (by decide) (fun q => ?_) (fun q => ?_)
  · try dsimp only [jrI, jrN, jrA, jisr, jnul, jcat1]
    refine jif_n (by decide) ?_
    have q' : tK t N (k + 2) = 16 := q
    have fw2 : fwl t N (k + 2) = 4 := by
      unfold fwl fol
      rw [if_neg (by omega), if_neg (by omega), if_pos x3, if_pos q]
    rw [jrc_ob (by simp only [gM g6])]
    refine c_letPass g6 st (j := k + 2) (by omega) lm6 (by omega) (by omega) (fun h7 k7 sp => ?_) (fun hj7 h7 k7 lm7 => ?_)
    · try dsimp only [jrI, jrN, jrA, jisr, jnul, jcat1]
      exact ⟨by decide, jif_t rfl (HS h7 (fr_trans k6f (fr_mono (by decide) (by decide) k7)) sp)⟩
    try dsimp only [jrI, jrN, jrA, jisr, jnul, jcat1]
    refine ⟨by decide, jif_n (by decide) ?_⟩
    have x4 : xe t N (k + 3) = 4 := by show xe t N (k + 2 + 1) = 4; rw [xe_s]; exact fw2
    refine c_letLoop g st hk h4 h2 n12 HS HC (K - (k + 3)) (k + 3) h7 0 _ _ _ _ (by omega) (by omega) x4 ?_ (fr_trans k6f (fr_mono (by decide) (by decide) k7)) lm7 (LTP_s lp2 (by omega))
    show (0 : Int32) = bi (decide (tK t N (k + 1 + 1) = 20))
    rw [decide_eq_false (by omega)]
    rfl
  · try dsimp only [jrI, jrN, jrA, jisr, jnul, jcat1]
    refine jif_t rfl ?_
    have f0 : fwl t N (k + 2) = 0 := Classical.byContradiction (fun w => by
      have := fwl_inv w
      have q' : tK t N (k + 2) ≠ 16 := q
      omega)
    have e1 : hft t N (k + 2) = 1 := by unfold hft; rw [if_pos f0]
    change jgI h6 (.ref 81) 12 20 fun x43 => (jrc h6 (.ref 81) 12 (jex X (d + 4 + 1) 77 [.ref 81, .int (nI 1), .int x43] h6 fun r45 h44 => (jrI r45 fun x46 => ((fun (x46 : Int32) (h44 : JH) => ((x46 : Int32) &&& 1 = x46 ∧ (jrI (some (.int x46)) fun x23 => (jifp (x23 = 0) (Q (some (.int 0)) h44) (jB_X12_letTold_101 X (d + 6) Q 81 (some (.int (nI (tS t N k)))) (nI (nnum t N (k + 1))) (nI (410 + ns t N k)) 1 0 none h44 0 0))))) x46 h44))))
    refine c_mstopK g6 st (by omega) mk6 (by decide) e1 (fun _ w => by have w1 : xe t N (k + 2) = 1 := w.2.1; omega) (fun h7 k7 sp => ⟨by decide, ?_⟩)
    try dsimp only [jrI, jrN, jrA, jisr, jnul, jcat1]
    exact jif_t rfl (HS h7 (fr_trans k6f (fr_mono (by decide) (by decide) k7)) sp)
end LTT
