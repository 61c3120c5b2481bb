section CTRA
variable {X : JX} {d : Nat} {Q : JQ} {h : JH} {N K : Nat} {t : Nat → Int}
theorem c_isWrongA (g : G h) (cp : CPA h t N K) (ok : OKt t N K) {i : Nat} (hi : i < K) (h3 : tK t N i = 3) (K4 : K ≤ 400) (H1 : wrg t N i = true → Q (some (.int 1)) h) (H0 : wrg t N i = false → Q (some (.int 0)) h) : jex X (d + 3) 64 [.ref 10, .int (nI i)] h Q := by
  obtain ⟨c4, cn, c7, co, ca⟩ := id cp
  have a := ca i hi
  have a3 := a.2.2.2.1 h3
  have dl := dgs_lt (t := t) (N := N) (b := tS t N i)
  have tl' := tur_lt (t := t) (N := N) (k := tS t N i) h3
  rw [jE_X5_isWrong]
  refine jT_X5_isWrong_0 ?_
  have R7 : xe t N i = 7 → jrc h (.ref 10) 5 (jex X (d + 2) 65 [.ref 10, .int (nI i)] h fun r8 h7 => (jrI r8 fun x9 => (jifp (99 < x9) ((1 : Int32) &&& 1 = 1 ∧ (Q (some (.int 1)) h7)) ((0 : Int32) &&& 1 = 0 ∧ (Q (some (.int 0)) h7))))) := by
    intro e7
    rw [jrc_ob (by simp only [gO g])]
    refine c_secondA g c4 K4 (fun j hj e => ?_) (fun q => absurd rfl (q i hi))
    have ej : i = j := (nI_eq (by omega) (by omega)).1 e
    subst ej
    rw [a3.2, if_pos e7]
    try dsimp only [jrI, jrN, jrA, jisr, jnul, jcat1]
    refine ⟨fun q => ⟨by decide, H1 ?_⟩, fun q => ⟨by decide, H0 ?_⟩⟩
    · have q := (nI_ltI (a := 99) (by omega) (by omega)).1 q
      unfold tur at q
      refine decide_eq_true ⟨h3, Or.inl ⟨e7, ?_⟩⟩
      split at q
      · next c => exact Or.inl c
      · exact Or.inr q
    · refine decide_eq_false (fun w => q (nI_lt (a := 99) ?_ (by omega)))
      rcases w.2 with ⟨_, w2⟩ | ⟨w1, _⟩
      · unfold tur
        rcases w2 with w2 | w2
        · rw [if_pos w2]; decide
        · split
          · decide
          · exact w2
      · exact absurd e7 w1
  have R0 : xe t N i ≠ 7 → jrc h (.ref 10) 5 (jex X (d + 2) 62 [.ref 10, .int (nI i)] h fun r5 h4 => (jrI r5 fun x6 => (jifp (x6 = 0) ((1 : Int32) &&& 1 = 1 ∧ (Q (some (.int 1)) h4)) ((0 : Int32) &&& 1 = 0 ∧ (Q (some (.int 0)) h4))))) := by
    intro e7
    rw [jrc_ob (by simp only [gO g])]
    refine c_firstA g c4 K4 (fun j hj e => ?_) (fun q => absurd rfl (q i hi))
    have ej : i = j := (nI_eq (by omega) (by omega)).1 e
    subst ej
    rw [a3.1]
    try dsimp only [jrI, jrN, jrA, jisr, jnul, jcat1]
    refine ⟨fun q => ⟨by decide, H1 ?_⟩, fun q => ⟨by decide, H0 ?_⟩⟩
    · have q := (nI_eq (b := 0) (by omega) (by omega)).1 q
      exact decide_eq_true ⟨h3, Or.inr ⟨e7, q⟩⟩
    · refine decide_eq_false (fun w => q ?_)
      rcases w.2 with ⟨w1, _⟩ | ⟨_, w2⟩
      · exact absurd w1 e7
      · rw [w2]; rfl
  rw [jrc_ob (by simp only [gO g])]
  cases i with
  | zero =>
    have : xe t N 0 = 1 := rfl
    refine c_kindA g c4 K4 (fun j hj e => ?_) (fun q => ?_)
    · have := congrArg Int32.toInt e
      rw [nI_toInt (by omega)] at this
      have q : (nI 0 - 1).toInt = -1 := rfl
      omega
    · try dsimp only [jrI, jrN, jrA, jisr, jnul, jcat1]
      exact jif_n (by decide) (R0 (by omega))
  | succ i =>
    rw [show nI (i + 1) - 1 = nI i from nI_pred i]
    refine c_kindA g c4 K4 (fun j hj e => ?_) (fun q => absurd rfl (q i (by omega)))
    have ej : i = j := (nI_eq (by omega) (by omega)).1 e
    subst ej
    have x2 := xe_2 (OKt_m (j := i + 1) ok (by omega))
    have hq : tK t N i ≤ 20 := tkK_r _
    rw [(ca i hj).1]
    try dsimp only [jrI, jrN, jrA, jisr, jnul, jcat1]
    refine ⟨fun q => R7 (x2.2.2 ((nI_eq (b := 5) (by omega) (by omega)).1 q)), fun q => R0 (fun w => q (by rw [x2.2.1 w]; rfl))⟩
/-- the fault fields of an untroubled reading -/
theorem c_checkAtomsA (g : G h) (cp : CPA h t N K) (ok : OKt t N K) (K4 : K ≤ 400) (f11 : fI h 10 10 = 0) (f12 : fI h 10 11 = -1) (H : ∀ h1, fr [] [(10, 10), (10, 11)] h h1 → fI h1 10 10 = nI (sft t N K).1 → fI h1 10 11 = zI (sft t N K).2 → Q none h1) : jex X (d + 4) 61 [.ref 10] h Q := by
  obtain ⟨c4, cn, c7, co, ca⟩ := id cp
  -- a fault was noted at token i
  have FLT : ∀ (i : Nat) (v : Nat) (a1 a2 : Int32) (o : Option Value) (c s : Nat), i < K → v ≠ 0 → v < 10 → sft t N (i + 1) = (v, (tS t N i : Int)) → jrc h (.ref 10) 5 (jex X (d + 3) 63 [.ref 10, .int (nI i)] h fun r5 h4 => (jrI r5 fun x6 => (jrc h4 (.ref 10) 5 (jex X (d + 3) 56 [.ref 10, .int (nI v), .int x6] h4 fun r8 h7 => (jrN r8 (jB_X5_checkAtoms_6 X (d + 3) Q 10 a1 a2 (nI i + 1) o h7 c s)))))) := by
    intro i v a1 a2 o c s hi v0 v10 es
    have sN : tS t N i ≤ N := tS_le i
    have e1 : sft t N K = (v, (tS t N i : Int)) := by
      have q := sft_st (t := t) (N := N) (i := i + 1) (by rw [es]; exact v0) (K - (i + 1))
      rw [show i + 1 + (K - (i + 1)) = K by omega] at q
      rw [q, es]
    rw [jrc_ob (by simp only [gO g])]
    change jex X (d + 1 + 2) 63 _ _ _
    refine c_startA g c4 K4 (fun j hj e => ?_) (fun q => absurd rfl (q i hi))
    have ej : i = j := (nI_eq (by omega) (by omega)).1 e
    subst ej
    rw [(ca i hj).2.1]
    try dsimp only [jrI, jrN, jrA, jisr, jnul, jcat1]
    rw [jrc_ob (by simp only [gO g])]
    change jex X (d + 2 + 1) 56 _ _ _
    refine c_noteA g (fun _ => ?_) (fun q => absurd f11 q)
    try dsimp only [jrI, jrN, jrA, jisr, jnul, jcat1]
    have k1 : fr [] [(10, 10), (10, 11)] h (sV (sV h 10 10 (.int (nI v))) 10 11 (.int (nI (tS t N i)))) := fr_sV (by decide) (fr_sV (by decide) fr_rfl)
    have q11 : fI (sV (sV h 10 10 (.int (nI v))) 10 11 (.int (nI (tS t N i)))) 10 10 = nI v := by simp (decide := true) only [jgI_ob, jgf_ob, jgL_ob, jpI_ob, jpL_ob, jpR_ob, jpN_ob, jrc_ob, obj_sV, obj_wF, obj_wG, obj_wR, arr_sV, arr_wF, arr_wG, arr_wR, arL_sV, arL_wF, arL_wG, arL_wR, arR_sV, arR_wF, arR_wG, arR_wR, fI_sV (c := 0), fI_sV (c := 1), fI_sV (c := 2), fI_sV (c := 4), fI_sV (c := 5), fI_sV (c := 7), fI_sV (c := 8), fI_sV (c := 9), fI_sV (c := 10), fI_sV (c := 11), fI_sV (c := 12), fI_sV (c := 6), fL_sV (c := 9), fL_sV (c := 12), fI_sV_k, fL_sV_k, fV_sV_k, fI_wF, fI_wG, fI_wR, fL_wF, fL_wG, fL_wR, fV_wF, fV_wG, fV_wR, aF_sV, aG_sV, aR_sV, aF_wG, aF_wR, aG_wF, aG_wR, aR_wF, aR_wG, gO g]
    have q12 : fI (sV (sV h 10 10 (.int (nI v))) 10 11 (.int (nI (tS t N i)))) 10 11 = nI (tS t N i) := by simp (decide := true) only [jgI_ob, jgf_ob, jgL_ob, jpI_ob, jpL_ob, jpR_ob, jpN_ob, jrc_ob, obj_sV, obj_wF, obj_wG, obj_wR, arr_sV, arr_wF, arr_wG, arr_wR, arL_sV, arL_wF, arL_wG, arL_wR, arR_sV, arR_wF, arR_wG, arR_wR, fI_sV (c := 0), fI_sV (c := 1), fI_sV (c := 2), fI_sV (c := 4), fI_sV (c := 5), fI_sV (c := 7), fI_sV (c := 8), fI_sV (c := 9), fI_sV (c := 10), fI_sV (c := 11), fI_sV (c := 12), fI_sV (c := 6), fL_sV (c := 9), fL_sV (c := 12), fI_sV_k, fL_sV_k, fV_sV_k, fI_wF, fI_wG, fI_wR, fL_wF, fL_wG, fL_wR, fV_wF, fV_wG, fV_wR, aF_sV, aG_sV, aR_sV, aF_wG, aF_wR, aG_wF, aG_wR, aR_wF, aR_wG, gO g]
    have q4 : fI (sV (sV h 10 10 (.int (nI v))) 10 11 (.int (nI (tS t N i)))) 10 4 = nI K := by simp (decide := true) only [jgI_ob, jgf_ob, jgL_ob, jpI_ob, jpL_ob, jpR_ob, jpN_ob, jrc_ob, obj_sV, obj_wF, obj_wG, obj_wR, arr_sV, arr_wF, arr_wG, arr_wR, arL_sV, arL_wF, arL_wG, arL_wR, arR_sV, arR_wF, arR_wG, arR_wR, fI_sV (c := 0), fI_sV (c := 1), fI_sV (c := 2), fI_sV (c := 4), fI_sV (c := 5), fI_sV (c := 7), fI_sV (c := 8), fI_sV (c := 9), fI_sV (c := 10), fI_sV (c := 11), fI_sV (c := 12), fI_sV (c := 6), fL_sV (c := 9), fL_sV (c := 12), fI_sV_k, fL_sV_k, fV_sV_k, fI_wF, fI_wG, fI_wR, fL_wF, fL_wG, fL_wR, fV_wF, fV_wG, fV_wR, aF_sV, aG_sV, aR_sV, aF_wG, aF_wR, aG_wF, aG_wR, aR_wF, aR_wG, gO g, c4]
    generalize sV (sV h 10 10 (.int (nI v))) 10 11 (.int (nI (tS t N i))) = h1 at *
    have g1 := G_fr g rfl k1
    have FIN : Q none h1 := by
      refine H h1 k1 ?_ ?_
      · rw [e1]; exact q11
      · rw [e1, q12]
        rfl
    refine jT_X5_checkAtoms_6 ?_
    rw [jgI_ob (c := 5) (by simp only [gO g1]) rfl, q4, nI_1]
    refine ⟨fun _ => ?_, fun _ => FIN⟩
    rw [jgI_ob (c := 5) (by simp only [gO g1]) rfl, q11]
    exact jif_n (nI_ne0 (by omega) (by omega)) FIN
  have L : ∀ (r i : Nat) (m : Nat) (a2 : Int32) (o4 : Option Value) (c s : Nat), i + r = K → (sft t N i).1 = 0 → m < 4096 → (∀ j, m.testBit j = tld t N i j) → (3 ≤ xe t N i → xe t N i ≤ 6 → a2 = nI (nnum t N (la t N i + 1))) → jB_X5_checkAtoms_6 X (d + 3) Q 10 (nI m) a2 (nI i) o4 h c s := by
    intro r
    induction r with
    | zero =>
      intro i m a2 o4 c s hi sf hm hb ha
      refine jT_X5_checkAtoms_6 ?_
      rw [jgI_ob (c := 5) (by simp only [gO g]) rfl, c4]
      refine jif_n (nI_nlt (by omega) (by omega)) (H h fr_rfl ?_ ?_)
      · rw [show K = i by omega, sf]; exact f11
      · rw [show K = i by omega, sft_0 i sf, f12]; rfl
    | succ r ih =>
      intro i m a2 o4 c s hi sf hm hb ha
      have hi' : i < K := by omega
      have oki := OKt_m (j := i) ok (by omega)
      have ok1 := OKt_m (j := i + 1) ok (by omega)
      have hf := hft_0 (ok i hi')
      have fi := fwl_inv hf.1
      have a := ca i hi'
      have hq : tK t N i ≤ 20 := tkK_r _
      have J : ∀ c : Nat, c < 100 → (nI (tK t N i) = nI c ↔ tK t N i = c) := fun c hc => nI_eq (by omega) (by omega)
      have J2 : nI (tK t N i) = 2 ↔ tK t N i = 2 := J 2 (by omega)
      have J3 : nI (tK t N i) = 3 ↔ tK t N i = 3 := J 3 (by omega)
      have J15 : nI (tK t N i) = 15 ↔ tK t N i = 15 := J 15 (by omega)
      have es : sft t N (i + 1) = if unt t N i = true then (4, (tS t N i : Int)) else if wrg t N i = true then (5, (tS t N i : Int)) else sft t N i := by
        rw [sft_s, if_neg (fun q => q sf)]
      have ela : la t N (i + 1) = if tK t N i = 4 then i else la t N i := rfl
      have etl : ∀ j, tld t N (i + 1) j = if tK t N i = 15 ∧ j = nnum t N (la t N i + 1) then true else tld t N i j := fun j => rfl
      -- nothing of note
      have NXT : ∀ (o : Option Value), unt t N i = false → wrg t N i = false → tK t N i ≠ 15 → ¬ (tK t N i = 2 ∧ xe t N i = 2) → jB_X5_checkAtoms_6 X (d + 3) Q 10 (nI m) a2 (nI i + 1) o h c s := by
        intro o u w n15 nn
        rw [nI_1]
        refine ih (i + 1) m a2 _ _ _ (by omega) ?_ hm (fun j => ?_) (fun x3 x6 => ?_)
        · rw [es, u, w]; exact sf
        · rw [etl, if_neg (fun q => n15 q.1)]; exact hb j
        · rw [xe_s] at x3 x6
          have n4 : tK t N i ≠ 4 := by omega
          rw [ela, if_neg n4]
          exact ha (by omega) (by omega)
      -- behind the look for a told name
      have V54 : ¬ (tK t N i = 2 ∧ xe t N i = 2) → jB_X5_checkAtoms_54 X (d + 3) Q 10 (nI m) a2 (nI i) (nI (tK t N i)) h c s := by
        intro nn
        refine jT_X5_checkAtoms_54 ?_
        refine ⟨fun q2 => ?_, fun q2 => ?_⟩
        · have q2 := J2.1 q2
          have n12 := hf.2.2.1 q2
          rw [jrc_ob (by simp only [gO g])]
          change jex X (d + 1 + 2) 62 _ _ _
          refine c_firstA g c4 K4 (fun j hj e => ?_) (fun q => absurd rfl (q i hi'))
          have ej : i = j := (nI_eq (by omega) (by omega)).1 e
          subst ej
          rw [a.2.2.1 q2]
          try dsimp only [jrI, jrN, jrA, jisr, jnul, jcat1]
          refine ⟨fun b => ?_, fun b => ?_⟩
          · have b := (bit_at hm (by omega)).1 b
            rw [hb] at b
            refine FLT i 4 _ _ _ _ _ hi' (by decide) (by decide) ?_
            rw [es, if_pos (show unt t N i = true from decide_eq_true ⟨q2, fun q => nn ⟨q2, q⟩, b⟩)]
          · have b : tld t N i (nnum t N i) = true := by
              cases e : tld t N i (nnum t N i) with
              | true => rfl
              | false => exact absurd ((bit_at hm (by omega)).2 (by rw [hb]; exact e)) b
            refine jif_n (fun q => by have := J15.1 q; omega) (jif_n (fun q => by have := J3.1 q; omega) (NXT _ ?_ ?_ (by omega) nn))
            · exact decide_eq_false (fun w => by rw [w.2.2] at b; cases b)
            · exact decide_eq_false (fun w => by omega)
        · have n2 : tK t N i ≠ 2 := fun q => q2 (J2.2 q)
          have u : unt t N i = false := decide_eq_false (fun w => n2 w.1)
          refine ⟨fun q15 => ?_, fun q15 => ?_⟩
          · have q15 := J15.1 q15
            have l := la_in i oki (by omega) (by omega)
            have l2 := l.2.2.2.1 (by omega)
            have n12 := (hft_0 (ok (la t N i + 1) (by omega))).2.2.1 l2.2
            rw [ha (by omega) (by omega), nI_1]
            obtain ⟨m', hm', em, eb⟩ := bit_set (m := m) n12 hm
            rw [em]
            refine ih (i + 1) m' _ _ _ _ (by omega) ?_ hm' (fun j => ?_) (fun x3 x6 => ?_)
            · rw [es, u, show wrg t N i = false from decide_eq_false (fun w => by omega)]; exact sf
            · rw [etl, eb, hb]
              by_cases q : j = nnum t N (la t N i + 1)
              · rw [if_pos ⟨q15, q⟩, decide_eq_true q.symm, Bool.or_true]
              · rw [if_neg (fun w => q w.2), decide_eq_false (fun w => q w.symm), Bool.or_false]
            · rw [xe_s] at x3
              omega
          · have n15 : tK t N i ≠ 15 := fun q => q15 (J15.2 q)
            refine ⟨fun q3 => ?_, fun q3 => ?_⟩
            · have q3 := J3.1 q3
              rw [jrc_ob (by simp only [gO g])]
              refine c_isWrongA g cp ok hi' q3 K4 (fun w => ?_) (fun w => ?_)
              · try dsimp only [jrI, jrN, jrA, jisr, jnul, jcat1]
                refine jif_n (by decide) ?_
                refine FLT i 5 _ _ _ _ _ hi' (by decide) (by decide) ?_
                rw [es, u, if_neg (by decide), if_pos w]
              · try dsimp only [jrI, jrN, jrA, jisr, jnul, jcat1]
                exact jif_t rfl (NXT _ u w n15 nn)
            · have n3 : tK t N i ≠ 3 := fun q => q3 (J3.2 q)
              exact NXT _ u (decide_eq_false (fun w => n3 w.1)) n15 nn
      refine jT_X5_checkAtoms_6 ?_
      rw [jgI_ob (c := 5) (by simp only [gO g]) rfl, c4]
      refine jif_t (nI_lt hi' (by omega)) ?_
      rw [jgI_ob (c := 5) (by simp only [gO g]) rfl, f11]
      refine jif_t rfl ?_
      rw [jrc_ob (by simp only [gO g])]
      change jex X (d + 1 + 2) 54 _ _ _
      refine c_kindA g c4 K4 (fun j hj e => ?_) (fun q => absurd rfl (q i hi'))
      have ej : i = j := (nI_eq (by omega) (by omega)).1 e
      subst ej
      rw [a.1]
      try dsimp only [jrI, jrN, jrA, jisr, jnul, jcat1]
      refine ⟨fun q2 => ?_, fun q2 => V54 (fun w => q2 (J2.2 w.1))⟩
      have q2 := J2.1 q2
      rw [jrc_ob (by simp only [gO g])]
      cases i with
      | zero =>
        have : xe t N 0 = 1 := rfl
        omega
      | succ i =>
        rw [show nI (i + 1) - 1 = nI i from nI_pred i]
        change jex X (d + 1 + 2) 54 _ _ _
        refine c_kindA g c4 K4 (fun j hj e => ?_) (fun q => absurd rfl (q i (by omega)))
        have ej : i = j := (nI_eq (by omega) (by omega)).1 e
        subst ej
        have x2 := xe_2 oki
        have hq' : tK t N i ≤ 20 := tkK_r _
        rw [(ca i (by omega)).1]
        try dsimp only [jrI, jrN, jrA, jisr, jnul, jcat1]
        refine ⟨fun q => ?_, fun q => V54 (fun w => q (by rw [x2.1.1 w.2]; rfl))⟩
        have q4 := (nI_eq (b := 4) (by omega) (by omega)).1 q
        have e2 := x2.1.2 q4
        rw [jrc_ob (by simp only [gO g])]
        change jex X (d + 1 + 2) 62 _ _ _
        refine c_firstA g c4 K4 (fun j hj e => ?_) (fun q => absurd rfl (q (i + 1) hi'))
        have ej : i + 1 = j := (nI_eq (by omega) (by omega)).1 e
        rw [← ej, a.2.2.1 q2]
        try dsimp only [jrI, jrN, jrA, jisr, jnul, jcat1]
        rw [nI_1]
        refine ih (i + 1 + 1) m _ _ _ _ (by omega) ?_ hm (fun j => ?_) (fun x3 x6 => ?_)
        · rw [es, show unt t N (i + 1) = false from decide_eq_false (fun w => w.2.1 e2), show wrg t N (i + 1) = false from decide_eq_false (fun w => by omega)]; exact sf
        · rw [etl, if_neg (fun q => by omega)]; exact hb j
        · rw [ela, if_neg (by omega)]
          have : la t N (i + 1) = i := by
            show (if tK t N i = 4 then i else la t N i) = i
            rw [if_pos q4]
          rw [this]
  rw [jE_X5_checkAtoms]
  refine jT_X5_checkAtoms_0 ?_
  exact L K 0 0 0 _ _ _ (by omega) rfl (by decide) (fun j => Nat.zero_testBit j) (fun q => by have : xe t N 0 = 1 := rfl; omega)
end CTRA
section CTRB
variable {X : JX} {d : Nat} {Q : JQ} {h : JH} {N K : Nat} {t : Nat → Int}
theorem c_isWrongB (g : G h) (cp : CPB h t N K) (ok : OKt t N K) {i : Nat} (hi : i < K) (h3 : tK t N i = 3) (K4 : K ≤ 400) (H1 : wrg t N i = true → Q (some (.int 1)) h) (H0 : wrg t N i = false → Q (some (.int 0)) h) : jex X (d + 3) 64 [.ref 17, .int (nI i)] h Q := by
  obtain ⟨c4, cn, c7, co, ca⟩ := id cp
  have a := ca i hi
  have a3 := a.2.2.2.1 h3
  have dl := dgs_lt (t := t) (N := N) (b := tS t N i)
  have tl' := tur_lt (t := t) (N := N) (k := tS t N i) h3
  rw [jE_X5_isWrong]
  refine jT_X5_isWrong_0 ?_
  have R7 : xe t N i = 7 → jrc h (.ref 17) 5 (jex X (d + 2) 65 [.ref 17, .int (nI i)] h fun r8 h7 => (jrI r8 fun x9 => (jifp (99 < x9) ((1 : Int32) &&& 1 = 1 ∧ (Q (some (.int 1)) h7)) ((0 : Int32) &&& 1 = 0 ∧ (Q (some (.int 0)) h7))))) := by
    intro e7
    rw [jrc_ob (by simp only [gO g])]
    refine c_secondB g c4 K4 (fun j hj e => ?_) (fun q => absurd rfl (q i hi))
    have ej : i = j := (nI_eq (by omega) (by omega)).1 e
    subst ej
    rw [a3.2, if_pos e7]
    try dsimp only [jrI, jrN, jrA, jisr, jnul, jcat1]
    refine ⟨fun q => ⟨by decide, H1 ?_⟩, fun q => ⟨by decide, H0 ?_⟩⟩
    · have q := (nI_ltI (a := 99) (by omega) (by omega)).1 q
      unfold tur at q
      refine decide_eq_true ⟨h3, Or.inl ⟨e7, ?_⟩⟩
      split at q
      · next c => exact Or.inl c
      · exact Or.inr q
    · refine decide_eq_false (fun w => q (nI_lt (a := 99) ?_ (by omega)))
      rcases w.2 with ⟨_, w2⟩ | ⟨w1, _⟩
      · unfold tur
        rcases w2 with w2 | w2
        · rw [if_pos w2]; decide
        · split
          · decide
          · exact w2
      · exact absurd e7 w1
  have R0 : xe t N i ≠ 7 → jrc h (.ref 17) 5 (jex X (d + 2) 62 [.ref 17, .int (nI i)] h fun r5 h4 => (jrI r5 fun x6 => (jifp (x6 = 0) ((1 : Int32) &&& 1 = 1 ∧ (Q (some (.int 1)) h4)) ((0 : Int32) &&& 1 = 0 ∧ (Q (some (.int 0)) h4))))) := by
    intro e7
    rw [jrc_ob (by simp only [gO g])]
    refine c_firstB g c4 K4 (fun j hj e => ?_) (fun q => absurd rfl (q i hi))
    have ej : i = j := (nI_eq (by omega) (by omega)).1 e
    subst ej
    rw [a3.1]
    try dsimp only [jrI, jrN, jrA, jisr, jnul, jcat1]
    refine ⟨fun q => ⟨by decide, H1 ?_⟩, fun q => ⟨by decide, H0 ?_⟩⟩
    · have q := (nI_eq (b := 0) (by omega) (by omega)).1 q
      exact decide_eq_true ⟨h3, Or.inr ⟨e7, q⟩⟩
    · refine decide_eq_false (fun w => q ?_)
      rcases w.2 with ⟨w1, _⟩ | ⟨_, w2⟩
      · exact absurd w1 e7
      · rw [w2]; rfl
  rw [jrc_ob (by simp only [gO g])]
  cases i with
  | zero =>
    have : xe t N 0 = 1 := rfl
    refine c_kindB g c4 K4 (fun j hj e => ?_) (fun q => ?_)
    · have := congrArg Int32.toInt e
      rw [nI_toInt (by omega)] at this
      have q : (nI 0 - 1).toInt = -1 := rfl
      omega
    · try dsimp only [jrI, jrN, jrA, jisr, jnul, jcat1]
      exact jif_n (by decide) (R0 (by omega))
  | succ i =>
    rw [show nI (i + 1) - 1 = nI i from nI_pred i]
    refine c_kindB g c4 K4 (fun j hj e => ?_) (fun q => absurd rfl (q i (by omega)))
    have ej : i = j := (nI_eq (by omega) (by omega)).1 e
    subst ej
    have x2 := xe_2 (OKt_m (j := i + 1) ok (by omega))
    have hq : tK t N i ≤ 20 := tkK_r _
    rw [(ca i hj).1]
    try dsimp only [jrI, jrN, jrA, jisr, jnul, jcat1]
    refine ⟨fun q => R7 (x2.2.2 ((nI_eq (b := 5) (by omega) (by omega)).1 q)), fun q => R0 (fun w => q (by rw [x2.2.1 w]; rfl))⟩
/-- the fault fields of an untroubled reading -/
theorem c_checkAtomsB (g : G h) (cp : CPB h t N K) (ok : OKt t N K) (K4 : K ≤ 400) (f11 : fI h 17 10 = 0) (f12 : fI h 17 11 = -1) (H : ∀ h1, fr [] [(17, 10), (17, 11)] h h1 → fI h1 17 10 = nI (sft t N K).1 → fI h1 17 11 = zI (sft t N K).2 → Q none h1) : jex X (d + 4) 61 [.ref 17] h Q := by
  obtain ⟨c4, cn, c7, co, ca⟩ := id cp
  -- a fault was noted at token i
  have FLT : ∀ (i : Nat) (v : Nat) (a1 a2 : Int32) (o : Option Value) (c s : Nat), i < K → v ≠ 0 → v < 10 → sft t N (i + 1) = (v, (tS t N i : Int)) → jrc h (.ref 17) 5 (jex X (d + 3) 63 [.ref 17, .int (nI i)] h fun r5 h4 => (jrI r5 fun x6 => (jrc h4 (.ref 17) 5 (jex X (d + 3) 56 [.ref 17, .int (nI v), .int x6] h4 fun r8 h7 => (jrN r8 (jB_X5_checkAtoms_6 X (d + 3) Q 17 a1 a2 (nI i + 1) o h7 c s)))))) := by
    intro i v a1 a2 o c s hi v0 v10 es
    have sN : tS t N i ≤ N := tS_le i
    have e1 : sft t N K = (v, (tS t N i : Int)) := by
      have q := sft_st (t := t) (N := N) (i := i + 1) (by rw [es]; exact v0) (K - (i + 1))
      rw [show i + 1 + (K - (i + 1)) = K by omega] at q
      rw [q, es]
    rw [jrc_ob (by simp only [gO g])]
    change jex X (d + 1 + 2) 63 _ _ _
    refine c_startB g c4 K4 (fun j hj e => ?_) (fun q => absurd rfl (q i hi))
    have ej : i = j := (nI_eq (by omega) (by omega)).1 e
    subst ej
    rw [(ca i hj).2.1]
    try dsimp only [jrI, jrN, jrA, jisr, jnul, jcat1]
    rw [jrc_ob (by simp only [gO g])]
    change jex X (d + 2 + 1) 56 _ _ _
    refine c_noteB g (fun _ => ?_) (fun q => absurd f11 q)
    try dsimp only [jrI, jrN, jrA, jisr, jnul, jcat1]
    have k1 : fr [] [(17, 10), (17, 11)] h (sV (sV h 17 10 (.int (nI v))) 17 11 (.int (nI (tS t N i)))) := fr_sV (by decide) (fr_sV (by decide) fr_rfl)
    have q11 : fI (sV (sV h 17 10 (.int (nI v))) 17 11 (.int (nI (tS t N i)))) 17 10 = nI v := by simp (decide := true) only [jgI_ob, jgf_ob, jgL_ob, jpI_ob, jpL_ob, jpR_ob, jpN_ob, jrc_ob, obj_sV, obj_wF, obj_wG, obj_wR, arr_sV, arr_wF, arr_wG, arr_wR, arL_sV, arL_wF, arL_wG, arL_wR, arR_sV, arR_wF, arR_wG, arR_wR, fI_sV (c := 0), fI_sV (c := 1), fI_sV (c := 2), fI_sV (c := 4), fI_sV (c := 5), fI_sV (c := 7), fI_sV (c := 8), fI_sV (c := 9), fI_sV (c := 10), fI_sV (c := 11), fI_sV (c := 12), fI_sV (c := 6), fL_sV (c := 9), fL_sV (c := 12), fI_sV_k, fL_sV_k, fV_sV_k, fI_wF, fI_wG, fI_wR, fL_wF, fL_wG, fL_wR, fV_wF, fV_wG, fV_wR, aF_sV, aG_sV, aR_sV, aF_wG, aF_wR, aG_wF, aG_wR, aR_wF, aR_wG, gO g]
    have q12 : fI (sV (sV h 17 10 (.int (nI v))) 17 11 (.int (nI (tS t N i)))) 17 11 = nI (tS t N i) := by simp (decide := true) only [jgI_ob, jgf_ob, jgL_ob, jpI_ob, jpL_ob, jpR_ob, jpN_ob, jrc_ob, obj_sV, obj_wF, obj_wG, obj_wR, arr_sV, arr_wF, arr_wG, arr_wR, arL_sV, arL_wF, arL_wG, arL_wR, arR_sV, arR_wF, arR_wG, arR_wR, fI_sV (c := 0), fI_sV (c := 1), fI_sV (c := 2), fI_sV (c := 4), fI_sV (c := 5), fI_sV (c := 7), fI_sV (c := 8), fI_sV (c := 9), fI_sV (c := 10), fI_sV (c := 11), fI_sV (c := 12), fI_sV (c := 6), fL_sV (c := 9), fL_sV (c := 12), fI_sV_k, fL_sV_k, fV_sV_k, fI_wF, fI_wG, fI_wR, fL_wF, fL_wG, fL_wR, fV_wF, fV_wG, fV_wR, aF_sV, aG_sV, aR_sV, aF_wG, aF_wR, aG_wF, aG_wR, aR_wF, aR_wG, gO g]
    have q4 : fI (sV (sV h 17 10 (.int (nI v))) 17 11 (.int (nI (tS t N i)))) 17 4 = nI K := by simp (decide := true) only [jgI_ob, jgf_ob, jgL_ob, jpI_ob, jpL_ob, jpR_ob, jpN_ob, jrc_ob, obj_sV, obj_wF, obj_wG, obj_wR, arr_sV, arr_wF, arr_wG, arr_wR, arL_sV, arL_wF, arL_wG, arL_wR, arR_sV, arR_wF, arR_wG, arR_wR, fI_sV (c := 0), fI_sV (c := 1), fI_sV (c := 2), fI_sV (c := 4), fI_sV (c := 5), fI_sV (c := 7), fI_sV (c := 8), fI_sV (c := 9), fI_sV (c := 10), fI_sV (c := 11), fI_sV (c := 12), fI_sV (c := 6), fL_sV (c := 9), fL_sV (c := 12), fI_sV_k, fL_sV_k, fV_sV_k, fI_wF, fI_wG, fI_wR, fL_wF, fL_wG, fL_wR, fV_wF, fV_wG, fV_wR, aF_sV, aG_sV, aR_sV, aF_wG, aF_wR, aG_wF, aG_wR, aR_wF, aR_wG, gO g, c4]
    generalize sV (sV h 17 10 (.int (nI v))) 17 11 (.int (nI (tS t N i))) = h1 at *
    have g1 := G_fr g rfl k1
    have FIN : Q none h1 := by
      refine H h1 k1 ?_ ?_
      · rw [e1]; exact q11
      · rw [e1, q12]
        rfl
    refine jT_X5_checkAtoms_6 ?_
    rw [jgI_ob (c := 5) (by simp only [gO g1]) rfl, q4, nI_1]
    refine ⟨fun _ => ?_, fun _ => FIN⟩
    rw [jgI_ob (c := 5) (by simp only [gO g1]) rfl, q11]
    exact jif_n (nI_ne0 (by omega) (by omega)) FIN
  have L : ∀ (r i : Nat) (m : Nat) (a2 : Int32) (o4 : Option Value) (c s : Nat), i + r = K → (sft t N i).1 = 0 → m < 4096 → (∀ j, m.testBit j = tld t N i j) → (3 ≤ xe t N i → xe t N i ≤ 6 → a2 = nI (nnum t N (la t N i + 1))) → jB_X5_checkAtoms_6 X (d + 3) Q 17 (nI m) a2 (nI i) o4 h c s := by
    intro r
    induction r with
    | zero =>
      intro i m a2 o4 c s hi sf hm hb ha
      refine jT_X5_checkAtoms_6 ?_
      rw [jgI_ob (c := 5) (by simp only [gO g]) rfl, c4]
      refine jif_n (nI_nlt (by omega) (by omega)) (H h fr_rfl ?_ ?_)
      · rw [show K = i by omega, sf]; exact f11
      · rw [show K = i by omega, sft_0 i sf, f12]; rfl
    | succ r ih =>
      intro i m a2 o4 c s hi sf hm hb ha
      have hi' : i < K := by omega
      have oki := OKt_m (j := i) ok (by omega)
      have ok1 := OKt_m (j := i + 1) ok (by omega)
      have hf := hft_0 (ok i hi')
      have fi := fwl_inv hf.1
      have a := ca i hi'
      have hq : tK t N i ≤ 20 := tkK_r _
      have J : ∀ c : Nat, c < 100 → (nI (tK t N i) = nI c ↔ tK t N i = c) := fun c hc => nI_eq (by omega) (by omega)
      have J2 : nI (tK t N i) = 2 ↔ tK t N i = 2 := J 2 (by omega)
      have J3 : nI (tK t N i) = 3 ↔ tK t N i = 3 := J 3 (by omega)
      have J15 : nI (tK t N i) = 15 ↔ tK t N i = 15 := J 15 (by omega)
      have es : sft t N (i + 1) = if unt t N i = true then (4, (tS t N i : Int)) else if wrg t N i = true then (5, (tS t N i : Int)) else sft t N i := by
        rw [sft_s, if_neg (fun q => q sf)]
      have ela : la t N (i + 1) = if tK t N i = 4 then i else la t N i := rfl
      have etl : ∀ j, tld t N (i + 1) j = if tK t N i = 15 ∧ j = nnum t N (la t N i + 1) then true else tld t N i j := fun j => rfl
      -- nothing of note
      have NXT : ∀ (o : Option Value), unt t N i = false → wrg t N i = false → tK t N i ≠ 15 → ¬ (tK t N i = 2 ∧ xe t N i = 2) → jB_X5_checkAtoms_6 X (d + 3) Q 17 (nI m) a2 (nI i + 1) o h c s := by
        intro o u w n15 nn
        rw [nI_1]
        refine ih (i + 1) m a2 _ _ _ (by omega) ?_ hm (fun j => ?_) (fun x3 x6 => ?_)
        · rw [es, u, w]; exact sf
        · rw [etl, if_neg (fun q => n15 q.1)]; exact hb j
        · rw [xe_s] at x3 x6
          have n4 : tK t N i ≠ 4 := by omega
          rw [ela, if_neg n4]
          exact ha (by omega) (by omega)
      -- behind the look for a told name
      have V54 : ¬ (tK t N i = 2 ∧ xe t N i = 2) → jB_X5_checkAtoms_54 X (d + 3) Q 17 (nI m) a2 (nI i) (nI (tK t N i)) h c s := by
        intro nn
        refine jT_X5_checkAtoms_54 ?_
        refine ⟨fun q2 => ?_, fun q2 => ?_⟩
        · have q2 := J2.1 q2
          have n12 := hf.2.2.1 q2
          rw [jrc_ob (by simp only [gO g])]
          change jex X (d + 1 + 2) 62 _ _ _
          refine c_firstB g c4 K4 (fun j hj e => ?_) (fun q => absurd rfl (q i hi'))
          have ej : i = j := (nI_eq (by omega) (by omega)).1 e
          subst ej
          rw [a.2.2.1 q2]
          try dsimp only [jrI, jrN, jrA, jisr, jnul, jcat1]
          refine ⟨fun b => ?_, fun b => ?_⟩
          · have b := (bit_at hm (by omega)).1 b
            rw [hb] at b
            refine FLT i 4 _ _ _ _ _ hi' (by decide) (by decide) ?_
            rw [es, if_pos (show unt t N i = true from decide_eq_true ⟨q2, fun q => nn ⟨q2, q⟩, b⟩)]
          · have b : tld t N i (nnum t N i) = true := by
              cases e : tld t N i (nnum t N i) with
              | true => rfl
              | false => exact absurd ((bit_at hm (by omega)).2 (by rw [hb]; exact e)) b
            refine jif_n (fun q => by have := J15.1 q; omega) (jif_n (fun q => by have := J3.1 q; omega) (NXT _ ?_ ?_ (by omega) nn))
            · exact decide_eq_false (fun w => by rw [w.2.2] at b; cases b)
            · exact decide_eq_false (fun w => by omega)
        · have n2 : tK t N i ≠ 2 := fun q => q2 (J2.2 q)
          have u : unt t N i = false := decide_eq_false (fun w => n2 w.1)
          refine ⟨fun q15 => ?_, fun q15 => ?_⟩
          · have q15 := J15.1 q15
            have l := la_in i oki (by omega) (by omega)
            have l2 := l.2.2.2.1 (by omega)
            have n12 := (hft_0 (ok (la t N i + 1) (by omega))).2.2.1 l2.2
            rw [ha (by omega) (by omega), nI_1]
            obtain ⟨m', hm', em, eb⟩ := bit_set (m := m) n12 hm
            rw [em]
            refine ih (i + 1) m' _ _ _ _ (by omega) ?_ hm' (fun j => ?_) (fun x3 x6 => ?_)
            · rw [es, u, show wrg t N i = false from decide_eq_false (fun w => by omega)]; exact sf
            · rw [etl, eb, hb]
              by_cases q : j = nnum t N (la t N i + 1)
              · rw [if_pos ⟨q15, q⟩, decide_eq_true q.symm, Bool.or_true]
              · rw [if_neg (fun w => q w.2), decide_eq_false (fun w => q w.symm), Bool.or_false]
            · rw [xe_s] at x3
              omega
          · have n15 : tK t N i ≠ 15 := fun q => q15 (J15.2 q)
            refine ⟨fun q3 => ?_, fun q3 => ?_⟩
            · have q3 := J3.1 q3
              rw [jrc_ob (by simp only [gO g])]
              refine c_isWrongB g cp ok hi' q3 K4 (fun w => ?_) (fun w => ?_)
              · try dsimp only [jrI, jrN, jrA, jisr, jnul, jcat1]
                refine jif_n (by decide) ?_
                refine FLT i 5 _ _ _ _ _ hi' (by decide) (by decide) ?_
                rw [es, u, if_neg (by decide), if_pos w]
              · try dsimp only [jrI, jrN, jrA, jisr, jnul, jcat1]
                exact jif_t rfl (NXT _ u w n15 nn)
            · have n3 : tK t N i ≠ 3 := fun q => q3 (J3.2 q)
              exact NXT _ u (decide_eq_false (fun w => n3 w.1)) n15 nn
      refine jT_X5_checkAtoms_6 ?_
      rw [jgI_ob (c := 5) (by simp only [gO g]) rfl, c4]
      refine jif_t (nI_lt hi' (by omega)) ?_
      rw [jgI_ob (c := 5) (by simp only [gO g]) rfl, f11]
      refine jif_t rfl ?_
      rw [jrc_ob (by simp only [gO g])]
      change jex X (d + 1 + 2) 54 _ _ _
      refine c_kindB g c4 K4 (fun j hj e => ?_) (fun q => absurd rfl (q i hi'))
      have ej : i = j := (nI_eq (by omega) (by omega)).1 e
      subst ej
      rw [a.1]
      try dsimp only [jrI, jrN, jrA, jisr, jnul, jcat1]
      refine ⟨fun q2 => ?_, fun q2 => V54 (fun w => q2 (J2.2 w.1))⟩
      have q2 := J2.1 q2
      rw [jrc_ob (by simp only [gO g])]
      cases i with
      | zero =>
        have : xe t N 0 = 1 := rfl
        omega
      | succ i =>
        rw [show nI (i + 1) - 1 = nI i from nI_pred i]
        change jex X (d + 1 + 2) 54 _ _ _
        refine c_kindB g c4 K4 (fun j hj e => ?_) (fun q => absurd rfl (q i (by omega)))
        have ej : i = j := (nI_eq (by omega) (by omega)).1 e
        subst ej
        have x2 := xe_2 oki
        have hq' : tK t N i ≤ 20 := tkK_r _
        rw [(ca i (by omega)).1]
        try dsimp only [jrI, jrN, jrA, jisr, jnul, jcat1]
        refine ⟨fun q => ?_, fun q => V54 (fun w => q (by rw [x2.1.1 w.2]; rfl))⟩
        have q4 := (nI_eq (b := 4) (by omega) (by omega)).1 q
        have e2 := x2.1.2 q4
        rw [jrc_ob (by simp only [gO g])]
        change jex X (d + 1 + 2) 62 _ _ _
        refine c_firstB g c4 K4 (fun j hj e => ?_) (fun q => absurd rfl (q (i + 1) hi'))
        have ej : i + 1 = j := (nI_eq (by omega) (by omega)).1 e
        rw [← ej, a.2.2.1 q2]
        try dsimp only [jrI, jrN, jrA, jisr, jnul, jcat1]
        rw [nI_1]
        refine ih (i + 1 + 1) m _ _ _ _ (by omega) ?_ hm (fun j => ?_) (fun x3 x6 => ?_)
        · rw [es, show unt t N (i + 1) = false from decide_eq_false (fun w => w.2.1 e2), show wrg t N (i + 1) = false from decide_eq_false (fun w => by omega)]; exact sf
        · rw [etl, if_neg (fun q => by omega)]; exact hb j
        · rw [ela, if_neg (by omega)]
          have : la t N (i + 1) = i := by
            show (if tK t N i = 4 then i else la t N i) = i
            rw [if_pos q4]
          rw [this]
  rw [jE_X5_checkAtoms]
  refine jT_X5_checkAtoms_0 ?_
  exact L K 0 0 0 _ _ _ (by omega) rfl (by decide) (fun j => Nat.zero_testBit j) (fun q => by have : xe t N 0 = 1 := rfl; omega)
end CTRB
