/-! TOKENS: the class's next one -/
def TN : List (Nat × Nat) := [(7, 3), (7, 6), (7, 7), (7, 8), (7, 9)]
section CTK3
variable {X : JX} {d : Nat} {Q : JQ} {h : JH} {N : Nat}
theorem c_numberKind (g : G h) (tb : TB h N) {b : Nat} (h4 : fI h 7 4 = nI b) (hb : b < N) (hl : tkL (bt h b) = false) (hd : tkD (bt h b) = true) (H : ∀ h1, fr [] TF h h1 → TC h1 (bt h) N b → Q (some (.int (nI (tkK (bt h) N b)))) h1) : jex X (d + 3) 45 [.ref 7] h Q := by
  have hN := tb.2.1
  have hp : b ≤ ptE (bt h) N b := ptE_ge
  have hpN : ptE (bt h) N b ≤ N := tkE_le (by omega)
  have hz : ptE (bt h) N b ≤ nmE (bt h) N b := nmE_ge
  have hzN := nmE_le (t := bt h) (Nat.le_of_lt hb)
  have eK : tkK (bt h) N b = if 4 < ptE (bt h) N b - b ∨ 4 < nmE (bt h) N b - ptE (bt h) N b - 1 then 0 else 3 := by
    unfold tkK
    rw [if_neg (by omega), if_neg (by rw [hl]; decide), if_pos hd]
  have eZ : tkZ (bt h) N b = nmE (bt h) N b := by
    unfold tkZ
    rw [if_neg (by omega), if_neg (by rw [hl]; decide), if_pos hd]
  -- behind the end's setting
  have E : ∀ (h1 : JH), fr [] TN h h1 → fI h1 7 3 = nI (nmE (bt h) N b) → fI h1 7 9 = bi (ptd (bt h) N b) → jgI h1 (.ref 7) 9 4 (fun x4 => (jifp (4 < (nI (ptE (bt h) N b) - x4)) (Q (some (.int 0)) h1) (jifp (4 < ((nI (nmE (bt h) N b) - nI (ptE (bt h) N b)) - 1)) (Q (some (.int 0)) h1) (jrc h1 (.ref 7) 9 (jex X (d + 2) 47 [.ref 7, .int (nI (ptE (bt h) N b))] h1 fun r6 h5 => (jrN r6 (jrc h5 (.ref 7) 9 (jex X (d + 2) 48 [.ref 7, .int (nI (ptE (bt h) N b)), .int (nI (nmE (bt h) N b))] h5 fun r8 h7 => (jrN r8 (Q (some (.int 3)) h7)))))))))) := by
    intro h1 k e3 e9
    have g1 := G_fr g rfl k
    obtain ⟨tb1, eb⟩ := TB_fr tb k (by decide) (by decide)
    have e4 : fI h1 7 4 = nI b := by rw [frI k (by decide) (by decide)]; exact h4
    have kT : fr [] TF h h1 := fr_mono (fun _ q => q) (by decide) k
    have Z0 : (4 < ptE (bt h) N b - b ∨ 4 < nmE (bt h) N b - ptE (bt h) N b - 1) → Q (some (.int 0)) h1 := by
      intro c
      rw [if_pos c] at eK
      have := H h1 kT ⟨e4, by rw [eZ]; exact e3, fun q => by omega, fun q => by omega⟩
      rw [eK] at this
      exact this
    rw [jgI_ob (c := 9) (by simp only [gO g1]) rfl, e4, pk_sub hp]
    refine ⟨fun c => Z0 (Or.inl ?_), fun c => ⟨fun c2 => Z0 (Or.inr ?_), fun c2 => ?_⟩⟩
    · have := (nI_ltI (a := 4) (by omega) (by omega)).1 c
      omega
    · rw [pk_sub hz] at c2
      have q : nI (nmE (bt h) N b - ptE (bt h) N b) - 1 = zI ((nmE (bt h) N b - ptE (bt h) N b : Nat) - 1 : Int) := by
        refine zI_of ?_
        have q1 : (nI (nmE (bt h) N b - ptE (bt h) N b)).toInt = (nmE (bt h) N b - ptE (bt h) N b : Nat) := nI_toInt (by omega)
        exact (by simp only [Int32.toInt_add, Int32.toInt_sub, Int32.toInt_mul, Int32.toInt_neg, Int.bmod_def, tl, t4]; omega)
      rw [q, ti_lt, zt (by omega) (by omega)] at c2
      have : (4 : Int32).toInt = 4 := rfl
      omega
    · have c' : ptE (bt h) N b - b ≤ 4 := by
        rcases Nat.lt_or_ge 4 (ptE (bt h) N b - b) with q | q
        · exact absurd ((nI_ltI (a := 4) (by omega) (by omega)).2 q) c
        · exact q
      have c2' : ¬ 4 < nmE (bt h) N b - ptE (bt h) N b - 1 := by
        intro q
        refine c2 ?_
        rw [pk_sub hz, show nI (nmE (bt h) N b - ptE (bt h) N b) - 1 = nI (nmE (bt h) N b - ptE (bt h) N b - 1) from pk_sub (b := 1) (by omega)]
        exact nI_lt (a := 4) q (by omega)
      rw [if_neg (by omega)] at eK
      rw [jrc_ob (by simp only [gO g1])]
      refine c_readWhole g1 tb1 e4 hp hpN c' (fun i i1 i2 => by rw [eb]; exact tkD_of (tkE_in i1 i2)) (fun h2 k2 w2 => ?_)
      have g2 := G_fr g1 rfl k2
      obtain ⟨tb2, eb2⟩ := TB_fr tb1 k2 (by decide) (by decide)
      have e2 : bt h2 = bt h := eb2.trans eb
      try dsimp only [jrI, jrN, jrA, jisr, jnul, jcat1]
      rw [jrc_ob (by simp only [gO g2]), ← e2]
      refine c_readDigits g2 tb2 (by rw [frI k2 (by decide) (by decide)]; exact e4) (by omega) (fun h3 k3 w6 w7 => ?_)
      rw [e2] at w6 w7
      rw [eb] at w2
      try dsimp only [jrI, jrN, jrA, jisr, jnul, jcat1]
      have f1 : fr [] TF h h3 := fr_trans kT (fr_trans (fr_mono (fun _ q => q) (by decide) k2) (fr_mono (fun _ q => q) (by decide) k3))
      have := H h3 f1 ⟨?_, ?_, fun q => by omega, fun q => ⟨w6, w7, ?_, ?_⟩⟩
      · rw [eK] at this
        exact this
      · rw [frI k3 (by decide) (by decide), frI k2 (by decide) (by decide)]; exact e4
      · rw [frI k3 (by decide) (by decide), frI k2 (by decide) (by decide), eZ]; exact e3
      · rw [frI k3 (by decide) (by decide)]; exact w2
      · rw [frI k3 (by decide) (by decide), frI k2 (by decide) (by decide)]; exact e9
  -- up to the point's setting
  have M : ∀ s0 : Int32, s0 = bi (ptd (bt h) N b) → jB_X9_numberKind_40 X (d + 2) Q 7 (nI (ptE (bt h) N b)) (nI (ptE (bt h) N b)) s0 (.ref 7) h 0 0 := by
    intro s0 es
    refine jT_X9_numberKind_40 ⟨by rw [es]; cases ptd (bt h) N b; exact Or.inl rfl; exact Or.inr rfl, ?_⟩
    simp (decide := true) only [jgI_ob, jgf_ob, jgL_ob, jpI_ob, jpL_ob, jpR_ob, jpN_ob, jrc_ob, obj_sV, obj_wF, obj_wG, obj_wR, arr_sV, arr_wF, arr_wG, arr_wR, arL_sV, arL_wF, arL_wG, arL_wR, arR_sV, arR_wF, arR_wG, arR_wR, fI_sV (c := 0), fI_sV (c := 1), fI_sV (c := 2), fI_sV (c := 4), fI_sV (c := 5), fI_sV (c := 7), fI_sV (c := 8), fI_sV (c := 9), fI_sV (c := 10), fI_sV (c := 11), fI_sV (c := 12), fI_sV (c := 6), fL_sV (c := 9), fL_sV (c := 12), fI_sV_k, fL_sV_k, fV_sV_k, fI_wF, fI_wG, fI_wR, fL_wF, fL_wG, fL_wR, fV_wF, fV_wG, fV_wR, aF_sV, aG_sV, aR_sV, aF_wG, aF_wR, aG_wF, aG_wR, aR_wF, aR_wG, gO g]
    cases ec : ptd (bt h) N b with
    | false =>
      rw [ec] at es
      refine jif_t es ?_
      have ez : nmE (bt h) N b = ptE (bt h) N b := by unfold nmE; rw [ec]; rfl
      have e := E (sV (sV h 7 9 (.int s0)) 7 3 (.int (nI (ptE (bt h) N b)))) (fr_sV (by decide) (fr_sV (by decide) fr_rfl)) (by rw [ez]; simp (decide := true) only [jgI_ob, jgf_ob, jgL_ob, jpI_ob, jpL_ob, jpR_ob, jpN_ob, jrc_ob, obj_sV, obj_wF, obj_wG, obj_wR, arr_sV, arr_wF, arr_wG, arr_wR, arL_sV, arL_wF, arL_wG, arL_wR, arR_sV, arR_wF, arR_wG, arR_wR, fI_sV (c := 0), fI_sV (c := 1), fI_sV (c := 2), fI_sV (c := 4), fI_sV (c := 5), fI_sV (c := 7), fI_sV (c := 8), fI_sV (c := 9), fI_sV (c := 10), fI_sV (c := 11), fI_sV (c := 12), fI_sV (c := 6), fL_sV (c := 9), fL_sV (c := 12), fI_sV_k, fL_sV_k, fV_sV_k, fI_wF, fI_wG, fI_wR, fL_wF, fL_wG, fL_wR, fV_wF, fV_wG, fV_wR, aF_sV, aG_sV, aR_sV, aF_wG, aF_wR, aG_wF, aG_wR, aR_wF, aR_wG, gO g]) (by rw [ec]; simp (decide := true) only [jgI_ob, jgf_ob, jgL_ob, jpI_ob, jpL_ob, jpR_ob, jpN_ob, jrc_ob, obj_sV, obj_wF, obj_wG, obj_wR, arr_sV, arr_wF, arr_wG, arr_wR, arL_sV, arL_wF, arL_wG, arL_wR, arR_sV, arR_wF, arR_wG, arR_wR, fI_sV (c := 0), fI_sV (c := 1), fI_sV (c := 2), fI_sV (c := 4), fI_sV (c := 5), fI_sV (c := 7), fI_sV (c := 8), fI_sV (c := 9), fI_sV (c := 10), fI_sV (c := 11), fI_sV (c := 12), fI_sV (c := 6), fL_sV (c := 9), fL_sV (c := 12), fI_sV_k, fL_sV_k, fV_sV_k, fI_wF, fI_wG, fI_wR, fL_wF, fL_wG, fL_wR, fV_wF, fV_wG, fV_wR, aF_sV, aG_sV, aR_sV, aF_wG, aF_wR, aG_wF, aG_wR, aR_wF, aR_wG, gO g, es])
      rw [jgI_ob (c := 9) (by simp only [obj_sV, gO g]) rfl] at e
      simp (decide := true) only [jgI_ob, jgf_ob, jgL_ob, jpI_ob, jpL_ob, jpR_ob, jpN_ob, jrc_ob, obj_sV, obj_wF, obj_wG, obj_wR, arr_sV, arr_wF, arr_wG, arr_wR, arL_sV, arL_wF, arL_wG, arL_wR, arR_sV, arR_wF, arR_wG, arR_wR, fI_sV (c := 0), fI_sV (c := 1), fI_sV (c := 2), fI_sV (c := 4), fI_sV (c := 5), fI_sV (c := 7), fI_sV (c := 8), fI_sV (c := 9), fI_sV (c := 10), fI_sV (c := 11), fI_sV (c := 12), fI_sV (c := 6), fL_sV (c := 9), fL_sV (c := 12), fI_sV_k, fL_sV_k, fV_sV_k, fI_wF, fI_wG, fI_wR, fL_wF, fL_wG, fL_wR, fV_wF, fV_wG, fV_wR, aF_sV, aG_sV, aR_sV, aF_wG, aF_wR, aG_wF, aG_wR, aR_wF, aR_wG, gO g] at e
      rw [ez] at e
      exact e
    | true =>
      rw [ec] at es
      have k1 : fr [] TN h (sV h 7 9 (.int s0)) := fr_sV (by decide) fr_rfl
      have g1 := G_fr g rfl k1
      obtain ⟨tb1, eb⟩ := TB_fr tb k1 (by decide) (by decide)
      have ez : nmE (bt h) N b = tkE tkD (bt h) N (ptE (bt h) N b + 1) := by unfold nmE; rw [if_pos ec]
      refine jif_n (by rw [es]; decide) ?_
      rw [nI_1]
      refine c_digitsEnd g1 tb1 (by omega) ?_
      rw [eb, ← ez]
      try dsimp only [jrI, jrN, jrA, jisr, jnul, jcat1]
      simp (decide := true) only [jgI_ob, jgf_ob, jgL_ob, jpI_ob, jpL_ob, jpR_ob, jpN_ob, jrc_ob, obj_sV, obj_wF, obj_wG, obj_wR, arr_sV, arr_wF, arr_wG, arr_wR, arL_sV, arL_wF, arL_wG, arL_wR, arR_sV, arR_wF, arR_wG, arR_wR, fI_sV (c := 0), fI_sV (c := 1), fI_sV (c := 2), fI_sV (c := 4), fI_sV (c := 5), fI_sV (c := 7), fI_sV (c := 8), fI_sV (c := 9), fI_sV (c := 10), fI_sV (c := 11), fI_sV (c := 12), fI_sV (c := 6), fL_sV (c := 9), fL_sV (c := 12), fI_sV_k, fL_sV_k, fV_sV_k, fI_wF, fI_wG, fI_wR, fL_wF, fL_wG, fL_wR, fV_wF, fV_wG, fV_wR, aF_sV, aG_sV, aR_sV, aF_wG, aF_wR, aG_wF, aG_wR, aR_wF, aR_wG, gO g]
      have e := E (sV (sV h 7 9 (.int s0)) 7 3 (.int (nI (nmE (bt h) N b)))) (fr_sV (by decide) (fr_sV (by decide) fr_rfl)) (by simp (decide := true) only [jgI_ob, jgf_ob, jgL_ob, jpI_ob, jpL_ob, jpR_ob, jpN_ob, jrc_ob, obj_sV, obj_wF, obj_wG, obj_wR, arr_sV, arr_wF, arr_wG, arr_wR, arL_sV, arL_wF, arL_wG, arL_wR, arR_sV, arR_wF, arR_wG, arR_wR, fI_sV (c := 0), fI_sV (c := 1), fI_sV (c := 2), fI_sV (c := 4), fI_sV (c := 5), fI_sV (c := 7), fI_sV (c := 8), fI_sV (c := 9), fI_sV (c := 10), fI_sV (c := 11), fI_sV (c := 12), fI_sV (c := 6), fL_sV (c := 9), fL_sV (c := 12), fI_sV_k, fL_sV_k, fV_sV_k, fI_wF, fI_wG, fI_wR, fL_wF, fL_wG, fL_wR, fV_wF, fV_wG, fV_wR, aF_sV, aG_sV, aR_sV, aF_wG, aF_wR, aG_wF, aG_wR, aR_wF, aR_wG, gO g]) (by rw [ec]; simp (decide := true) only [jgI_ob, jgf_ob, jgL_ob, jpI_ob, jpL_ob, jpR_ob, jpN_ob, jrc_ob, obj_sV, obj_wF, obj_wG, obj_wR, arr_sV, arr_wF, arr_wG, arr_wR, arL_sV, arL_wF, arL_wG, arL_wR, arR_sV, arR_wF, arR_wG, arR_wR, fI_sV (c := 0), fI_sV (c := 1), fI_sV (c := 2), fI_sV (c := 4), fI_sV (c := 5), fI_sV (c := 7), fI_sV (c := 8), fI_sV (c := 9), fI_sV (c := 10), fI_sV (c := 11), fI_sV (c := 12), fI_sV (c := 6), fL_sV (c := 9), fL_sV (c := 12), fI_sV_k, fL_sV_k, fV_sV_k, fI_wF, fI_wG, fI_wR, fL_wF, fL_wG, fL_wR, fV_wF, fV_wG, fV_wR, aF_sV, aG_sV, aR_sV, aF_wG, aF_wR, aG_wF, aG_wR, aR_wF, aR_wG, gO g, es])
      rw [jgI_ob (c := 9) (by simp only [obj_sV, gO g]) rfl] at e
      simp (decide := true) only [jgI_ob, jgf_ob, jgL_ob, jpI_ob, jpL_ob, jpR_ob, jpN_ob, jrc_ob, obj_sV, obj_wF, obj_wG, obj_wR, arr_sV, arr_wF, arr_wG, arr_wR, arL_sV, arL_wF, arL_wG, arL_wR, arR_sV, arR_wF, arR_wG, arR_wR, fI_sV (c := 0), fI_sV (c := 1), fI_sV (c := 2), fI_sV (c := 4), fI_sV (c := 5), fI_sV (c := 7), fI_sV (c := 8), fI_sV (c := 9), fI_sV (c := 10), fI_sV (c := 11), fI_sV (c := 12), fI_sV (c := 6), fL_sV (c := 9), fL_sV (c := 12), fI_sV_k, fL_sV_k, fV_sV_k, fI_wF, fI_wG, fI_wR, fL_wF, fL_wG, fL_wR, fV_wF, fV_wG, fV_wR, aF_sV, aG_sV, aR_sV, aF_wG, aF_wR, aG_wF, aG_wR, aR_wF, aR_wG, gO g] at e
      exact e
  have e46 : ∀ x : Int32, x.toInt = byO (bt h) N (ptE (bt h) N b) → (x = 46 ↔ ptE (bt h) N b < N ∧ bt h (ptE (bt h) N b) = 46) := by
    intro x hx
    rw [ti_eq, hx, show (46 : Int32).toInt = 46 from rfl]
    by_cases c : ptE (bt h) N b < N
    · rw [byO_t c]; exact ⟨fun e => ⟨c, e⟩, fun e => e.2⟩
    · rw [byO_n c]; omega
  rw [jE_X9_numberKind]
  refine jT_X9_numberKind_0 ?_
  rw [jgI_ob (c := 9) (by simp only [gO g]) rfl, h4, jrc_ob (by simp only [gO g])]
  refine c_digitsEnd g tb (by omega) ?_
  try dsimp only [jrI, jrN, jrA, jisr, jnul, jcat1]
  rw [jrc_ob (by simp only [gO g]), show tkE tkD (bt h) N b = ptE (bt h) N b from rfl]
  change jex X (d + 1 + 1) 40 [.ref 7, .int (nI (ptE (bt h) N b))] h _
  refine c_byteAt g tb (by omega) (fun x hx => ?_)
  try dsimp only [jrI, jrN, jrA, jisr, jnul, jcat1]
  refine ⟨fun c => ?_, fun c => M 0 ?_⟩
  · have c2 := (e46 x hx).1 c
    rw [jrc_ob (by simp only [gO g]), nI_1]
    refine c_byteAt g tb (by omega) (fun y hy => ?_)
    try dsimp only [jrI, jrN, jrA, jisr, jnul, jcat1]
    refine c_isDigit (fun q => ?_) (fun q => ?_)
    · rw [hy] at q
      have w := (byO_P (P := tkD) (by decide)).1 q
      try dsimp only [jrI, jrN, jrA, jisr, jnul, jcat1]
      refine jif_n (by decide) (M 1 ?_)
      rw [show ptd (bt h) N b = true from decide_eq_true ⟨c2.1, c2.2, w.1, w.2⟩]
      rfl
    · rw [hy] at q
      try dsimp only [jrI, jrN, jrA, jisr, jnul, jcat1]
      refine jif_t rfl (M 0 ?_)
      rw [show ptd (bt h) N b = false from decide_eq_false (fun w => by
        have := (byO_P (P := tkD) (t := bt h) (N := N) (i := ptE (bt h) N b + 1) (by decide)).2 ⟨w.2.2.1, w.2.2.2⟩
        rw [this] at q
        cases q)]
      rfl
  · rw [show ptd (bt h) N b = false from decide_eq_false (fun w => c ((e46 x hx).2 ⟨w.1, w.2.1⟩))]
    rfl
theorem c_signKind (g : G h) (tb : TB h N) {b : Nat} (h4 : fI h 7 4 = nI b) (h3 : fI h 7 3 = nI b) (hb : b < N) (hl : tkL (bt h b) = false) (hd : tkD (bt h b) = false) {x : Int32} (hx : x.toInt = bt h b) (H : ∀ h1, fr [] TF h h1 → TC h1 (bt h) N b → Q (some (.int (nI (tkK (bt h) N b)))) h1) : jex X (d + 3) 49 [.ref 7, .int x] h Q := by
  have hN := tb.2.1
  have eK : tkK (bt h) N b = sgK (bt h) N b := by
    unfold tkK
    rw [if_neg (by omega), if_neg (by rw [hl]; decide), if_neg (by rw [hd]; decide)]
  have eZ : tkZ (bt h) N b = if sgD (bt h) N b = true then b + 2 else b + 1 := by
    unfold tkZ
    rw [if_neg (by omega), if_neg (by rw [hl]; decide), if_neg (by rw [hd]; decide)]
  have kr : sgK (bt h) N b ≠ 2 ∧ sgK (bt h) N b ≠ 3 := by
    unfold sgK
    refine ⟨?_, ?_⟩ <;> repeat (first | (split; omega) | (split) | omega)
  have R : ∀ (h1 : JH) (k : Nat), fr [] TF h h1 → fI h1 7 4 = nI b → fI h1 7 3 = nI (tkZ (bt h) N b) → sgK (bt h) N b = k → Q (some (.int (nI k))) h1 := by
    intro h1 k f1 f4 f3 e
    have := H h1 f1 ⟨f4, f3, fun q => absurd (eK ▸ q) kr.1, fun q => absurd (eK ▸ q) kr.2⟩
    rw [eK, e] at this
    exact this
  have k1 : fr [] TF h (sV h 7 3 (.int (nI (b + 1)))) := fr_sV (by decide) fr_rfl
  have q4 : fI (sV h 7 3 (.int (nI (b + 1)))) 7 4 = nI b := by simp (decide := true) only [jgI_ob, jgf_ob, jgL_ob, jpI_ob, jpL_ob, jpR_ob, jpN_ob, jrc_ob, obj_sV, obj_wF, obj_wG, obj_wR, arr_sV, arr_wF, arr_wG, arr_wR, arL_sV, arL_wF, arL_wG, arL_wR, arR_sV, arR_wF, arR_wG, arR_wR, fI_sV (c := 0), fI_sV (c := 1), fI_sV (c := 2), fI_sV (c := 4), fI_sV (c := 5), fI_sV (c := 7), fI_sV (c := 8), fI_sV (c := 9), fI_sV (c := 10), fI_sV (c := 11), fI_sV (c := 12), fI_sV (c := 6), fL_sV (c := 9), fL_sV (c := 12), fI_sV_k, fL_sV_k, fV_sV_k, fI_wF, fI_wG, fI_wR, fL_wF, fL_wG, fL_wR, fV_wF, fV_wG, fV_wR, aF_sV, aG_sV, aR_sV, aF_wG, aF_wR, aG_wF, aG_wR, aR_wF, aR_wG, gO g, h4]
  have q3 : fI (sV h 7 3 (.int (nI (b + 1)))) 7 3 = nI (b + 1) := by simp (decide := true) only [jgI_ob, jgf_ob, jgL_ob, jpI_ob, jpL_ob, jpR_ob, jpN_ob, jrc_ob, obj_sV, obj_wF, obj_wG, obj_wR, arr_sV, arr_wF, arr_wG, arr_wR, arL_sV, arL_wF, arL_wG, arL_wR, arR_sV, arR_wF, arR_wG, arR_wR, fI_sV (c := 0), fI_sV (c := 1), fI_sV (c := 2), fI_sV (c := 4), fI_sV (c := 5), fI_sV (c := 7), fI_sV (c := 8), fI_sV (c := 9), fI_sV (c := 10), fI_sV (c := 11), fI_sV (c := 12), fI_sV (c := 6), fL_sV (c := 9), fL_sV (c := 12), fI_sV_k, fL_sV_k, fV_sV_k, fI_wF, fI_wG, fI_wR, fL_wF, fL_wG, fL_wR, fV_wF, fV_wG, fV_wR, aF_sV, aG_sV, aR_sV, aF_wG, aF_wR, aG_wF, aG_wR, aR_wF, aR_wG, gO g]
  have D0 : bt h b ≠ 61 → tkZ (bt h) N b = b + 1 := by
    intro c
    rw [eZ, show sgD (bt h) N b = false from decide_eq_false (fun w => c w.1)]
    rfl
  have x42 : x = 42 ↔ bt h b = 42 := by rw [ti_eq, hx]; rfl
  have x47 : x = 47 ↔ bt h b = 47 := by rw [ti_eq, hx]; rfl
  have x59 : x = 59 ↔ bt h b = 59 := by rw [ti_eq, hx]; rfl
  have x60 : x = 60 ↔ bt h b = 60 := by rw [ti_eq, hx]; rfl
  have x61 : x = 61 ↔ bt h b = 61 := by rw [ti_eq, hx]; rfl
  rw [jE_X9_signKind]
  refine jT_X9_signKind_0 ?_
  rw [jgI_ob (c := 9) (by simp only [gO g]) rfl, h3, nI_1, jpI_ob (c := 9) (by simp only [gO g]) rfl]
  refine ⟨fun c => R _ 19 k1 q4 ?_ ?_, fun c1 => ⟨fun c => R _ 20 k1 q4 ?_ ?_, fun c2 => ⟨fun c => R _ 15 k1 q4 ?_ ?_, fun c3 => ⟨fun c => R _ 18 k1 q4 ?_ ?_, fun c4 => ⟨fun c => ?_, fun c5 => R _ 0 k1 q4 ?_ ?_⟩⟩⟩⟩⟩
  · have := x42.1 c; rw [q3, D0 (by omega)]
  · have := x42.1 c; unfold sgK; rw [if_neg (by omega), if_neg (by omega), if_pos (by omega)]
  · have := x47.1 c; rw [q3, D0 (by omega)]
  · have := x47.1 c; unfold sgK; rw [if_neg (by omega), if_neg (by omega), if_neg (by omega), if_pos (by omega)]
  · have := x59.1 c; rw [q3, D0 (by omega)]
  · have := x59.1 c; unfold sgK; rw [if_pos (by omega)]
  · have := x60.1 c; rw [q3, D0 (by omega)]
  · have := x60.1 c; unfold sgK; rw [if_neg (by omega), if_pos (by omega)]
  · have e := x61.1 c
    have es : sgK (bt h) N b = if sgD (bt h) N b = true then 17 else 16 := by unfold sgK; rw [if_neg (by omega), if_neg (by omega), if_neg (by omega), if_neg (by omega), if_pos e]
    have g1 := G_fr g rfl k1
    obtain ⟨tb1, eb⟩ := TB_fr tb k1 (by decide) (by decide)
    rw [jgI_ob (c := 9) (by simp only [gO g1]) rfl, q3, jrc_ob (by simp only [gO g1])]
    change jex X (d + 1 + 1) 40 [.ref 7, .int (nI (b + 1))] _ _
    refine c_byteAt g1 tb1 (by omega) (fun y hy => ?_)
    rw [eb] at hy
    try dsimp only [jrI, jrN, jrA, jisr, jnul, jcat1]
    refine ⟨fun c6 => ?_, fun c6 => ?_⟩
    · rw [ti_eq, hy, show (61 : Int32).toInt = 61 from rfl] at c6
      have l : b + 1 < N := by
        refine Classical.byContradiction (fun l => ?_)
        rw [byO_n l] at c6
        omega
      rw [byO_t l] at c6
      have ed : sgD (bt h) N b = true := decide_eq_true ⟨e, l, c6⟩
      rw [if_pos ed] at es
      rw [if_pos ed] at eZ
      rw [jgI_ob (c := 9) (by simp only [gO g1]) rfl, q3, nI_1, jpI_ob (c := 9) (by simp only [gO g1]) rfl]
      refine R _ 17 (fr_sV (by decide) k1) ?_ ?_ es
      · simp (decide := true) only [jgI_ob, jgf_ob, jgL_ob, jpI_ob, jpL_ob, jpR_ob, jpN_ob, jrc_ob, obj_sV, obj_wF, obj_wG, obj_wR, arr_sV, arr_wF, arr_wG, arr_wR, arL_sV, arL_wF, arL_wG, arL_wR, arR_sV, arR_wF, arR_wG, arR_wR, fI_sV (c := 0), fI_sV (c := 1), fI_sV (c := 2), fI_sV (c := 4), fI_sV (c := 5), fI_sV (c := 7), fI_sV (c := 8), fI_sV (c := 9), fI_sV (c := 10), fI_sV (c := 11), fI_sV (c := 12), fI_sV (c := 6), fL_sV (c := 9), fL_sV (c := 12), fI_sV_k, fL_sV_k, fV_sV_k, fI_wF, fI_wG, fI_wR, fL_wF, fL_wG, fL_wR, fV_wF, fV_wG, fV_wR, aF_sV, aG_sV, aR_sV, aF_wG, aF_wR, aG_wF, aG_wR, aR_wF, aR_wG, gO g1, q4]
      · rw [eZ]; simp (decide := true) only [jgI_ob, jgf_ob, jgL_ob, jpI_ob, jpL_ob, jpR_ob, jpN_ob, jrc_ob, obj_sV, obj_wF, obj_wG, obj_wR, arr_sV, arr_wF, arr_wG, arr_wR, arL_sV, arL_wF, arL_wG, arL_wR, arR_sV, arR_wF, arR_wG, arR_wR, fI_sV (c := 0), fI_sV (c := 1), fI_sV (c := 2), fI_sV (c := 4), fI_sV (c := 5), fI_sV (c := 7), fI_sV (c := 8), fI_sV (c := 9), fI_sV (c := 10), fI_sV (c := 11), fI_sV (c := 12), fI_sV (c := 6), fL_sV (c := 9), fL_sV (c := 12), fI_sV_k, fL_sV_k, fV_sV_k, fI_wF, fI_wG, fI_wR, fL_wF, fL_wG, fL_wR, fV_wF, fV_wG, fV_wR, aF_sV, aG_sV, aR_sV, aF_wG, aF_wR, aG_wF, aG_wR, aR_wF, aR_wG, gO g1]
    · have ed : sgD (bt h) N b = false := decide_eq_false (fun w => c6 (by rw [ti_eq, hy, byO_t w.2.1]; exact w.2.2))
      rw [ed] at es
      rw [ed] at eZ
      exact R _ 16 k1 q4 (by rw [q3, eZ]; rfl) es
  · rw [q3, D0 (fun e => c5 (x61.2 e))]
  · unfold sgK
    rw [if_neg (fun e => c3 (x59.2 e)), if_neg (fun e => c4 (x60.2 e)), if_neg (fun e => c1 (x42.2 e)), if_neg (fun e => c2 (x47.2 e)), if_neg (fun e => c5 (x61.2 e))]
theorem c_wordKind (g : G h) (tb : TB h N) {b : Nat} (h4 : fI h 7 4 = nI b) (h3 : fI h 7 3 = nI b) (hb : b < N) (hl : tkL (bt h b) = true) (H : ∀ h1, fr [] TF h h1 → TC h1 (bt h) N b → Q (some (.int (nI (tkK (bt h) N b)))) h1) : jex X (d + 3) 43 [.ref 7] h Q := by
  have hN := tb.2.1
  have eK : tkK (bt h) N b = if 8 < tkE tkL (bt h) N b - b then 0 else kwK (c27 (bt h) b (tkE tkL (bt h) N b - b)) := by
    unfold tkK
    rw [if_neg (by omega), if_pos hl]
  have eZ : tkZ (bt h) N b = tkE tkL (bt h) N b := by
    unfold tkZ
    rw [if_neg (by omega), if_pos hl]
  have hg : b ≤ tkE tkL (bt h) N b := tkE_ge
  have hzN : tkE tkL (bt h) N b ≤ N := tkE_le (by omega)
  have hin : ∀ i, i < tkE tkL (bt h) N b - b → 97 ≤ bt h (b + i) ∧ bt h (b + i) ≤ 122 := fun i hi => tkL_of (tkE_in (N := N) (i := b) (by omega) (by omega))
  -- the words
  have V : ∀ (h1 : JH) (c z : Nat), fr [] TF h h1 → fI h1 7 4 = nI b → fI h1 7 3 = nI (tkE tkL (bt h) N b) → (tkE tkL (bt h) N b - b ≤ 8 → fL h1 7 5 = lN (c27 (bt h) b (tkE tkL (bt h) N b - b))) → jgI h1 (.ref 7) 9 3 (fun x1 => (jgI h1 (.ref 7) 9 4 fun x2 => (jifp (8 < (x1 - x2)) (Q (some (.int 0)) h1) (jB_X9_wordKind_81 X (d + 2) Q 7 4 h1 c z)))) := by
    intro h1 c z k f4 f3 f5
    have g1 := G_fr g rfl k
    rw [jgI_ob (c := 9) (by simp only [gO g1]) rfl, jgI_ob (c := 9) (by simp only [gO g1]) rfl, f4, f3, pk_sub hg]
    refine ⟨fun c8 => ?_, fun c8 => ?_⟩
    · have c8 := (nI_ltI (a := 8) (by omega) (by omega)).1 c8
      rw [if_pos c8] at eK
      have := H h1 k ⟨f4, by rw [eZ]; exact f3, fun q => by omega, fun q => by omega⟩
      rw [eK] at this
      exact this
    · have c8 : ¬ 8 < tkE tkL (bt h) N b - b := fun q => c8 ((nI_ltI (a := 8) (by omega) (by omega)).2 q)
      have f5 := f5 (by omega)
      have wl := c27_lt (t := bt h) (b := b) _ hin
      have wl8 : (27 : Nat) ^ (tkE tkL (bt h) N b - b) ≤ 27 ^ 8 := Nat.pow_le_pow_right (by decide) (by omega)
      rw [if_neg c8] at eK
      have R : ∀ k2, kwK (c27 (bt h) b (tkE tkL (bt h) N b - b)) = k2 → Q (some (.int (nI k2))) h1 := by
        intro k2 ek
        have kr := kwK_r (c27 (bt h) b (tkE tkL (bt h) N b - b))
        have := H h1 k ⟨f4, by rw [eZ]; exact f3, fun _ => f5, fun q => by omega⟩
        rw [eK, ek] at this
        exact this
      clear eK H
      generalize c27 (bt h) b (tkE tkL (bt h) N b - b) = w at *
      have S : ∀ k2, 4 ≤ k2 → k2 ≤ 14 → (w = kwC k2 → Q (some (.int (nI k2))) h1) → (w ≠ kwC k2 → jB_X9_wordKind_81 X (d + 2) Q 7 (nI (k2 + 1)) h1 c z) → jB_X9_wordKind_81 X (d + 2) Q 7 (nI k2) h1 c z := by
        intro k2 k4 k14 H1 H2
        refine jT_X9_wordKind_81 (jif_n (nI_nlt (a := 14) (by omega) (by omega)) ?_)
        have lt := g1.2.2.2.2.2.2.2.2
        simp (decide := true) only [jgI_ob, jgf_ob, jgL_ob, jpI_ob, jpL_ob, jpR_ob, jpN_ob, jrc_ob, obj_sV, obj_wF, obj_wG, obj_wR, arr_sV, arr_wF, arr_wG, arr_wR, arL_sV, arL_wF, arL_wG, arL_wR, arR_sV, arR_wF, arR_wG, arR_wR, fI_sV (c := 0), fI_sV (c := 1), fI_sV (c := 2), fI_sV (c := 4), fI_sV (c := 5), fI_sV (c := 7), fI_sV (c := 8), fI_sV (c := 9), fI_sV (c := 10), fI_sV (c := 11), fI_sV (c := 12), fI_sV (c := 6), fL_sV (c := 9), fL_sV (c := 12), fI_sV_k, fL_sV_k, fV_sV_k, fI_wF, fI_wG, fI_wR, fL_wF, fL_wG, fL_wR, fV_wF, fV_wG, fV_wR, aF_sV, aG_sV, aR_sV, aF_wG, aF_wR, aG_wF, aG_wR, aR_wF, aR_wG, kC, kM, gO g1, gF g1, f5, lt]
        refine ⟨by rw [vp_inI, nI_toInt (by omega)]; omega, ?_⟩
        have kc : kwC k2 < 9223372036854775808 := by
          unfold kwC
          repeat (first | (split; omega) | omega)
        rw [nI_clamp (by omega), wd_tab k2 k4 k14]
        refine ⟨fun e => H1 ?_, fun e => ?_⟩
        · rw [lg_cmp_eq, lN_big kc (by omega)] at e
          exact e.symm
        · rw [nI_1]
          refine H2 (fun q => e ?_)
          rw [lg_cmp_eq, q]
      have e : ∀ k2 v, kwC k2 = v → (w ≠ kwC k2 ↔ w ≠ v) := fun k2 v q => by rw [q]
      refine S 4 (by decide) (by decide) (fun e => R 4 ?_) (fun e4 => ?_)
      · rw [show kwC 4 = 8903 from rfl] at e; unfold kwK; rw [if_pos e]
      refine S 5 (by decide) (by decide) (fun e => R 5 ?_) (fun e5 => ?_)
      · rw [show kwC 5 = 261256151 from rfl] at e; rw [e]; decide
      refine S 6 (by decide) (by decide) (fun e => R 6 ?_) (fun e6 => ?_)
      · rw [show kwC 6 = 4027 from rfl] at e; rw [e]; decide
      refine S 7 (by decide) (by decide) (fun e => R 7 ?_) (fun e7 => ?_)
      · rw [show kwC 7 = 249 from rfl] at e; rw [e]; decide
      refine S 8 (by decide) (by decide) (fun e => R 8 ?_) (fun e8 => ?_)
      · rw [show kwC 8 = 284147782 from rfl] at e; rw [e]; decide
      refine S 9 (by decide) (by decide) (fun e => R 9 ?_) (fun e9 => ?_)
      · rw [show kwC 9 = 107681 from rfl] at e; rw [e]; decide
      refine S 10 (by decide) (by decide) (fun e => R 10 ?_) (fun e10 => ?_)
      · rw [show kwC 10 = 282078293 from rfl] at e; rw [e]; decide
      refine S 11 (by decide) (by decide) (fun e => R 11 ?_) (fun e11 => ?_)
      · rw [show kwC 11 = 74417 from rfl] at e; rw [e]; decide
      refine S 12 (by decide) (by decide) (fun e => R 12 ?_) (fun e12 => ?_)
      · rw [show kwC 12 = 365654 from rfl] at e; rw [e]; decide
      refine S 13 (by decide) (by decide) (fun e => R 13 ?_) (fun e13 => ?_)
      · rw [show kwC 13 = 10793335 from rfl] at e; rw [e]; decide
      refine S 14 (by decide) (by decide) (fun e => R 14 ?_) (fun e14 => ?_)
      · rw [show kwC 14 = 311436 from rfl] at e; rw [e]; decide
      refine jT_X9_wordKind_81 (jif_t (nI_lt (a := 14) (by omega) (by omega)) (R 2 ?_))
      rw [show kwC 4 = 8903 from rfl] at e4
      rw [show kwC 5 = 261256151 from rfl] at e5
      rw [show kwC 6 = 4027 from rfl] at e6
      rw [show kwC 7 = 249 from rfl] at e7
      rw [show kwC 8 = 284147782 from rfl] at e8
      rw [show kwC 9 = 107681 from rfl] at e9
      rw [show kwC 10 = 282078293 from rfl] at e10
      rw [show kwC 11 = 74417 from rfl] at e11
      rw [show kwC 12 = 365654 from rfl] at e12
      rw [show kwC 13 = 10793335 from rfl] at e13
      rw [show kwC 14 = 311436 from rfl] at e14
      unfold kwK
      rw [if_neg e4, if_neg e5, if_neg e6, if_neg e7, if_neg e8, if_neg e9, if_neg e10, if_neg e11, if_neg e12, if_neg e13, if_neg e14]
  -- the letters
  have L : ∀ (r n : Nat) (h1 : JH) (c z : Nat), n + r = 2000 → fr [] TF h h1 → fI h1 7 4 = nI b → fI h1 7 3 = nI (b + n) → tkE tkL (bt h) N b = tkE tkL (bt h) N (b + n) → (n ≤ 8 → fL h1 7 5 = lN (c27 (bt h) b n)) → jB_X9_wordKind_7 X (d + 2) Q 7 (nI n) h1 c z := by
    intro r
    induction r with
    | zero =>
      intro n h1 c z hn k f4 f3 e f5
      rw [tkE_cap (i := b + n) (by omega)] at e
      rw [← e] at f3
      exact jT_X9_wordKind_7 (jif_n (nI_nlt (a := n) (b := 2000) (by omega) (by omega)) (V h1 c z k f4 f3 (fun q => by omega)))
    | succ r ih =>
      intro n h1 c z hn k f4 f3 e f5
      have g1 := G_fr g rfl k
      obtain ⟨tb1, eb⟩ := TB_fr tb k (by decide) (by decide)
      refine jT_X9_wordKind_7 (jif_t (nI_lt (b := 2000) (by omega) (by omega)) ?_)
      rw [jgI_ob (c := 9) (by simp only [gO g1]) rfl, f3, jrc_ob (by simp only [gO g1])]
      change jex X (d + 1 + 1) 40 [.ref 7, .int (nI (b + n))] _ _
      refine c_byteAt g1 tb1 (by omega) (fun x hx => ?_)
      rw [eb] at hx
      try dsimp only [jrI, jrN, jrA, jisr, jnul, jcat1]
      refine c_isLetter (fun q => ?_) (fun q => ?_)
      · rw [hx] at q
        have w := byO_go (by decide) q
        have wt := tkL_of w.2.1
        try dsimp only [jrI, jrN, jrA, jisr, jnul, jcat1]
        refine jif_n (by decide) ?_
        rw [jgL_ob (c := 9) (by simp only [gO g1]) rfl, jgI_ob (c := 9) (by simp only [gO g1]) rfl, f3, jrc_ob (by simp only [gO g1])]
        refine c_byteAt g1 tb1 (by omega) (fun y hy => ?_)
        rw [eb, byO_t w.1] at hy
        try dsimp only [jrI, jrN, jrA, jisr, jnul, jcat1]
        rw [jE_X9_withLetter]
        refine jT_X9_withLetter_0 ?_
        dsimp only [jrL]
        simp (decide := true) only [jgI_ob, jgf_ob, jgL_ob, jpI_ob, jpL_ob, jpR_ob, jpN_ob, jrc_ob, obj_sV, obj_wF, obj_wG, obj_wR, arr_sV, arr_wF, arr_wG, arr_wR, arL_sV, arL_wF, arL_wG, arL_wR, arR_sV, arR_wF, arR_wG, arR_wR, fI_sV (c := 0), fI_sV (c := 1), fI_sV (c := 2), fI_sV (c := 4), fI_sV (c := 5), fI_sV (c := 7), fI_sV (c := 8), fI_sV (c := 9), fI_sV (c := 10), fI_sV (c := 11), fI_sV (c := 12), fI_sV (c := 6), fL_sV (c := 9), fL_sV (c := 12), fI_sV_k, fL_sV_k, fV_sV_k, fI_wF, fI_wG, fI_wR, fL_wF, fL_wG, fL_wR, fV_wF, fV_wG, fV_wR, aF_sV, aG_sV, aR_sV, aF_wG, aF_wR, aG_wF, aG_wR, aR_wF, aR_wG, gO g1, f3]
        rw [nI_1, nI_1]
        refine ih (n + 1) _ _ _ (by omega) (fr_sV (by decide) (fr_sV (by decide) k)) ?_ ?_ (by rw [e, w.2.2]; rfl) (fun n8 => ?_)
        · simp (decide := true) only [jgI_ob, jgf_ob, jgL_ob, jpI_ob, jpL_ob, jpR_ob, jpN_ob, jrc_ob, obj_sV, obj_wF, obj_wG, obj_wR, arr_sV, arr_wF, arr_wG, arr_wR, arL_sV, arL_wF, arL_wG, arL_wR, arR_sV, arR_wF, arR_wG, arR_wR, fI_sV (c := 0), fI_sV (c := 1), fI_sV (c := 2), fI_sV (c := 4), fI_sV (c := 5), fI_sV (c := 7), fI_sV (c := 8), fI_sV (c := 9), fI_sV (c := 10), fI_sV (c := 11), fI_sV (c := 12), fI_sV (c := 6), fL_sV (c := 9), fL_sV (c := 12), fI_sV_k, fL_sV_k, fV_sV_k, fI_wF, fI_wG, fI_wR, fL_wF, fL_wG, fL_wR, fV_wF, fV_wG, fV_wR, aF_sV, aG_sV, aR_sV, aF_wG, aF_wR, aG_wF, aG_wR, aR_wF, aR_wG, gO g1, f4]
        · simp (decide := true) only [jgI_ob, jgf_ob, jgL_ob, jpI_ob, jpL_ob, jpR_ob, jpN_ob, jrc_ob, obj_sV, obj_wF, obj_wG, obj_wR, arr_sV, arr_wF, arr_wG, arr_wR, arL_sV, arL_wF, arL_wG, arL_wR, arR_sV, arR_wF, arR_wG, arR_wR, fI_sV (c := 0), fI_sV (c := 1), fI_sV (c := 2), fI_sV (c := 4), fI_sV (c := 5), fI_sV (c := 7), fI_sV (c := 8), fI_sV (c := 9), fI_sV (c := 10), fI_sV (c := 11), fI_sV (c := 12), fI_sV (c := 6), fL_sV (c := 9), fL_sV (c := 12), fI_sV_k, fL_sV_k, fV_sV_k, fI_wF, fI_wG, fI_wR, fL_wF, fL_wG, fL_wR, fV_wF, fV_wG, fV_wR, aF_sV, aG_sV, aR_sV, aF_wG, aF_wR, aG_wF, aG_wR, aR_wF, aR_wG, gO g1]
          rfl
        · simp (decide := true) only [jgI_ob, jgf_ob, jgL_ob, jpI_ob, jpL_ob, jpR_ob, jpN_ob, jrc_ob, obj_sV, obj_wF, obj_wG, obj_wR, arr_sV, arr_wF, arr_wG, arr_wR, arL_sV, arL_wF, arL_wG, arL_wR, arR_sV, arR_wF, arR_wG, arR_wR, fI_sV (c := 0), fI_sV (c := 1), fI_sV (c := 2), fI_sV (c := 4), fI_sV (c := 5), fI_sV (c := 7), fI_sV (c := 8), fI_sV (c := 9), fI_sV (c := 10), fI_sV (c := 11), fI_sV (c := 12), fI_sV (c := 6), fL_sV (c := 9), fL_sV (c := 12), fI_sV_k, fL_sV_k, fV_sV_k, fI_wF, fI_wG, fI_wR, fL_wF, fL_wG, fL_wR, fV_wF, fV_wG, fV_wR, aF_sV, aG_sV, aR_sV, aF_wG, aF_wR, aG_wF, aG_wR, aR_wF, aR_wG, gO g1]
          rw [f5 (by omega)]
          have ey : y - 97 + 1 = nI (bt h (b + n) - 96).toNat := by
            rw [ti_eq, nI_toInt (by omega)]
            have q1 : (y - 97).toInt = bt h (b + n) - 97 := (by simp only [Int32.toInt_add, Int32.toInt_sub, Int32.toInt_mul, Int32.toInt_neg, Int.bmod_def, tl, t4]; omega)
            generalize y - 97 = y1 at q1
            have q2 : (y1 + 1).toInt = bt h (b + n) - 96 := (by simp only [Int32.toInt_add, Int32.toInt_sub, Int32.toInt_mul, Int32.toInt_neg, Int.bmod_def, tl, t4]; omega)
            omega
          rw [ey, nI_l (by omega), show lN (c27 (bt h) b n) * 27 = lN (c27 (bt h) b n * 27) from lN_mul _ 27, lN_add]
          show _ = lN (27 * c27 (bt h) b n + (bt h (b + n) - 96).toNat)
          rw [Nat.mul_comm]
      · rw [hx] at q
        have w := byO_st (by decide) q
        try dsimp only [jrI, jrN, jrA, jisr, jnul, jcat1]
        refine jif_t rfl ?_
        rw [w] at e
        have n1 : n = tkE tkL (bt h) N b - b := by omega
        rw [← e] at f3
        rw [n1] at f5
        exact V h1 c z k f4 f3 f5
  rw [jE_X9_wordKind]
  refine jT_X9_wordKind_0 ?_
  rw [jpL_ob (c := 9) (by simp only [gO g]) rfl]
  refine L 2000 0 _ _ _ (by omega) (fr_sV (by decide) fr_rfl) ?_ ?_ rfl (fun _ => ?_)
  · simp (decide := true) only [jgI_ob, jgf_ob, jgL_ob, jpI_ob, jpL_ob, jpR_ob, jpN_ob, jrc_ob, obj_sV, obj_wF, obj_wG, obj_wR, arr_sV, arr_wF, arr_wG, arr_wR, arL_sV, arL_wF, arL_wG, arL_wR, arR_sV, arR_wF, arR_wG, arR_wR, fI_sV (c := 0), fI_sV (c := 1), fI_sV (c := 2), fI_sV (c := 4), fI_sV (c := 5), fI_sV (c := 7), fI_sV (c := 8), fI_sV (c := 9), fI_sV (c := 10), fI_sV (c := 11), fI_sV (c := 12), fI_sV (c := 6), fL_sV (c := 9), fL_sV (c := 12), fI_sV_k, fL_sV_k, fV_sV_k, fI_wF, fI_wG, fI_wR, fL_wF, fL_wG, fL_wR, fV_wF, fV_wG, fV_wR, aF_sV, aG_sV, aR_sV, aF_wG, aF_wR, aG_wF, aG_wR, aR_wF, aR_wG, gO g, h4]
  · simp (decide := true) only [jgI_ob, jgf_ob, jgL_ob, jpI_ob, jpL_ob, jpR_ob, jpN_ob, jrc_ob, obj_sV, obj_wF, obj_wG, obj_wR, arr_sV, arr_wF, arr_wG, arr_wR, arL_sV, arL_wF, arL_wG, arL_wR, arR_sV, arR_wF, arR_wG, arR_wR, fI_sV (c := 0), fI_sV (c := 1), fI_sV (c := 2), fI_sV (c := 4), fI_sV (c := 5), fI_sV (c := 7), fI_sV (c := 8), fI_sV (c := 9), fI_sV (c := 10), fI_sV (c := 11), fI_sV (c := 12), fI_sV (c := 6), fL_sV (c := 9), fL_sV (c := 12), fI_sV_k, fL_sV_k, fV_sV_k, fI_wF, fI_wG, fI_wR, fL_wF, fL_wG, fL_wR, fV_wF, fV_wG, fV_wR, aF_sV, aG_sV, aR_sV, aF_wG, aF_wR, aG_wF, aG_wR, aR_wF, aR_wG, gO g, h3]
    rfl
  · simp (decide := true) only [jgI_ob, jgf_ob, jgL_ob, jpI_ob, jpL_ob, jpR_ob, jpN_ob, jrc_ob, obj_sV, obj_wF, obj_wG, obj_wR, arr_sV, arr_wF, arr_wG, arr_wR, arL_sV, arL_wF, arL_wG, arL_wR, arR_sV, arR_wF, arR_wG, arR_wR, fI_sV (c := 0), fI_sV (c := 1), fI_sV (c := 2), fI_sV (c := 4), fI_sV (c := 5), fI_sV (c := 7), fI_sV (c := 8), fI_sV (c := 9), fI_sV (c := 10), fI_sV (c := 11), fI_sV (c := 12), fI_sV (c := 6), fL_sV (c := 9), fL_sV (c := 12), fI_sV_k, fL_sV_k, fV_sV_k, fI_wF, fI_wG, fI_wR, fL_wF, fL_wG, fL_wR, fV_wF, fV_wG, fV_wR, aF_sV, aG_sV, aR_sV, aF_wG, aF_wR, aG_wF, aG_wR, aR_wF, aR_wG, gO g]
    rfl
/-- the next token, cut from where the last one ended -/
theorem c_nextKind (g : G h) (tb : TB h N) {a : Nat} (h3 : fI h 7 3 = nI a) (ha : a ≤ N) (H : ∀ h1, fr [] TF h h1 → TC h1 (bt h) N (tkb (bt h) N a) → Q (some (.int (nI (tkK (bt h) N (tkb (bt h) N a))))) h1) : jex X (d + 4) 39 [.ref 7] h Q := by
  have hN := tb.2.1
  have hbN : tkb (bt h) N a ≤ N := tkE_le ha
  have V : ∀ (h1 : JH) (o : Option Value) (c z : Nat), fr [] TF h h1 → fI h1 7 3 = nI (tkb (bt h) N a) → jB_X9_nextKind_39 X (d + 3) Q 7 o h1 c z := by
    intro h1 o c z k f3
    have g1 := G_fr g rfl k
    generalize tkb (bt h) N a = b at *
    refine jT_X9_nextKind_39 ?_
    rw [jgI_ob (c := 9) (by simp only [gO g1]) rfl, f3, jpI_ob (c := 9) (by simp only [gO g1]) rfl]
    have k2 : fr [] TF h (sV h1 7 4 (.int (nI b))) := fr_sV (by decide) k
    have g2 := G_fr g rfl k2
    obtain ⟨tb2, eb⟩ := TB_fr tb k2 (by decide) (by decide)
    have q3 : fI (sV h1 7 4 (.int (nI b))) 7 3 = nI b := by simp (decide := true) only [jgI_ob, jgf_ob, jgL_ob, jpI_ob, jpL_ob, jpR_ob, jpN_ob, jrc_ob, obj_sV, obj_wF, obj_wG, obj_wR, arr_sV, arr_wF, arr_wG, arr_wR, arL_sV, arL_wF, arL_wG, arL_wR, arR_sV, arR_wF, arR_wG, arR_wR, fI_sV (c := 0), fI_sV (c := 1), fI_sV (c := 2), fI_sV (c := 4), fI_sV (c := 5), fI_sV (c := 7), fI_sV (c := 8), fI_sV (c := 9), fI_sV (c := 10), fI_sV (c := 11), fI_sV (c := 12), fI_sV (c := 6), fL_sV (c := 9), fL_sV (c := 12), fI_sV_k, fL_sV_k, fV_sV_k, fI_wF, fI_wG, fI_wR, fL_wF, fL_wG, fL_wR, fV_wF, fV_wG, fV_wR, aF_sV, aG_sV, aR_sV, aF_wG, aF_wR, aG_wF, aG_wR, aR_wF, aR_wG, gO g1, f3]
    have q4 : fI (sV h1 7 4 (.int (nI b))) 7 4 = nI b := by simp (decide := true) only [jgI_ob, jgf_ob, jgL_ob, jpI_ob, jpL_ob, jpR_ob, jpN_ob, jrc_ob, obj_sV, obj_wF, obj_wG, obj_wR, arr_sV, arr_wF, arr_wG, arr_wR, arL_sV, arL_wF, arL_wG, arL_wR, arR_sV, arR_wF, arR_wG, arR_wR, fI_sV (c := 0), fI_sV (c := 1), fI_sV (c := 2), fI_sV (c := 4), fI_sV (c := 5), fI_sV (c := 7), fI_sV (c := 8), fI_sV (c := 9), fI_sV (c := 10), fI_sV (c := 11), fI_sV (c := 12), fI_sV (c := 6), fL_sV (c := 9), fL_sV (c := 12), fI_sV_k, fL_sV_k, fV_sV_k, fI_wF, fI_wG, fI_wR, fL_wF, fL_wG, fL_wR, fV_wF, fV_wG, fV_wR, aF_sV, aG_sV, aR_sV, aF_wG, aF_wR, aG_wF, aG_wR, aR_wF, aR_wG, gO g1]
    generalize sV h1 7 4 (.int (nI b)) = h2 at *
    rw [jgI_ob (c := 9) (by simp only [gO g2]) rfl, q3, jrc_ob (by simp only [gO g2])]
    change jex X (d + 2 + 1) 40 [.ref 7, .int (nI b)] _ _
    refine c_byteAt g2 tb2 (by omega) (fun x hx => ?_)
    rw [eb] at hx
    try dsimp only [jrI, jrN, jrA, jisr, jnul, jcat1]
    have H2 : ∀ h3, fr [] TF h2 h3 → TC h3 (bt h2) N b → Q (some (.int (nI (tkK (bt h2) N b)))) h3 := by
      intro h3 k3 t3
      rw [eb] at t3 ⊢
      exact H h3 (fr_trans k2 k3) t3
    refine ⟨fun c1 => ?_, fun c1 => ?_⟩
    · rw [ti_eq, hx] at c1
      have nb : N ≤ b := by
        refine Classical.byContradiction (fun l => ?_)
        rw [byO_t (by omega)] at c1
        have := tb.2.2 b (by omega)
        have q : (-1 : Int32).toInt = -1 := rfl
        omega
      have eK : tkK (bt h) N b = 1 := if_pos nb
      have := H h2 k2 ⟨q4, by rw [show tkZ (bt h) N b = b from if_pos nb]; exact q3, fun q => by omega, fun q => by omega⟩
      rw [eK] at this
      exact this
    · have nb : b < N := by
        refine Classical.byContradiction (fun l => c1 ?_)
        rw [ti_eq, hx, byO_n l]
        rfl
      rw [byO_t nb] at hx
      refine c_isLetter (fun q => ?_) (fun q => ?_)
      · rw [hx] at q
        try dsimp only [jrI, jrN, jrA, jisr, jnul, jcat1]
        refine jif_n (by decide) ?_
        rw [jrc_ob (by simp only [gO g2])]
        exact c_wordKind g2 tb2 q4 q3 nb (by rw [eb]; exact q) (fun h3 k3 t3 => H2 h3 k3 t3)
      · rw [hx] at q
        try dsimp only [jrI, jrN, jrA, jisr, jnul, jcat1]
        refine jif_t rfl ?_
        refine c_isDigit (fun q2 => ?_) (fun q2 => ?_)
        · rw [hx] at q2
          try dsimp only [jrI, jrN, jrA, jisr, jnul, jcat1]
          refine jif_n (by decide) ?_
          rw [jrc_ob (by simp only [gO g2])]
          exact c_numberKind g2 tb2 q4 nb (by rw [eb]; exact q) (by rw [eb]; exact q2) (fun h3 k3 t3 => H2 h3 k3 t3)
        · rw [hx] at q2
          try dsimp only [jrI, jrN, jrA, jisr, jnul, jcat1]
          refine jif_t rfl ?_
          rw [jrc_ob (by simp only [gO g2])]
          exact c_signKind g2 tb2 q4 q3 nb (by rw [eb]; exact q) (by rw [eb]; exact q2) (by rw [eb]; exact hx) (fun h3 k3 t3 => H2 h3 k3 t3)
  have L : ∀ (r n : Nat) (h1 : JH) (c z : Nat), n + r = 2000 → fr [] TF h h1 → fI h1 7 3 = nI (a + n) → tkb (bt h) N a = tkE tkB (bt h) N (a + n) → jB_X9_nextKind_2 X (d + 3) Q 7 (nI n) h1 c z := by
    intro r
    induction r with
    | zero =>
      intro n h1 c z hn k f3 e
      rw [tkE_cap (i := a + n) (by omega)] at e
      rw [← e] at f3
      exact jT_X9_nextKind_2 (jif_n (nI_nlt (a := n) (b := 2000) (by omega) (by omega)) (V h1 _ c z k f3))
    | succ r ih =>
      intro n h1 c z hn k f3 e
      have g1 := G_fr g rfl k
      obtain ⟨tb1, eb⟩ := TB_fr tb k (by decide) (by decide)
      refine jT_X9_nextKind_2 (jif_t (nI_lt (b := 2000) (by omega) (by omega)) ?_)
      rw [jgI_ob (c := 9) (by simp only [gO g1]) rfl, f3, jrc_ob (by simp only [gO g1])]
      change jex X (d + 2 + 1) 40 [.ref 7, .int (nI (a + n))] _ _
      refine c_byteAt g1 tb1 (by omega) (fun x hx => ?_)
      rw [eb] at hx
      try dsimp only [jrI, jrN, jrA, jisr, jnul, jcat1]
      refine c_isBlank (fun q => ?_) (fun q => ?_)
      · rw [hx] at q
        have w := byO_go (by decide) q
        try dsimp only [jrI, jrN, jrA, jisr, jnul, jcat1]
        refine jif_n (by decide) ?_
        rw [jgI_ob (c := 9) (by simp only [gO g1]) rfl, f3, jpI_ob (c := 9) (by simp only [gO g1]) rfl, nI_1, nI_1]
        refine ih (n + 1) _ _ _ (by omega) (fr_sV (by decide) k) ?_ (by rw [e, w.2.2]; rfl)
        simp (decide := true) only [jgI_ob, jgf_ob, jgL_ob, jpI_ob, jpL_ob, jpR_ob, jpN_ob, jrc_ob, obj_sV, obj_wF, obj_wG, obj_wR, arr_sV, arr_wF, arr_wG, arr_wR, arL_sV, arL_wF, arL_wG, arL_wR, arR_sV, arR_wF, arR_wG, arR_wR, fI_sV (c := 0), fI_sV (c := 1), fI_sV (c := 2), fI_sV (c := 4), fI_sV (c := 5), fI_sV (c := 7), fI_sV (c := 8), fI_sV (c := 9), fI_sV (c := 10), fI_sV (c := 11), fI_sV (c := 12), fI_sV (c := 6), fL_sV (c := 9), fL_sV (c := 12), fI_sV_k, fL_sV_k, fV_sV_k, fI_wF, fI_wG, fI_wR, fL_wF, fL_wG, fL_wR, fV_wF, fV_wG, fV_wR, aF_sV, aG_sV, aR_sV, aF_wG, aF_wR, aG_wF, aG_wR, aR_wF, aR_wG, gO g1]
        rfl
      · rw [hx] at q
        have w := byO_st (by decide) q
        try dsimp only [jrI, jrN, jrA, jisr, jnul, jcat1]
        refine jif_t rfl ?_
        rw [w] at e
        rw [← e] at f3
        exact V h1 _ c z k f3
  rw [jE_X9_nextKind]
  refine jT_X9_nextKind_0 ?_
  exact L 2000 0 h _ _ (by omega) fr_rfl (by rw [h3]; rfl) rfl
end CTK3
