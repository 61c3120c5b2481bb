/-! THE BEST ORDER: the class's search -/
def AN (n : Nat) (O : Nat → Bool) (any : Bool) : Prop := (any = true → ∃ f, f < n ∧ O f = false) ∧ (any = false → ∀ f, f < n → O f = true)
def F64 : List (Nat × Nat) := (59, 9) :: F63
section ST2
variable {X : JX} {d : Nat} {Q : JQ} {h h1 : JH} {n : Nat} {L : List Nat} {U P : Nat → Int} {O : Nat → Bool} {any : Bool} {a : Acc}
theorem fo_s {j : Nat} : fo U P O any n (j + 1) L a = (match nx L with
    | none => one U P O any n L a
    | some M => fo U P O any n j M (one U P O any n L a)) := rfl
theorem FD_eq {a0 a1 a2 : Nat} (fd : FD h a0 a1 a2 n U P O) (e0 : aF h1 a0 = aF h a0) (e1 : aF h1 a1 = aF h a1) (e2 : aF h1 a2 = aF h a2) : FD h1 a0 a1 a2 n U P O := by
  unfold FD at *
  rw [e0, e1, e2]
  exact fd
theorem AC_eq (ac : AC h n a) (e1 : fI h1 59 10 = fI h 59 10) (e2 : fI h1 59 11 = fI h 59 11) (e3 : fI h1 59 12 = fI h 59 12) (e4 : aF h1 69 = aF h 69) : AC h1 n a := by
  unfold AC TR at *
  rw [e1, e2, e3, e4]
  exact ac
theorem c_hasTimes (g : G h) (h7 : n ≤ 7) (hn : (fI h 59 3).toInt = n) (fd : FD h 60 61 62 n U P O) (an : AN n O any) (H : Q (some (.int (bi any))) h) : jex X (d + 1) 235 [.ref 59] h Q := by
  have W : ∀ (j i : Nat) (a1 : Int32) (c z : Nat), j + i = n → a1.toInt = i → (∀ k, k < i → O k = true) → jB_X4_hasTimes_2 X d Q 59 a1 h c z := by
    intro j
    induction j with
    | zero =>
      intro i a1 c z hj ha ho
      refine jT_X4_hasTimes_2 ?_
      rw [jgI_ob (c := 4) (by simp only [gO g]) rfl]
      refine jif_n (by rw [ti_lt]; omega) ⟨by decide, ?_⟩
      cases any with
      | false => exact H
      | true =>
        obtain ⟨f, hf, hg⟩ := an.1 rfl
        have := ho f (by omega)
        rw [hg] at this
        cases this
    | succ j ih =>
      intro i a1 c z hj ha ho
      obtain ⟨d1, d2, d3, d4, d5, d6, d7⟩ := fd i (by omega)
      have iv : vp_in a1 7 := by rw [vp_inI]; omega
      refine jT_X4_hasTimes_2 ?_
      simp (decide := true) only [jgI_ob, jgf_ob, jgL_ob, jpI_ob, jpL_ob, jpR_ob, jpN_ob, jrc_ob, obj_sV, obj_wF, obj_wG, obj_wR, arr_sV, arr_wF, arr_wG, arr_wR, arL_sV, arL_wF, arL_wG, arL_wR, arR_sV, arR_wF, arR_wG, arR_wR, fI_sV (c := 0), fI_sV (c := 1), fI_sV (c := 2), fI_sV (c := 4), fI_sV (c := 5), fI_sV (c := 7), fI_sV (c := 8), fI_sV (c := 9), fI_sV (c := 10), fI_sV (c := 11), fI_sV (c := 12), fI_sV (c := 6), fL_sV (c := 9), fL_sV (c := 12), fI_sV_k, fL_sV_k, fV_sV_k, fI_wF, fI_wG, fI_wR, fL_wF, fL_wG, fL_wR, fV_wF, fV_wG, fV_wR, aF_sV, aG_sV, aR_sV, aF_wG, aF_wR, aG_wF, aG_wR, aR_wF, aR_wG, kC, kM, gO g, gF g, ti_clamp, ha, Int.toNat_natCast, ti_lt, iv, true_and, d7]
      refine jif_t (by omega) (jif_t (by show (i : Int) < 7; omega) ?_)
      cases eo : O i with
      | false =>
        refine jif_t rfl ?_
        cases any with
        | true => exact H
        | false =>
          have := an.2 rfl i (by omega)
          rw [eo] at this
          cases this
      | true =>
        refine jif_n (by decide) (ih (i + 1) _ _ _ (by omega) (by simp only [Int32.toInt_add, Int32.toInt_sub, Int32.toInt_mul, Int32.toInt_neg, Int.bmod_def, tl]; omega) (fun k hk => ?_))
        by_cases ck : k = i
        · rw [ck]; exact eo
        · exact ho k (by omega)
  rw [jE_X4_hasTimes]
  exact jT_X4_hasTimes_0 (W n 0 _ _ _ (by omega) rfl (fun k hk => by omega))
theorem c_isOver (g : G h) (h7 : n ≤ 7) (fd : FD h 60 61 62 n U P O) {k : Nat} (hk : k < n) {a1 : Int32} (ha : a1.toInt = k) (H : Q (some (.int (bi (O k)))) h) : jex X (d + 1) 236 [.ref 59, .int a1] h Q := by
  have d7 := (fd k hk).2.2.2.2.2.2
  have iv : vp_in a1 7 := by rw [vp_inI]; omega
  rw [jE_X4_isOver]
  refine jT_X4_isOver_0 (jif_n (by rw [ti_lt, ha, tl.1]; omega) ?_)
  rw [jgf_ob (c := 4) (by simp only [gO g]) rfl, show fV h 59 2 = .ref 62 by simp only [gF g], jaln_arr (t := .boolean) (n := 7) (by simp only [gO g])]
  refine jif_t (by rw [ti_lt]; show a1.toInt < 7; omega) ?_
  simp (decide := true) only [jgI_ob, jgf_ob, jgL_ob, jpI_ob, jpL_ob, jpR_ob, jpN_ob, jrc_ob, obj_sV, obj_wF, obj_wG, obj_wR, arr_sV, arr_wF, arr_wG, arr_wR, arL_sV, arL_wF, arL_wG, arL_wR, arR_sV, arR_wF, arR_wG, arR_wR, fI_sV (c := 0), fI_sV (c := 1), fI_sV (c := 2), fI_sV (c := 4), fI_sV (c := 5), fI_sV (c := 7), fI_sV (c := 8), fI_sV (c := 9), fI_sV (c := 10), fI_sV (c := 11), fI_sV (c := 12), fI_sV (c := 6), fL_sV (c := 9), fL_sV (c := 12), fI_sV_k, fL_sV_k, fV_sV_k, fI_wF, fI_wG, fI_wR, fL_wF, fL_wG, fL_wR, fV_wF, fV_wG, fV_wR, aF_sV, aG_sV, aR_sV, aF_wG, aF_wR, aG_wF, aG_wR, aR_wF, aR_wG, kC, kM, gO g, gF g, ti_clamp, ha, Int.toNat_natCast, iv, true_and, d7]
  cases eo : O k with
  | false => rw [eo] at H; exact jif_t rfl H
  | true => rw [eo] at H; exact jif_n (by decide) H
theorem c_settle (g : G h) (h1 : 1 ≤ n) (h7 : n ≤ 7) (hn : (fI h 59 3).toInt = n) (fd : FD h 60 61 62 n U P O) (an : AN n O any) (H0 : fI h 59 9 ≠ 0 → Q none h) (H1 : fI h 59 9 = 0 → ∀ h', fr [68, 69] F64 h h' → fI h' 59 9 = 1 → AC h' n (fo U P O any n 5040 (List.range n) none) → Q none h') : jex X (d + 5) 234 [.ref 59] h Q := by
  rw [jE_X4_settle]
  refine jT_X4_settle_0 ?_
  simp (decide := true) only [jgI_ob, jgf_ob, jgL_ob, jpI_ob, jpL_ob, jpR_ob, jpN_ob, jrc_ob, obj_sV, obj_wF, obj_wG, obj_wR, arr_sV, arr_wF, arr_wG, arr_wR, arL_sV, arL_wF, arL_wG, arL_wR, arR_sV, arR_wF, arR_wG, arR_wR, fI_sV (c := 0), fI_sV (c := 1), fI_sV (c := 2), fI_sV (c := 4), fI_sV (c := 5), fI_sV (c := 7), fI_sV (c := 8), fI_sV (c := 9), fI_sV (c := 10), fI_sV (c := 11), fI_sV (c := 12), fI_sV (c := 6), fL_sV (c := 9), fL_sV (c := 12), fI_sV_k, fL_sV_k, fV_sV_k, fI_wF, fI_wG, fI_wR, fL_wF, fL_wG, fL_wR, fV_wF, fV_wG, fV_wR, aF_sV, aG_sV, aR_sV, aF_wG, aF_wR, aG_wF, aG_wR, aR_wF, aR_wG, gO g, true_and]
  refine ⟨fun c0 => ?_, H0⟩
  have H2 := H1 c0
  refine (fun S : (∀ hh, hh = _ → jB_X4_settle_29 X (d + 4) Q 59 0 none none hh 0 0) => S _ rfl) (fun hh e => ?_)
  have k1 : fr [68, 69] F64 h hh := by rw [e]; exact fr_sV (by decide) (fr_sV (by decide) (fr_sV (by decide) fr_rfl))
  have f9 : fI hh 59 9 = 1 := by rw [e]; simp (decide := true) only [jgI_ob, jgf_ob, jgL_ob, jpI_ob, jpL_ob, jpR_ob, jpN_ob, jrc_ob, obj_sV, obj_wF, obj_wG, obj_wR, arr_sV, arr_wF, arr_wG, arr_wR, arL_sV, arL_wF, arL_wG, arL_wR, arR_sV, arR_wF, arR_wG, arR_wR, fI_sV (c := 0), fI_sV (c := 1), fI_sV (c := 2), fI_sV (c := 4), fI_sV (c := 5), fI_sV (c := 7), fI_sV (c := 8), fI_sV (c := 9), fI_sV (c := 10), fI_sV (c := 11), fI_sV (c := 12), fI_sV (c := 6), fL_sV (c := 9), fL_sV (c := 12), fI_sV_k, fL_sV_k, fV_sV_k, fI_wF, fI_wG, fI_wR, fL_wF, fL_wG, fL_wR, fV_wF, fV_wG, fV_wR, aF_sV, aG_sV, aR_sV, aF_wG, aF_wR, aG_wF, aG_wR, aR_wF, aR_wG, gO g]
  have f10 : fI hh 59 10 = 1000 := by rw [e]; simp (decide := true) only [jgI_ob, jgf_ob, jgL_ob, jpI_ob, jpL_ob, jpR_ob, jpN_ob, jrc_ob, obj_sV, obj_wF, obj_wG, obj_wR, arr_sV, arr_wF, arr_wG, arr_wR, arL_sV, arL_wF, arL_wG, arL_wR, arR_sV, arR_wF, arR_wG, arR_wR, fI_sV (c := 0), fI_sV (c := 1), fI_sV (c := 2), fI_sV (c := 4), fI_sV (c := 5), fI_sV (c := 7), fI_sV (c := 8), fI_sV (c := 9), fI_sV (c := 10), fI_sV (c := 11), fI_sV (c := 12), fI_sV (c := 6), fL_sV (c := 9), fL_sV (c := 12), fI_sV_k, fL_sV_k, fV_sV_k, fI_wF, fI_wG, fI_wR, fL_wF, fL_wG, fL_wR, fV_wF, fV_wG, fV_wR, aF_sV, aG_sV, aR_sV, aF_wG, aF_wR, aG_wF, aG_wR, aR_wF, aR_wG, gO g]
  have f11 : fI hh 59 11 = 1000 := by rw [e]; simp (decide := true) only [jgI_ob, jgf_ob, jgL_ob, jpI_ob, jpL_ob, jpR_ob, jpN_ob, jrc_ob, obj_sV, obj_wF, obj_wG, obj_wR, arr_sV, arr_wF, arr_wG, arr_wR, arL_sV, arL_wF, arL_wG, arL_wR, arR_sV, arR_wF, arR_wG, arR_wR, fI_sV (c := 0), fI_sV (c := 1), fI_sV (c := 2), fI_sV (c := 4), fI_sV (c := 5), fI_sV (c := 7), fI_sV (c := 8), fI_sV (c := 9), fI_sV (c := 10), fI_sV (c := 11), fI_sV (c := 12), fI_sV (c := 6), fL_sV (c := 9), fL_sV (c := 12), fI_sV_k, fL_sV_k, fV_sV_k, fI_wF, fI_wG, fI_wR, fL_wF, fL_wG, fL_wR, fV_wF, fV_wG, fV_wR, aF_sV, aG_sV, aR_sV, aF_wG, aF_wR, aG_wF, aG_wR, aR_wF, aR_wG, gO g]
  have g1 := G_fr g rfl k1
  have hn1 : (fI hh 59 3).toInt = n := by rw [frI k1 (by decide) (by decide)]; exact hn
  have fd1 : FD hh 60 61 62 n U P O := FD_eq fd (frF k1 (by decide)) (frF k1 (by decide)) (frF k1 (by decide))
  have H3 : ∀ h', fr [68, 69] F63 hh h' → AC h' n (fo U P O any n 5040 (List.range n) none) → Q none h' := fun h' k ac => H2 h' (fr_trans k1 (fr_mono (fun _ c => c) (fun q c => List.mem_cons_of_mem _ c) k)) (by rw [frI k (by decide) (by decide)]; exact f9) ac
  clear H2 H1 H0 e
  have DONE : ∀ (h' : JH) (a3 : Int32) (c z : Nat), Q none h' → jB_X4_settle_60 X (d + 4) Q 59 (bi any) 0 a3 h' c z := fun h' a3 c z q => jT_X4_settle_60 ⟨fun _ => jif_t rfl q, fun _ => q⟩
  have W59 : ∀ (j i : Nat) (h' : JH) (L : List Nat) (a : Acc) (a3 : Int32) (c z : Nat), j + i = 5040 → a3.toInt = i → fr [68, 69] F63 hh h' → TR h' 68 L → OK n L → AC h' n a → fo U P O any n j L a = fo U P O any n 5040 (List.range n) none → jB_X4_settle_60 X (d + 4) Q 59 (bi any) 1 a3 h' c z := by
    intro j
    induction j with
    | zero =>
      intro i h' L a a3 c z hj h3 k tr ok ac hf
      refine jT_X4_settle_60 (jif_n (by rw [ti_lt, h3]; have : (5040 : Int32).toInt = 5040 := by decide
                                        omega) (H3 h' k ?_))
      rw [← hf]
      exact ac
    | succ j ih =>
      intro i h' L a a3 c z hj h3 k tr ok ac hf
      have g' := G_fr g1 rfl k
      have hn' : (fI h' 59 3).toInt = n := by rw [frI k (by decide) (by decide)]; exact hn1
      have fd' : FD h' 60 61 62 n U P O := FD_eq fd1 (frF k (by decide)) (frF k (by decide)) (frF k (by decide))
      have h3' : (a3 + 1).toInt = ((i + 1 : Nat) : Int) := (by simp only [Int32.toInt_add, Int32.toInt_sub, Int32.toInt_mul, Int32.toInt_neg, Int.bmod_def, tl]; omega)
      have NEXT : ∀ (h2 : JH) (a' : Acc) (c z : Nat), fr [68, 69] F63 h' h2 → TR h2 68 L → AC h2 n a' → a' = one U P O any n L a → jex X (d + 4) 238 [.ref 59] h2 (fun r h => jrI r fun x => jB_X4_settle_60 X (d + 4) Q 59 (bi any) x (a3 + 1) h c z) := by
        intro h2 a' c z k2 tr2 ac2 ea
        have g2 := G_fr g' rfl k2
        have hn2 : (fI h2 59 3).toInt = n := by rw [frI k2 (by decide) (by decide)]; exact hn'
        rw [fo_s (j := j) (L := L) (a := a)] at hf
        rw [← ea] at hf
        refine c_toNext (d := d + 2) g2 h1 h7 hn2 tr2 ok (fun hx => ?_) (fun M h5 hx k5 tr5 => ?_)
        · rw [hx] at hf
          dsimp only at hf
          try dsimp only [jrI, jrN, jrA, jisr, jnul, jcat1]
          refine DONE h2 _ _ _ (H3 h2 (fr_trans k k2) ?_)
          rw [← hf]
          exact ac2
        · rw [hx] at hf
          dsimp only at hf
          try dsimp only [jrI, jrN, jrA, jisr, jnul, jcat1]
          exact ih (i + 1) h5 M a' _ _ _ (by omega) h3' (fr_trans k (fr_trans k2 (fr_mono (fun q c => by rw [List.mem_singleton.mp c]; decide) (fun q c => by cases c) k5))) tr5 (OK_nx ok h1 hx) (AC_eq ac2 (frI k5 (by decide) (by decide)) (frI k5 (by decide) (by decide)) (frI k5 (by decide) (by decide)) (frF k5 (by decide))) hf
      have TRY : ∀ (c z : Nat), one U P O any n L a = upB a (TT U P O any n L) L → jex X (d + 4) 237 [.ref 59, .int (bi any)] h' (fun r2 h1 => jrN r2 (jrc h1 (.ref 59) 4 (jex X (d + 4) 238 [.ref 59] h1 fun r4 h3 => (jrI r4 fun x5 => (jB_X4_settle_60 X (d + 4) Q 59 (bi any) x5 (a3 + 1) h3 c z))))) := by
        intro c z eo
        refine c_tryOrder g' h1 h7 hn' tr ok fd' ac (fun h2 k2 ac2 => ?_)
        try dsimp only [jrI, jrN, jrA, jisr, jnul, jcat1]
        have g2 := G_fr g' rfl k2
        rw [jrc_ob (by simp only [gO g2])]
        refine NEXT h2 _ c z (fr_mono (fun q c => by rw [List.mem_singleton.mp c]; decide) (fun q c => c) k2) ?_ ac2 eo.symm
        unfold TR
        rw [frF k2 (by decide)]
        exact tr
      have A := TR_at tr ok (show 0 < n by omega) h7
      have ek : (nI (gt L 0)).toInt = gt L 0 := nI_toInt (by have := A.2.2; omega)
      refine jT_X4_settle_60 (jif_t (by rw [ti_lt, h3]; have : (5040 : Int32).toInt = 5040 := by decide
                                        omega) (jif_n (by decide) ?_))
      rw [jrc_ob (by simp only [gO g'])]
      cases ea : any with
      | false =>
        rw [ea] at TRY
        exact jif_t rfl (TRY _ _ (by unfold one; rw [if_pos (Or.inl rfl)]))
      | true =>
        rw [ea] at TRY NEXT
        refine jif_n (by decide) ?_
        rw [jgf_ob (c := 4) (by simp only [gO g']) rfl, show fV h' 59 7 = .ref 68 by simp only [gF g'], jaI_ar (n := 7) (by simp only [gO g']), show (0 : Int32).toNatClampNeg = 0 from rfl, A.1]
        refine ⟨by rw [vp_inI]; decide, ?_⟩
        rw [jrc_ob (by simp only [gO g'])]
        refine c_isOver (d := d + 3) g' h7 fd' A.2.2 ek ?_
        try dsimp only [jrI, jrN, jrA, jisr, jnul, jcat1]
        rw [jrc_ob (by simp only [gO g']), jrc_ob (by simp only [gO g'])]
        cases eo : O (gt L 0) with
        | false => exact jif_t rfl (TRY _ _ (by unfold one; rw [if_pos (Or.inr eo)]))
        | true =>
          refine jif_n (by decide) (NEXT h' a _ _ fr_rfl tr ac ?_)
          unfold one
          rw [if_neg (fun w => by rcases w with w | w; cases w; rw [eo] at w; cases w)]
  have W29 : ∀ (j i : Nat) (h' : JH) (a1 : Int32) (o2 o3 : Option Value) (c z : Nat), j + i = 7 → a1.toInt = i → fr [68] [] hh h' → (∀ k, k < i → aF h' 68 k = nI k) → jB_X4_settle_29 X (d + 4) Q 59 a1 o2 o3 h' c z := by
    intro j
    induction j with
    | zero =>
      intro i h' a1 o2 o3 c z hj ha k he
      have g' := G_fr g1 rfl k
      have hn' : (fI h' 59 3).toInt = n := by rw [frI k (by decide) (by decide)]; exact hn1
      have fd' : FD h' 60 61 62 n U P O := FD_eq fd1 (frF k (by decide)) (frF k (by decide)) (frF k (by decide))
      refine jT_X4_settle_29 ?_
      rw [jgf_ob (c := 4) (by simp only [gO g']) rfl, show fV h' 59 7 = .ref 68 by simp only [gF g'], jaln_arr (t := .int) (n := 7) (by simp only [gO g'])]
      refine jif_n (by rw [ti_lt]; show ¬ a1.toInt < 7; omega) ?_
      rw [jrc_ob (by simp only [gO g'])]
      refine c_hasTimes (d := d + 3) g' h7 hn' fd' an ?_
      try dsimp only [jrI, jrN, jrA, jisr, jnul, jcat1]
      refine W59 5040 0 h' (List.range n) none _ _ _ (by omega) rfl (fr_mono (fun q c => by rw [List.mem_singleton.mp c]; decide) (fun q c => by cases c) k) ?_ (OK_range h1) ?_ rfl
      · intro q hq
        rw [List.length_range] at hq
        rw [gt_range hq]
        exact he q (by omega)
      · exact ⟨by rw [frI k (by decide) (by decide), f10]; rfl, by rw [frI k (by decide) (by decide), f11]; rfl⟩
    | succ j ih =>
      intro i h' a1 o2 o3 c z hj ha k he
      have g' := G_fr g1 rfl k
      have hn' : (fI h' 59 3).toInt = n := by rw [frI k (by decide) (by decide)]; exact hn1
      have iv : vp_in a1 7 := by rw [vp_inI]; omega
      have ea : a1 = nI i := by rw [← Int32.toInt_inj, nI_toInt (by omega)]; exact ha
      refine jT_X4_settle_29 ?_
      rw [jgf_ob (c := 4) (by simp only [gO g']) rfl, show fV h' 59 7 = .ref 68 by simp only [gF g'], jaln_arr (t := .int) (n := 7) (by simp only [gO g'])]
      refine jif_t (by rw [ti_lt]; show a1.toInt < 7; omega) ?_
      simp (decide := true) only [jgI_ob, jgf_ob, jgL_ob, jpI_ob, jpL_ob, jpR_ob, jpN_ob, jrc_ob, obj_sV, obj_wF, obj_wG, obj_wR, arr_sV, arr_wF, arr_wG, arr_wR, arL_sV, arL_wF, arL_wG, arL_wR, arR_sV, arR_wF, arR_wG, arR_wR, fI_sV (c := 0), fI_sV (c := 1), fI_sV (c := 2), fI_sV (c := 4), fI_sV (c := 5), fI_sV (c := 7), fI_sV (c := 8), fI_sV (c := 9), fI_sV (c := 10), fI_sV (c := 11), fI_sV (c := 12), fI_sV (c := 6), fL_sV (c := 9), fL_sV (c := 12), fI_sV_k, fL_sV_k, fV_sV_k, fI_wF, fI_wG, fI_wR, fL_wF, fL_wG, fL_wR, fV_wF, fV_wG, fV_wR, aF_sV, aG_sV, aR_sV, aF_wG, aF_wR, aG_wF, aG_wR, aR_wF, aR_wG, kC, kM, gO g', gF g', iv, true_and]
      refine ih (i + 1) _ _ _ _ _ _ (by omega) (by simp only [Int32.toInt_add, Int32.toInt_sub, Int32.toInt_mul, Int32.toInt_neg, Int.bmod_def, tl]; omega) (fr_wF (by decide) k) (fun q hq => ?_)
      simp (decide := true) only [jgI_ob, jgf_ob, jgL_ob, jpI_ob, jpL_ob, jpR_ob, jpN_ob, jrc_ob, obj_sV, obj_wF, obj_wG, obj_wR, arr_sV, arr_wF, arr_wG, arr_wR, arL_sV, arL_wF, arL_wG, arL_wR, arR_sV, arR_wF, arR_wG, arR_wR, fI_sV (c := 0), fI_sV (c := 1), fI_sV (c := 2), fI_sV (c := 4), fI_sV (c := 5), fI_sV (c := 7), fI_sV (c := 8), fI_sV (c := 9), fI_sV (c := 10), fI_sV (c := 11), fI_sV (c := 12), fI_sV (c := 6), fL_sV (c := 9), fL_sV (c := 12), fI_sV_k, fL_sV_k, fV_sV_k, fI_wF, fI_wG, fI_wR, fL_wF, fL_wG, fL_wR, fV_wF, fV_wG, fV_wR, aF_sV, aG_sV, aR_sV, aF_wG, aF_wR, aG_wF, aG_wR, aR_wF, aR_wG, kC, kM, gO g', ti_clamp, ha, Int.toNat_natCast]
      by_cases cq : q = i
      · rw [cq, upd_s]; exact ea
      · rw [upd_n cq]; exact he q (by omega)
  exact W29 7 0 hh _ _ _ _ _ (by omega) rfl fr_rfl (fun q hq => by omega)
end ST2
