/-! THE BEST ORDER: the model's search -/
def FMo : List (Nat × Nat) := [(81, 64), (81, 65), (81, 66), (81, 67), (81, 68), (81, 69)]
def MA (h : JH) (n : Nat) (q : Int × Int × Int × List Nat) : Prop := (fI h 81 64).toInt = q.1 ∧ (fI h 81 65).toInt = q.2.1 ∧ (fI h 81 66).toInt = q.2.2.1 ∧ TR h 117 q.2.2.2 ∧ OK n q.2.2.2
def MBo (h : JH) (n : Nat) (a : Acc) : Prop := match a with
  | none => True
  | some q => MA h n q
section ORD
variable {X : JX} {d : Nat} {Q : JQ} {h h1 : JH} {n : Nat} {L : List Nat} {U P : Nat → Int} {O : Nat → Bool} {any : Bool} {a : Acc}
theorem MBo_eq (ac : MBo h n a) (e1 : fI h1 81 64 = fI h 81 64) (e2 : fI h1 81 65 = fI h 81 65) (e3 : fI h1 81 66 = fI h 81 66) (e4 : aF h1 117 = aF h 117) : MBo h1 n a := by
  cases a with
  | none => trivial
  | some q =>
    unfold MBo MA TR at *
    dsimp only at *
    rw [e1, e2, e3, e4]
    exact ac
theorem c_ordered (g : G h) (h1 : 1 ≤ n) (h7 : n ≤ 7) (hn : (fI h 81 58).toInt = n) (fd : FD h 113 114 115 n U P O) (an : AN n O any) (H : ∀ h' q, fr [116, 117] FMo h h' → fo U P O any n 5040 (List.range n) none = some q → MA h' n q → Q (some (.int 1)) h') : jex X (d + 3) 241 [.ref 81] h Q := by
  have M116 : ∀ q, q ∈ [116] → q ∈ [116, 117] := fun q c => by rw [List.mem_singleton.mp c]; decide
  have MFT : ∀ q, q ∈ FTi → q ∈ FMo := fun q c => List.mem_cons_of_mem _ (List.mem_cons_of_mem _ (List.mem_cons_of_mem _ c))
  have W57 : ∀ (j : Nat) (h' : JH) (L : List Nat) (a : Acc) (o4 o5 : Option Value) (c z : Nat), ends j L = true → fr [116, 117] FMo h h' → TR h' 116 L → OK n L → MBo h' n a → fo U P O any n j L a = fo U P O any n 5040 (List.range n) none → jB_X12_ordered_57 X (d + 2) Q 81 (bi any) (bi a.isSome) 1 o4 o5 h' c z := by
    intro j
    induction j with
    | zero => intro h' L a o4 o5 c z he; cases he
    | succ j ih =>
      intro h' L a o4 o5 c z he k tr ok ac hf
      have g' := G_fr g rfl k
      have hn' : (fI h' 81 58).toInt = n := by rw [frI k (by decide) (by decide)]; exact hn
      have fd' : FD h' 113 114 115 n U P O := FD_eq fd (frF k (by decide)) (frF k (by decide)) (frF k (by decide))
      have A := TR_at tr ok (show 0 < n by omega) h7
      have NEXT : ∀ (h2 : JH) (a' : Acc) (o4 o5 : Option Value) (c z : Nat), fr [116, 117] FMo h' h2 → TR h2 116 L → MBo h2 n a' → a' = one U P O any n L a → jex X (d + 2) 243 [.ref 81] h2 (fun r h => jrI r fun x => jB_X12_ordered_57 X (d + 2) Q 81 (bi any) (bi a'.isSome) x o4 o5 h c z) := by
        intro h2 a' o4 o5 c z k2 tr2 ac2 ea
        have g2 := G_fr g' rfl k2
        have hn2 : (fI h2 81 58).toInt = n := by rw [frI k2 (by decide) (by decide)]; exact hn'
        rw [fo_s (j := j) (L := L) (a := a)] at hf
        rw [← ea] at hf
        unfold ends at he
        refine c_turns g2 h1 h7 hn2 tr2 ok (fun hx => ?_) (fun M h5 hx k5 tr5 => ?_)
        · rw [hx] at hf
          dsimp only at hf
          try dsimp only [jrI, jrN, jrA, jisr, jnul, jcat1]
          refine jT_X12_ordered_57 (jif_t rfl ⟨by decide, ?_⟩)
          have iss := fo_best (U := U) (P := P) h1 h7 an.1
          rw [← hf] at iss
          cases a' with
          | none => cases iss
          | some q => exact H h2 q (fr_trans k k2) hf.symm ac2
        · rw [hx] at hf he
          dsimp only at hf he
          try dsimp only [jrI, jrN, jrA, jisr, jnul, jcat1]
          exact ih h5 M a' _ _ _ _ he (fr_trans k (fr_trans k2 (fr_mono M116 (fun q c => by cases c) k5))) tr5 (OK_nx ok h1 hx) (MBo_eq ac2 (frI k5 (by decide) (by decide)) (frI k5 (by decide) (by decide)) (frI k5 (by decide) (by decide)) (frF k5 (by decide))) hf
      have S79 : ∀ (o3 o4 o5 : Option Value) (c z : Nat), (any = false ∨ O (gt L 0) = false) → jB_X12_ordered_79 X (d + 2) Q 81 (bi any) (bi a.isSome) o3 o4 o5 h' c z := by
        intro o3 o4 o5 c z hc
        have eo : one U P O any n L a = upB a (TT U P O any n L) L := by unfold one; rw [if_pos hc]
        have ha : any = !(O (gt L 0)) := by
          cases e : any with
          | true => rcases hc with w | w
                    · rw [e] at w; cases w
                    · rw [w]; rfl
          | false => rw [an.2 e _ A.2.2]; rfl
        refine jT_X12_ordered_79 ?_
        rw [jrc_ob (by simp only [gM g'])]
        refine c_tries (d := d + 1) g' h1 h7 hn' tr ok fd' ha (fun h2 k2 ms => ?_)
        try dsimp only [jrI, jrN, jrA, jisr, jnul, jcat1]
        have k2' : fr [116, 117] FMo h' h2 := fr_mono (fun q c => by cases c) MFT k2
        have g2 := G_fr g' rfl k2
        have hn2 : (fI h2 81 58).toInt = n := by rw [frI k2 (by decide) (by decide)]; exact hn'
        have tr2 : TR h2 116 L := by unfold TR; rw [frF k2 (by decide)]; exact tr
        obtain ⟨m1, m2, m3⟩ := ms
        have L161 : ∀ (j i : Nat) (h5 : JH) (a5 : Int32) (o3 o4 : Option Value) (c z : Nat), j + i = n → a5.toInt = i → fr [117] [(81, 64), (81, 65), (81, 66)] h2 h5 → (fI h5 81 64).toInt = zsl (TT U P O any n L) → (fI h5 81 65).toInt = zhm (TT U P O any n L) → (fI h5 81 66).toInt = zpl (TT U P O any n L) → (∀ q, q < i → aF h5 117 q = nI (gt L q)) → one U P O any n L a = some (zsl (TT U P O any n L), zhm (TT U P O any n L), zpl (TT U P O any n L), L) → jB_X12_ordered_161 X (d + 2) Q 81 (bi any) 1 o3 o4 a5 h5 c z := by
          intro j
          induction j with
          | zero =>
            intro i h5 a5 o3 o4 c z hj h4 k5 e1 e2 e3 he ex
            have g5 := G_fr g2 rfl k5
            have hn5 : (fI h5 81 58).toInt = n := by rw [frI k5 (by decide) (by decide)]; exact hn2
            refine jT_X12_ordered_161 ?_
            rw [jgI_ob (c := 12) (by simp only [gM g5]) rfl]
            refine jif_n (by rw [ti_lt]; omega) ?_
            rw [jrc_ob (by simp only [gM g5])]
            refine NEXT h5 (some (zsl (TT U P O any n L), zhm (TT U P O any n L), zpl (TT U P O any n L), L)) _ _ _ _ (fr_trans k2' (fr_mono (fun q c => by rw [List.mem_singleton.mp c]; decide) (fun q c => by rcases List.mem_cons.mp c with e | c; rw [e]; decide; rcases List.mem_cons.mp c with e | c; rw [e]; decide; rw [List.mem_singleton.mp c]; decide) k5)) ?_ ⟨e1, e2, e3, fun q hq => he q (by rw [ok.1] at hq; omega), ok⟩ ex.symm
            unfold TR
            rw [frF k5 (by decide)]
            exact tr2
          | succ j ih2 =>
            intro i h5 a5 o3 o4 c z hj h4 k5 e1 e2 e3 he ex
            have g5 := G_fr g2 rfl k5
            have hn5 : (fI h5 81 58).toInt = n := by rw [frI k5 (by decide) (by decide)]; exact hn2
            have f116 : aF h5 116 i = nI (gt L i) := by rw [frF k5 (by decide)]; exact tr2 i (by rw [ok.1]; omega)
            have iv : vp_in a5 7 := by rw [vp_inI]; omega
            refine jT_X12_ordered_161 ?_
            rw [jgI_ob (c := 12) (by simp only [gM g5]) rfl]
            refine jif_t (by rw [ti_lt]; omega) ?_
            simp (decide := true) only [jgI_ob, jgf_ob, jgL_ob, jpI_ob, jpL_ob, jpR_ob, jpN_ob, jrc_ob, obj_sV, obj_wF, obj_wG, obj_wR, arr_sV, arr_wF, arr_wG, arr_wR, arL_sV, arL_wF, arL_wG, arL_wR, arR_sV, arR_wF, arR_wG, arR_wR, fI_sV (c := 0), fI_sV (c := 1), fI_sV (c := 2), fI_sV (c := 4), fI_sV (c := 5), fI_sV (c := 7), fI_sV (c := 8), fI_sV (c := 9), fI_sV (c := 10), fI_sV (c := 11), fI_sV (c := 12), fI_sV (c := 6), fL_sV (c := 9), fL_sV (c := 12), fI_sV_k, fL_sV_k, fV_sV_k, fI_wF, fI_wG, fI_wR, fL_wF, fL_wG, fL_wR, fV_wF, fV_wG, fV_wR, aF_sV, aG_sV, aR_sV, aF_wG, aF_wR, aG_wF, aG_wR, aR_wF, aR_wG, kC, kM, gM g5, gN g5, iv, true_and, ti_clamp, h4, Int.toNat_natCast, f116]
            refine ih2 (i + 1) _ _ _ _ _ _ (by omega) (by simp only [Int32.toInt_add, Int32.toInt_sub, Int32.toInt_mul, Int32.toInt_neg, Int.bmod_def, tl]; omega) (fr_wF (by decide) k5) ?_ ?_ ?_ (fun q hq => ?_) ex
            · simp (decide := true) only [jgI_ob, jgf_ob, jgL_ob, jpI_ob, jpL_ob, jpR_ob, jpN_ob, jrc_ob, obj_sV, obj_wF, obj_wG, obj_wR, arr_sV, arr_wF, arr_wG, arr_wR, arL_sV, arL_wF, arL_wG, arL_wR, arR_sV, arR_wF, arR_wG, arR_wR, fI_sV (c := 0), fI_sV (c := 1), fI_sV (c := 2), fI_sV (c := 4), fI_sV (c := 5), fI_sV (c := 7), fI_sV (c := 8), fI_sV (c := 9), fI_sV (c := 10), fI_sV (c := 11), fI_sV (c := 12), fI_sV (c := 6), fL_sV (c := 9), fL_sV (c := 12), fI_sV_k, fL_sV_k, fV_sV_k, fI_wF, fI_wG, fI_wR, fL_wF, fL_wG, fL_wR, fV_wF, fV_wG, fV_wR, aF_sV, aG_sV, aR_sV, aF_wG, aF_wR, aG_wF, aG_wR, aR_wF, aR_wG, gM g5]; exact e1
            · simp (decide := true) only [jgI_ob, jgf_ob, jgL_ob, jpI_ob, jpL_ob, jpR_ob, jpN_ob, jrc_ob, obj_sV, obj_wF, obj_wG, obj_wR, arr_sV, arr_wF, arr_wG, arr_wR, arL_sV, arL_wF, arL_wG, arL_wR, arR_sV, arR_wF, arR_wG, arR_wR, fI_sV (c := 0), fI_sV (c := 1), fI_sV (c := 2), fI_sV (c := 4), fI_sV (c := 5), fI_sV (c := 7), fI_sV (c := 8), fI_sV (c := 9), fI_sV (c := 10), fI_sV (c := 11), fI_sV (c := 12), fI_sV (c := 6), fL_sV (c := 9), fL_sV (c := 12), fI_sV_k, fL_sV_k, fV_sV_k, fI_wF, fI_wG, fI_wR, fL_wF, fL_wG, fL_wR, fV_wF, fV_wG, fV_wR, aF_sV, aG_sV, aR_sV, aF_wG, aF_wR, aG_wF, aG_wR, aR_wF, aR_wG, gM g5]; exact e2
            · simp (decide := true) only [jgI_ob, jgf_ob, jgL_ob, jpI_ob, jpL_ob, jpR_ob, jpN_ob, jrc_ob, obj_sV, obj_wF, obj_wG, obj_wR, arr_sV, arr_wF, arr_wG, arr_wR, arL_sV, arL_wF, arL_wG, arL_wR, arR_sV, arR_wF, arR_wG, arR_wR, fI_sV (c := 0), fI_sV (c := 1), fI_sV (c := 2), fI_sV (c := 4), fI_sV (c := 5), fI_sV (c := 7), fI_sV (c := 8), fI_sV (c := 9), fI_sV (c := 10), fI_sV (c := 11), fI_sV (c := 12), fI_sV (c := 6), fL_sV (c := 9), fL_sV (c := 12), fI_sV_k, fL_sV_k, fV_sV_k, fI_wF, fI_wG, fI_wR, fL_wF, fL_wG, fL_wR, fV_wF, fV_wG, fV_wR, aF_sV, aG_sV, aR_sV, aF_wG, aF_wR, aG_wF, aG_wR, aR_wF, aR_wG, gM g5]; exact e3
            · simp (decide := true) only [jgI_ob, jgf_ob, jgL_ob, jpI_ob, jpL_ob, jpR_ob, jpN_ob, jrc_ob, obj_sV, obj_wF, obj_wG, obj_wR, arr_sV, arr_wF, arr_wG, arr_wR, arL_sV, arL_wF, arL_wG, arL_wR, arR_sV, arR_wF, arR_wG, arR_wR, fI_sV (c := 0), fI_sV (c := 1), fI_sV (c := 2), fI_sV (c := 4), fI_sV (c := 5), fI_sV (c := 7), fI_sV (c := 8), fI_sV (c := 9), fI_sV (c := 10), fI_sV (c := 11), fI_sV (c := 12), fI_sV (c := 6), fL_sV (c := 9), fL_sV (c := 12), fI_sV_k, fL_sV_k, fV_sV_k, fI_wF, fI_wG, fI_wR, fL_wF, fL_wG, fL_wR, fV_wF, fV_wG, fV_wR, aF_sV, aG_sV, aR_sV, aF_wG, aF_wR, aG_wF, aG_wR, aR_wF, aR_wG, kC, kM, gM g5]
              by_cases cq : q = i
              · rw [cq, upd_s]
              · rw [upd_n cq]; exact he q (by omega)
        have YES : ∀ (o3 o4 : Option Value) (c z : Nat), upB a (TT U P O any n L) L = some (zsl (TT U P O any n L), zhm (TT U P O any n L), zpl (TT U P O any n L), L) → jB_X12_ordered_161 X (d + 2) Q 81 (bi any) 1 o3 o4 0 (sV (sV (sV h2 81 64 (.int (fI h2 81 67))) 81 65 (.int (fI h2 81 68))) 81 66 (.int (fI h2 81 69))) c z := by
          intro o3 o4 c z e
          refine L161 n 0 _ _ _ _ _ _ (by omega) rfl (fr_sV (by decide) (fr_sV (by decide) (fr_sV (by decide) fr_rfl))) ?_ ?_ ?_ (fun q hq => by omega) (eo.trans e)
          · simp (decide := true) only [jgI_ob, jgf_ob, jgL_ob, jpI_ob, jpL_ob, jpR_ob, jpN_ob, jrc_ob, obj_sV, obj_wF, obj_wG, obj_wR, arr_sV, arr_wF, arr_wG, arr_wR, arL_sV, arL_wF, arL_wG, arL_wR, arR_sV, arR_wF, arR_wG, arR_wR, fI_sV (c := 0), fI_sV (c := 1), fI_sV (c := 2), fI_sV (c := 4), fI_sV (c := 5), fI_sV (c := 7), fI_sV (c := 8), fI_sV (c := 9), fI_sV (c := 10), fI_sV (c := 11), fI_sV (c := 12), fI_sV (c := 6), fL_sV (c := 9), fL_sV (c := 12), fI_sV_k, fL_sV_k, fV_sV_k, fI_wF, fI_wG, fI_wR, fL_wF, fL_wG, fL_wR, fV_wF, fV_wG, fV_wR, aF_sV, aG_sV, aR_sV, aF_wG, aF_wR, aG_wF, aG_wR, aR_wF, aR_wG, gM g2, fI_sV_ne]; exact m1
          · simp (decide := true) only [jgI_ob, jgf_ob, jgL_ob, jpI_ob, jpL_ob, jpR_ob, jpN_ob, jrc_ob, obj_sV, obj_wF, obj_wG, obj_wR, arr_sV, arr_wF, arr_wG, arr_wR, arL_sV, arL_wF, arL_wG, arL_wR, arR_sV, arR_wF, arR_wG, arR_wR, fI_sV (c := 0), fI_sV (c := 1), fI_sV (c := 2), fI_sV (c := 4), fI_sV (c := 5), fI_sV (c := 7), fI_sV (c := 8), fI_sV (c := 9), fI_sV (c := 10), fI_sV (c := 11), fI_sV (c := 12), fI_sV (c := 6), fL_sV (c := 9), fL_sV (c := 12), fI_sV_k, fL_sV_k, fV_sV_k, fI_wF, fI_wG, fI_wR, fL_wF, fL_wG, fL_wR, fV_wF, fV_wG, fV_wR, aF_sV, aG_sV, aR_sV, aF_wG, aF_wR, aG_wF, aG_wR, aR_wF, aR_wG, gM g2, fI_sV_ne]; exact m2
          · simp (decide := true) only [jgI_ob, jgf_ob, jgL_ob, jpI_ob, jpL_ob, jpR_ob, jpN_ob, jrc_ob, obj_sV, obj_wF, obj_wG, obj_wR, arr_sV, arr_wF, arr_wG, arr_wR, arL_sV, arL_wF, arL_wG, arL_wR, arR_sV, arR_wF, arR_wG, arR_wR, fI_sV (c := 0), fI_sV (c := 1), fI_sV (c := 2), fI_sV (c := 4), fI_sV (c := 5), fI_sV (c := 7), fI_sV (c := 8), fI_sV (c := 9), fI_sV (c := 10), fI_sV (c := 11), fI_sV (c := 12), fI_sV (c := 6), fL_sV (c := 9), fL_sV (c := 12), fI_sV_k, fL_sV_k, fV_sV_k, fI_wF, fI_wG, fI_wR, fL_wF, fL_wG, fL_wR, fV_wF, fV_wG, fV_wR, aF_sV, aG_sV, aR_sV, aF_wG, aF_wR, aG_wF, aG_wR, aR_wF, aR_wG, gM g2, fI_sV_ne]; exact m3
        have NO : ∀ (q : Int × Int × Int × List Nat) (o4 o5 : Option Value) (c z : Nat), a = some q → upB a (TT U P O any n L) L = a → jex X (d + 2) 243 [.ref 81] h2 (fun r h => jrI r fun x => jB_X12_ordered_57 X (d + 2) Q 81 (bi any) (bi a.isSome) x o4 o5 h c z) := by
          intro q o4 o5 c z ea e
          refine NEXT h2 a o4 o5 c z k2' tr2 ?_ (eo.trans e).symm
          exact MBo_eq ac (frI k2 (by decide) (by decide)) (frI k2 (by decide) (by decide)) (frI k2 (by decide) (by decide)) (frF k2 (by decide))
        simp (decide := true) only [jgI_ob, jgf_ob, jgL_ob, jpI_ob, jpL_ob, jpR_ob, jpN_ob, jrc_ob, obj_sV, obj_wF, obj_wG, obj_wR, arr_sV, arr_wF, arr_wG, arr_wR, arL_sV, arL_wF, arL_wG, arL_wR, arR_sV, arR_wF, arR_wG, arR_wR, fI_sV (c := 0), fI_sV (c := 1), fI_sV (c := 2), fI_sV (c := 4), fI_sV (c := 5), fI_sV (c := 7), fI_sV (c := 8), fI_sV (c := 9), fI_sV (c := 10), fI_sV (c := 11), fI_sV (c := 12), fI_sV (c := 6), fL_sV (c := 9), fL_sV (c := 12), fI_sV_k, fL_sV_k, fV_sV_k, fI_wF, fI_wG, fI_wR, fL_wF, fL_wG, fL_wR, fV_wF, fV_wG, fV_wR, aF_sV, aG_sV, aR_sV, aF_wG, aF_wR, aG_wF, aG_wR, aR_wF, aR_wG, gM g2, fI_sV_ne, jif_T, jif_F]
        cases ea : a with
        | none =>
          rw [ea] at YES
          exact jif_t rfl (YES _ _ _ _ (by unfold upB; rfl))
        | some q =>
          rw [ea] at YES NO ac
          have ac2 : MBo h2 n (some q) := MBo_eq ac (frI k2 (by decide) (by decide)) (frI k2 (by decide) (by decide)) (frI k2 (by decide) (by decide)) (frF k2 (by decide))
          obtain ⟨c1, c2, c3, c4, c5⟩ := ac2
          refine jif_n (show ¬ bi true = 0 by decide) ?_
          rw [ti_lt, ti_eq, ti_lt, m1, m2, c1, c2]
          refine ⟨fun w => YES _ _ _ _ (by unfold upB; dsimp only; rw [if_pos (Or.inl w)]), fun w => ⟨fun w2 => ⟨fun w3 => YES _ _ _ _ (by unfold upB; dsimp only; rw [if_pos (Or.inr ⟨w2, w3⟩)]), fun w3 => NO q _ _ _ _ rfl (by unfold upB; dsimp only; rw [if_neg (by omega)])⟩, fun w2 => NO q _ _ _ _ rfl (by unfold upB; dsimp only; rw [if_neg (by omega)])⟩⟩
      refine jT_X12_ordered_57 (jif_n (by decide) ?_)
      cases ea : any with
      | false =>
        rw [ea] at S79
        exact jif_t rfl (S79 _ _ _ _ _ (Or.inl rfl))
      | true =>
        rw [ea] at S79 NEXT
        refine jif_n (show ¬ bi true = 0 by decide) ?_
        have d7 := (fd' (gt L 0) A.2.2).2.2.2.2.2.2
        have ivk : vp_in (nI (gt L 0)) 7 := by rw [vp_inI, nI_toInt (by omega)]; have := A.2.2; omega
        have ek : (nI (gt L 0)).toInt = gt L 0 := nI_toInt (by have := A.2.2; omega)
        have iv0 : vp_in (0 : Int32) 7 := by rw [vp_inI]; decide
        simp (decide := true) only [jgI_ob, jgf_ob, jgL_ob, jpI_ob, jpL_ob, jpR_ob, jpN_ob, jrc_ob, obj_sV, obj_wF, obj_wG, obj_wR, arr_sV, arr_wF, arr_wG, arr_wR, arL_sV, arL_wF, arL_wG, arL_wR, arR_sV, arR_wF, arR_wG, arR_wR, fI_sV (c := 0), fI_sV (c := 1), fI_sV (c := 2), fI_sV (c := 4), fI_sV (c := 5), fI_sV (c := 7), fI_sV (c := 8), fI_sV (c := 9), fI_sV (c := 10), fI_sV (c := 11), fI_sV (c := 12), fI_sV (c := 6), fL_sV (c := 9), fL_sV (c := 12), fI_sV_k, fL_sV_k, fV_sV_k, fI_wF, fI_wG, fI_wR, fL_wF, fL_wG, fL_wR, fV_wF, fV_wG, fV_wR, aF_sV, aG_sV, aR_sV, aF_wG, aF_wR, aG_wF, aG_wR, aR_wF, aR_wG, kC, kM, gM g', gN g', iv0, show (0 : Int32).toNatClampNeg = 0 from rfl, A.1, ti_clamp, ek, Int.toNat_natCast, ivk, true_and, d7]
        cases eo : O (gt L 0) with
        | false => exact jif_t rfl (S79 _ _ _ _ _ (Or.inr eo))
        | true =>
          refine jif_n (by decide) (NEXT h' a _ _ _ _ fr_rfl tr ac ?_)
          unfold one
          rw [if_neg (fun w => by rcases w with w | w; cases w; rw [eo] at w; cases w)]
  have W13 : ∀ (j i : Nat) (h' : JH) (b : Bool) (a2 : Int32) (o3 o4 o5 : Option Value) (c z : Nat), j + i = n → a2.toInt = i → AN i O b → fr [116] [] h h' → (∀ k, k < i → aF h' 116 k = nI k) → jB_X12_ordered_13 X (d + 2) Q 81 (bi b) a2 o3 o4 o5 h' c z := by
    intro j
    induction j with
    | zero =>
      intro i h' b a2 o3 o4 o5 c z hj ha an2 k he
      have g' := G_fr g rfl k
      have hn' : (fI h' 81 58).toInt = n := by rw [frI k (by decide) (by decide)]; exact hn
      have ei : i = n := by omega
      subst ei
      have eb : b = any := by
        cases e1 : b with
        | true =>
          obtain ⟨f, hf, hg⟩ := an2.1 e1
          cases e2 : any with
          | true => rfl
          | false => have := an.2 e2 f hf; rw [hg] at this; cases this
        | false =>
          cases e2 : any with
          | false => rfl
          | true =>
            obtain ⟨f, hf, hg⟩ := an.1 e2
            have := an2.2 e1 f hf
            rw [hg] at this
            cases this
      rw [eb]
      refine jT_X12_ordered_13 ?_
      rw [jgI_ob (c := 12) (by simp only [gM g']) rfl]
      refine jif_n (by rw [ti_lt]; omega) ?_
      refine W57 5040 h' (List.range i) none _ _ _ _ (ends_n h1 h7) (fr_mono M116 (fun q c => by cases c) k) ?_ (OK_range h1) trivial rfl
      intro q hq
      rw [List.length_range] at hq
      rw [gt_range hq]
      exact he q hq
    | succ j ih =>
      intro i h' b a2 o3 o4 o5 c z hj ha an2 k he
      have g' := G_fr g rfl k
      have hn' : (fI h' 81 58).toInt = n := by rw [frI k (by decide) (by decide)]; exact hn
      have iv : vp_in a2 7 := by rw [vp_inI]; omega
      have ea : a2 = nI i := by rw [← Int32.toInt_inj, nI_toInt (by omega)]; exact ha
      have f115 : aF h' 115 = aF h 115 := frF k (by decide)
      have d7 := (fd i (by omega)).2.2.2.2.2.2
      have NX : ∀ (b' : Bool) (c z : Nat), AN (i + 1) O b' → jB_X12_ordered_13 X (d + 2) Q 81 (bi b') (a2 + 1) o3 o4 o5 (wF h' 116 (upd (aF h' 116) i a2)) c z := by
        intro b' c z an3
        refine ih (i + 1) _ _ _ _ _ _ _ _ (by omega) (by simp only [Int32.toInt_add, Int32.toInt_sub, Int32.toInt_mul, Int32.toInt_neg, Int.bmod_def, tl]; omega) an3 (fr_wF (by decide) k) (fun q hq => ?_)
        simp (decide := true) only [jgI_ob, jgf_ob, jgL_ob, jpI_ob, jpL_ob, jpR_ob, jpN_ob, jrc_ob, obj_sV, obj_wF, obj_wG, obj_wR, arr_sV, arr_wF, arr_wG, arr_wR, arL_sV, arL_wF, arL_wG, arL_wR, arR_sV, arR_wF, arR_wG, arR_wR, fI_sV (c := 0), fI_sV (c := 1), fI_sV (c := 2), fI_sV (c := 4), fI_sV (c := 5), fI_sV (c := 7), fI_sV (c := 8), fI_sV (c := 9), fI_sV (c := 10), fI_sV (c := 11), fI_sV (c := 12), fI_sV (c := 6), fL_sV (c := 9), fL_sV (c := 12), fI_sV_k, fL_sV_k, fV_sV_k, fI_wF, fI_wG, fI_wR, fL_wF, fL_wG, fL_wR, fV_wF, fV_wG, fV_wR, aF_sV, aG_sV, aR_sV, aF_wG, aF_wR, aG_wF, aG_wR, aR_wF, aR_wG, kC, kM, gM g']
        by_cases cq : q = i
        · rw [cq, upd_s]; exact ea
        · rw [upd_n cq]; exact he q (by omega)
      refine jT_X12_ordered_13 ?_
      rw [jgI_ob (c := 12) (by simp only [gM g']) rfl]
      refine jif_t (by rw [ti_lt]; omega) ?_
      simp (decide := true) only [jgI_ob, jgf_ob, jgL_ob, jpI_ob, jpL_ob, jpR_ob, jpN_ob, jrc_ob, obj_sV, obj_wF, obj_wG, obj_wR, arr_sV, arr_wF, arr_wG, arr_wR, arL_sV, arL_wF, arL_wG, arL_wR, arR_sV, arR_wF, arR_wG, arR_wR, fI_sV (c := 0), fI_sV (c := 1), fI_sV (c := 2), fI_sV (c := 4), fI_sV (c := 5), fI_sV (c := 7), fI_sV (c := 8), fI_sV (c := 9), fI_sV (c := 10), fI_sV (c := 11), fI_sV (c := 12), fI_sV (c := 6), fL_sV (c := 9), fL_sV (c := 12), fI_sV_k, fL_sV_k, fV_sV_k, fI_wF, fI_wG, fI_wR, fL_wF, fL_wG, fL_wR, fV_wF, fV_wG, fV_wR, aF_sV, aG_sV, aR_sV, aF_wG, aF_wR, aG_wF, aG_wR, aR_wF, aR_wG, kC, kM, gM g', gN g', iv, true_and, ti_clamp, ha, Int.toNat_natCast, aF_wF_ne, f115, d7]
      cases eb : b with
      | true =>
        refine jif_n (by decide) (NX true _ _ ⟨fun _ => ?_, fun w => (by cases w)⟩)
        obtain ⟨f, hf, hg⟩ := an2.1 eb
        exact ⟨f, by omega, hg⟩
      | false =>
        refine jif_t rfl ?_
        cases eo : O i with
        | false => exact jif_t rfl (NX true _ _ ⟨fun _ => ⟨i, by omega, eo⟩, fun w => (by cases w)⟩)
        | true =>
          refine jif_n (by decide) (NX false _ _ ⟨fun w => (by cases w), fun _ f hf => ?_⟩)
          by_cases cf : f = i
          · rw [cf]; exact eo
          · exact an2.2 eb f (by omega)
  rw [jE_X12_ordered]
  refine jT_X12_ordered_0 ?_
  rw [jgI_ob (c := 12) (by simp only [gM g]) rfl]
  refine jif_n (by rw [ti_eq, hn, tl.1]; omega) ?_
  exact W13 n 0 h false _ _ _ _ _ _ (by omega) rfl ⟨fun w => (by cases w), fun _ f hf => by omega⟩ fr_rfl (fun q hq => by omega)
end ORD
