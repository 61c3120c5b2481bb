/-! THE BEST ORDER: the model's count for one order -/
def FTi : List (Nat × Nat) := [(81, 67), (81, 68), (81, 69)]
def MS (h : JH) (x : S7) : Prop := (fI h 81 67).toInt = zsl x ∧ (fI h 81 68).toInt = zhm x ∧ (fI h 81 69).toInt = zpl x
def tsm (y : S7) (p plc : Int) : S7 := if 4096 < zs y + p then s7 (zs y - 4096) (zs y - 4096 + p) 0 0 (zsl y + 1) (zhm y + 1) (zpl y + 1 + plc) else if zs y + p < 0 then s7 (zs y + 4096) (zs y + 4096 + p) 0 0 (zsl y + 1) (zhm y + 1) (zpl y - 1 + plc) else s7 (zs y) (zs y + p) 0 0 (zsl y) (zhm y + 1) (zpl y + plc)
section TRI
variable {X : JX} {d : Nat} {Q : JQ} {h h1 : JH} {n : Nat} {L : List Nat} {U P : Nat → Int} {O : Nat → Bool} {any : Bool} {a : Acc}
theorem MS_s7 {s t u v a b c : Int} (e1 : (fI h 81 67).toInt = a) (e2 : (fI h 81 68).toInt = b) (e3 : (fI h 81 69).toInt = c) : MS h (s7 s t u v a b c) := ⟨e1, e2, e3⟩
theorem mu_at (g : G h) (fd : FD h 113 114 115 n U P O) {k : Nat} (hk : k < n) : (aF h 88 (aF h 113 k).toInt.toNat).toInt = U k ∧ vp_in (aF h 113 k) 1001 := by
  obtain ⟨f1, f2, f3, f4, f5, f6, f7⟩ := fd k hk
  refine ⟨?_, by rw [vp_inI]; omega⟩
  rw [g.2.2.2.2.2.2.1, muF_v (by omega) (by omega), f3, show (aF h 113 k).toInt.toNat - 100 = ((aF h 113 k).toInt - 100).toNat by omega]
theorem MD_rg (fd : FD h 113 114 115 n U P O) {k : Nat} (hk : k < n) : 0 ≤ U k ∧ U k ≤ 4095 ∧ -99 ≤ P k ∧ P k ≤ 99 := by
  obtain ⟨f1, f2, f3, f4, f5, f6, f7⟩ := fd k hk
  have := lgU_lt ((aF h 113 k).toInt - 100).toNat
  omega
theorem c_tries (g : G h) (h1 : 1 ≤ n) (h7 : n ≤ 7) (hn : (fI h 81 58).toInt = n) (tr : TR h 116 L) (ok : OK n L) (fd : FD h 113 114 115 n U P O) (ha : any = !(O (gt L 0))) (H : ∀ h', fr [] FTi h h' → MS h' (TT U P O any n L) → Q none h') : jex X (d + 1) 242 [.ref 81] h Q := by
  have W : ∀ (j i : Nat) (h' : JH) (x : S7) (a1 a2 a4 : Int32) (o3 o5 o6 : Option Value) (c z : Nat), j + i = n → a4.toInt = i → a1.toInt = zs x → a2.toInt = zh x → MS h' x → BT i x → fr [] FTi h h' → tgo U P O L j i x = TT U P O any n L → jB_X12_tries_77 X d Q 81 a1 a2 o3 a4 o5 o6 h' c z := by
    intro j
    induction j with
    | zero =>
      intro i h' x a1 a2 a4 o3 o5 o6 c z hj h4 e1 e2 ms bt k ht
      have g' := G_fr g rfl k
      have f58 : fI h' 81 58 = fI h 81 58 := frI k (by decide) (by decide)
      refine jT_X12_tries_77 ?_
      rw [jgI_ob (c := 12) (by simp only [gM g']) rfl, f58]
      refine jif_n (by rw [ti_lt]; omega) (H h' k ?_)
      rw [← ht]
      exact ms
    | succ j ih =>
      intro i h' x a1 a2 a4 o3 o5 o6 c z hj h4 e1 e2 ms bt k ht
      have g' := G_fr g rfl k
      have f58 : fI h' 81 58 = fI h 81 58 := frI k (by decide) (by decide)
      have f116 : aF h' 116 = aF h 116 := frF k (by decide)
      have f113 : aF h' 113 = aF h 113 := frF k (by decide)
      have f114 : aF h' 114 = aF h 114 := frF k (by decide)
      have f115 : aF h' 115 = aF h 115 := frF k (by decide)
      have f88 : aF h' 88 = aF h 88 := frF k (by decide)
      have A := TR_at tr ok (show i < n by omega) h7
      obtain ⟨d1, d2, d3, d4, d5, d6, d7⟩ := fd (gt L i) A.2.2
      have rg := MD_rg fd A.2.2
      have mu := mu_at g fd A.2.2
      have h4' : (a4 + 1).toInt = ((i + 1 : Nat) : Int) := (by simp only [Int32.toInt_add, Int32.toInt_sub, Int32.toInt_mul, Int32.toInt_neg, Int.bmod_def, tl]; omega)
      have iv4 : vp_in a4 7 := by rw [vp_inI]; omega
      have ivk : vp_in (nI (gt L i)) 7 := by rw [vp_inI, nI_toInt (by omega)]; have := A.2.2; omega
      have ek : (nI (gt L i)).toInt = gt L i := nI_toInt (by have := A.2.2; omega)
      obtain ⟨b1, b2, b3, b4, b5, b6, b7, b8, b9, b10, b11, b12⟩ := id bt
      obtain ⟨m1, m2, m3⟩ := ms
      unfold tgo at ht
      have BT' := BT_tst (o := O (gt L i)) (bh := decide (0 < i) && O (gt L (i - 1))) bt rg.1 rg.2.1 rg.2.2.1 rg.2.2.2
      have S232 : ∀ (h2 : JH) (y : S7) (s1 a6 : Int32) (o2 o3 : Option Value) (c z : Nat), fr [] FTi h h2 → s1.toInt = zs y → a6.toInt = U (gt L i) → MS h2 y → -4096 ≤ zs y → zs y ≤ 4096 → 0 ≤ zsl y → zsl y ≤ 100 → 0 ≤ zhm y → zhm y ≤ 100 → -10000 ≤ zpl y → zpl y ≤ 10000 → tsm y (U (gt L i)) (P (gt L i)) = tst x (U (gt L i)) (P (gt L i)) (O (gt L i)) (decide (0 < i) && O (gt L (i - 1))) → jB_X12_tries_232 X d Q 81 s1 o2 o3 a4 (nI (gt L i)) a6 h2 c z := by
        intro h2 y s1 a6 o2 o3 c z k2 hs h6 ms2 c1 c2 c3 c4 c5 c6 c7 c8 et
        have g2 := G_fr g rfl k2
        obtain ⟨n1, n2, n3⟩ := ms2
        have q114 : aF h2 114 = aF h 114 := frF k2 (by decide)
        have e16 : (s1 + a6).toInt = zs y + U (gt L i) := (by simp only [Int32.toInt_add, Int32.toInt_sub, Int32.toInt_mul, Int32.toInt_neg, Int.bmod_def, tl]; omega)
        refine jT_X12_tries_232 ?_
        simp (decide := true) only [jgI_ob, jgf_ob, jgL_ob, jpI_ob, jpL_ob, jpR_ob, jpN_ob, jrc_ob, obj_sV, obj_wF, obj_wG, obj_wR, arr_sV, arr_wF, arr_wG, arr_wR, arL_sV, arL_wF, arL_wG, arL_wR, arR_sV, arR_wF, arR_wG, arR_wR, fI_sV (c := 0), fI_sV (c := 1), fI_sV (c := 2), fI_sV (c := 4), fI_sV (c := 5), fI_sV (c := 7), fI_sV (c := 8), fI_sV (c := 9), fI_sV (c := 10), fI_sV (c := 11), fI_sV (c := 12), fI_sV (c := 6), fL_sV (c := 9), fL_sV (c := 12), fI_sV_k, fL_sV_k, fV_sV_k, fI_wF, fI_wG, fI_wR, fL_wF, fL_wG, fL_wR, fV_wF, fV_wG, fV_wR, aF_sV, aG_sV, aR_sV, aF_wG, aF_wR, aG_wF, aG_wR, aR_wF, aR_wG, kC, kM, gM g2, gN g2, ti_lt, tl, fV_sV_ne, fI_sV_ne, ti_clamp, ek, Int.toNat_natCast, ivk, true_and, q114, e16]
        have hp : (aF h 114 (gt L i)).toInt = P (gt L i) := d4
        refine ⟨fun q1 => ?_, fun q1 => ⟨fun q2 => ?_, fun q2 => ?_⟩⟩
        · have ey : tst x (U (gt L i)) (P (gt L i)) (O (gt L i)) (decide (0 < i) && O (gt L (i - 1))) = s7 (zs y - 4096) (zs y - 4096 + U (gt L i)) 0 0 (zsl y + 1) (zhm y + 1) (zpl y + 1 + P (gt L i)) := by rw [← et]; unfold tsm; rw [if_pos q1]
          rw [ey] at BT' ht
          refine ih (i + 1) _ _ _ _ _ _ _ _ _ _ (by omega) h4' ?_ ?_ (MS_s7 ?_ ?_ ?_) BT' ?_ ht
          · show _ = zs y - 4096; exact (by simp only [Int32.toInt_add, Int32.toInt_sub, Int32.toInt_mul, Int32.toInt_neg, Int.bmod_def, tl]; omega)
          · show _ = zs y - 4096 + U (gt L i); exact (by simp only [Int32.toInt_add, Int32.toInt_sub, Int32.toInt_mul, Int32.toInt_neg, Int.bmod_def, tl]; omega)
          · simp (decide := true) only [jgI_ob, jgf_ob, jgL_ob, jpI_ob, jpL_ob, jpR_ob, jpN_ob, jrc_ob, obj_sV, obj_wF, obj_wG, obj_wR, arr_sV, arr_wF, arr_wG, arr_wR, arL_sV, arL_wF, arL_wG, arL_wR, arR_sV, arR_wF, arR_wG, arR_wR, fI_sV (c := 0), fI_sV (c := 1), fI_sV (c := 2), fI_sV (c := 4), fI_sV (c := 5), fI_sV (c := 7), fI_sV (c := 8), fI_sV (c := 9), fI_sV (c := 10), fI_sV (c := 11), fI_sV (c := 12), fI_sV (c := 6), fL_sV (c := 9), fL_sV (c := 12), fI_sV_k, fL_sV_k, fV_sV_k, fI_wF, fI_wG, fI_wR, fL_wF, fL_wG, fL_wR, fV_wF, fV_wG, fV_wR, aF_sV, aG_sV, aR_sV, aF_wG, aF_wR, aG_wF, aG_wR, aR_wF, aR_wG, gM g2, fI_sV_ne]; exact (by simp only [Int32.toInt_add, Int32.toInt_sub, Int32.toInt_mul, Int32.toInt_neg, Int.bmod_def, tl]; omega)
          · simp (decide := true) only [jgI_ob, jgf_ob, jgL_ob, jpI_ob, jpL_ob, jpR_ob, jpN_ob, jrc_ob, obj_sV, obj_wF, obj_wG, obj_wR, arr_sV, arr_wF, arr_wG, arr_wR, arL_sV, arL_wF, arL_wG, arL_wR, arR_sV, arR_wF, arR_wG, arR_wR, fI_sV (c := 0), fI_sV (c := 1), fI_sV (c := 2), fI_sV (c := 4), fI_sV (c := 5), fI_sV (c := 7), fI_sV (c := 8), fI_sV (c := 9), fI_sV (c := 10), fI_sV (c := 11), fI_sV (c := 12), fI_sV (c := 6), fL_sV (c := 9), fL_sV (c := 12), fI_sV_k, fL_sV_k, fV_sV_k, fI_wF, fI_wG, fI_wR, fL_wF, fL_wG, fL_wR, fV_wF, fV_wG, fV_wR, aF_sV, aG_sV, aR_sV, aF_wG, aF_wR, aG_wF, aG_wR, aR_wF, aR_wG, gM g2, fI_sV_ne]; exact (by simp only [Int32.toInt_add, Int32.toInt_sub, Int32.toInt_mul, Int32.toInt_neg, Int.bmod_def, tl]; omega)
          · simp (decide := true) only [jgI_ob, jgf_ob, jgL_ob, jpI_ob, jpL_ob, jpR_ob, jpN_ob, jrc_ob, obj_sV, obj_wF, obj_wG, obj_wR, arr_sV, arr_wF, arr_wG, arr_wR, arL_sV, arL_wF, arL_wG, arL_wR, arR_sV, arR_wF, arR_wG, arR_wR, fI_sV (c := 0), fI_sV (c := 1), fI_sV (c := 2), fI_sV (c := 4), fI_sV (c := 5), fI_sV (c := 7), fI_sV (c := 8), fI_sV (c := 9), fI_sV (c := 10), fI_sV (c := 11), fI_sV (c := 12), fI_sV (c := 6), fL_sV (c := 9), fL_sV (c := 12), fI_sV_k, fL_sV_k, fV_sV_k, fI_wF, fI_wG, fI_wR, fL_wF, fL_wG, fL_wR, fV_wF, fV_wG, fV_wR, aF_sV, aG_sV, aR_sV, aF_wG, aF_wR, aG_wF, aG_wR, aR_wF, aR_wG, gM g2, fI_sV_ne]; exact (by simp only [Int32.toInt_add, Int32.toInt_sub, Int32.toInt_mul, Int32.toInt_neg, Int.bmod_def, tl]; omega)
          · exact fr_sV (by decide) (fr_sV (by decide) (fr_sV (by decide) (fr_sV (by decide) k2)))
        · have ey : tst x (U (gt L i)) (P (gt L i)) (O (gt L i)) (decide (0 < i) && O (gt L (i - 1))) = s7 (zs y + 4096) (zs y + 4096 + U (gt L i)) 0 0 (zsl y + 1) (zhm y + 1) (zpl y - 1 + P (gt L i)) := by rw [← et]; unfold tsm; rw [if_neg q1, if_pos q2]
          rw [ey] at BT' ht
          refine ih (i + 1) _ _ _ _ _ _ _ _ _ _ (by omega) h4' ?_ ?_ (MS_s7 ?_ ?_ ?_) BT' ?_ ht
          · show _ = zs y + 4096; exact (by simp only [Int32.toInt_add, Int32.toInt_sub, Int32.toInt_mul, Int32.toInt_neg, Int.bmod_def, tl]; omega)
          · show _ = zs y + 4096 + U (gt L i); exact (by simp only [Int32.toInt_add, Int32.toInt_sub, Int32.toInt_mul, Int32.toInt_neg, Int.bmod_def, tl]; omega)
          · simp (decide := true) only [jgI_ob, jgf_ob, jgL_ob, jpI_ob, jpL_ob, jpR_ob, jpN_ob, jrc_ob, obj_sV, obj_wF, obj_wG, obj_wR, arr_sV, arr_wF, arr_wG, arr_wR, arL_sV, arL_wF, arL_wG, arL_wR, arR_sV, arR_wF, arR_wG, arR_wR, fI_sV (c := 0), fI_sV (c := 1), fI_sV (c := 2), fI_sV (c := 4), fI_sV (c := 5), fI_sV (c := 7), fI_sV (c := 8), fI_sV (c := 9), fI_sV (c := 10), fI_sV (c := 11), fI_sV (c := 12), fI_sV (c := 6), fL_sV (c := 9), fL_sV (c := 12), fI_sV_k, fL_sV_k, fV_sV_k, fI_wF, fI_wG, fI_wR, fL_wF, fL_wG, fL_wR, fV_wF, fV_wG, fV_wR, aF_sV, aG_sV, aR_sV, aF_wG, aF_wR, aG_wF, aG_wR, aR_wF, aR_wG, gM g2, fI_sV_ne]; exact (by simp only [Int32.toInt_add, Int32.toInt_sub, Int32.toInt_mul, Int32.toInt_neg, Int.bmod_def, tl]; omega)
          · simp (decide := true) only [jgI_ob, jgf_ob, jgL_ob, jpI_ob, jpL_ob, jpR_ob, jpN_ob, jrc_ob, obj_sV, obj_wF, obj_wG, obj_wR, arr_sV, arr_wF, arr_wG, arr_wR, arL_sV, arL_wF, arL_wG, arL_wR, arR_sV, arR_wF, arR_wG, arR_wR, fI_sV (c := 0), fI_sV (c := 1), fI_sV (c := 2), fI_sV (c := 4), fI_sV (c := 5), fI_sV (c := 7), fI_sV (c := 8), fI_sV (c := 9), fI_sV (c := 10), fI_sV (c := 11), fI_sV (c := 12), fI_sV (c := 6), fL_sV (c := 9), fL_sV (c := 12), fI_sV_k, fL_sV_k, fV_sV_k, fI_wF, fI_wG, fI_wR, fL_wF, fL_wG, fL_wR, fV_wF, fV_wG, fV_wR, aF_sV, aG_sV, aR_sV, aF_wG, aF_wR, aG_wF, aG_wR, aR_wF, aR_wG, gM g2, fI_sV_ne]; exact (by simp only [Int32.toInt_add, Int32.toInt_sub, Int32.toInt_mul, Int32.toInt_neg, Int.bmod_def, tl]; omega)
          · simp (decide := true) only [jgI_ob, jgf_ob, jgL_ob, jpI_ob, jpL_ob, jpR_ob, jpN_ob, jrc_ob, obj_sV, obj_wF, obj_wG, obj_wR, arr_sV, arr_wF, arr_wG, arr_wR, arL_sV, arL_wF, arL_wG, arL_wR, arR_sV, arR_wF, arR_wG, arR_wR, fI_sV (c := 0), fI_sV (c := 1), fI_sV (c := 2), fI_sV (c := 4), fI_sV (c := 5), fI_sV (c := 7), fI_sV (c := 8), fI_sV (c := 9), fI_sV (c := 10), fI_sV (c := 11), fI_sV (c := 12), fI_sV (c := 6), fL_sV (c := 9), fL_sV (c := 12), fI_sV_k, fL_sV_k, fV_sV_k, fI_wF, fI_wG, fI_wR, fL_wF, fL_wG, fL_wR, fV_wF, fV_wG, fV_wR, aF_sV, aG_sV, aR_sV, aF_wG, aF_wR, aG_wF, aG_wR, aR_wF, aR_wG, gM g2, fI_sV_ne]; exact (by simp only [Int32.toInt_add, Int32.toInt_sub, Int32.toInt_mul, Int32.toInt_neg, Int.bmod_def, tl]; omega)
          · exact fr_sV (by decide) (fr_sV (by decide) (fr_sV (by decide) (fr_sV (by decide) k2)))
        · have ey : tst x (U (gt L i)) (P (gt L i)) (O (gt L i)) (decide (0 < i) && O (gt L (i - 1))) = s7 (zs y) (zs y + U (gt L i)) 0 0 (zsl y) (zhm y + 1) (zpl y + P (gt L i)) := by rw [← et]; unfold tsm; rw [if_neg q1, if_neg q2]
          rw [ey] at BT' ht
          refine ih (i + 1) _ _ _ _ _ _ _ _ _ _ (by omega) h4' ?_ ?_ (MS_s7 ?_ ?_ ?_) BT' ?_ ht
          · exact hs
          · exact e16
          · simp (decide := true) only [jgI_ob, jgf_ob, jgL_ob, jpI_ob, jpL_ob, jpR_ob, jpN_ob, jrc_ob, obj_sV, obj_wF, obj_wG, obj_wR, arr_sV, arr_wF, arr_wG, arr_wR, arL_sV, arL_wF, arL_wG, arL_wR, arR_sV, arR_wF, arR_wG, arR_wR, fI_sV (c := 0), fI_sV (c := 1), fI_sV (c := 2), fI_sV (c := 4), fI_sV (c := 5), fI_sV (c := 7), fI_sV (c := 8), fI_sV (c := 9), fI_sV (c := 10), fI_sV (c := 11), fI_sV (c := 12), fI_sV (c := 6), fL_sV (c := 9), fL_sV (c := 12), fI_sV_k, fL_sV_k, fV_sV_k, fI_wF, fI_wG, fI_wR, fL_wF, fL_wG, fL_wR, fV_wF, fV_wG, fV_wR, aF_sV, aG_sV, aR_sV, aF_wG, aF_wR, aG_wF, aG_wR, aR_wF, aR_wG, gM g2, fI_sV_ne]; exact n1
          · simp (decide := true) only [jgI_ob, jgf_ob, jgL_ob, jpI_ob, jpL_ob, jpR_ob, jpN_ob, jrc_ob, obj_sV, obj_wF, obj_wG, obj_wR, arr_sV, arr_wF, arr_wG, arr_wR, arL_sV, arL_wF, arL_wG, arL_wR, arR_sV, arR_wF, arR_wG, arR_wR, fI_sV (c := 0), fI_sV (c := 1), fI_sV (c := 2), fI_sV (c := 4), fI_sV (c := 5), fI_sV (c := 7), fI_sV (c := 8), fI_sV (c := 9), fI_sV (c := 10), fI_sV (c := 11), fI_sV (c := 12), fI_sV (c := 6), fL_sV (c := 9), fL_sV (c := 12), fI_sV_k, fL_sV_k, fV_sV_k, fI_wF, fI_wG, fI_wR, fL_wF, fL_wG, fL_wR, fV_wF, fV_wG, fV_wR, aF_sV, aG_sV, aR_sV, aF_wG, aF_wR, aG_wF, aG_wR, aR_wF, aR_wG, gM g2, fI_sV_ne]; exact (by simp only [Int32.toInt_add, Int32.toInt_sub, Int32.toInt_mul, Int32.toInt_neg, Int.bmod_def, tl]; omega)
          · simp (decide := true) only [jgI_ob, jgf_ob, jgL_ob, jpI_ob, jpL_ob, jpR_ob, jpN_ob, jrc_ob, obj_sV, obj_wF, obj_wG, obj_wR, arr_sV, arr_wF, arr_wG, arr_wR, arL_sV, arL_wF, arL_wG, arL_wR, arR_sV, arR_wF, arR_wG, arR_wR, fI_sV (c := 0), fI_sV (c := 1), fI_sV (c := 2), fI_sV (c := 4), fI_sV (c := 5), fI_sV (c := 7), fI_sV (c := 8), fI_sV (c := 9), fI_sV (c := 10), fI_sV (c := 11), fI_sV (c := 12), fI_sV (c := 6), fL_sV (c := 9), fL_sV (c := 12), fI_sV_k, fL_sV_k, fV_sV_k, fI_wF, fI_wG, fI_wR, fL_wF, fL_wG, fL_wR, fV_wF, fV_wG, fV_wR, aF_sV, aG_sV, aR_sV, aF_wG, aF_wR, aG_wF, aG_wR, aR_wF, aR_wG, gM g2, fI_sV_ne]; exact (by simp only [Int32.toInt_add, Int32.toInt_sub, Int32.toInt_mul, Int32.toInt_neg, Int.bmod_def, tl]; omega)
          · exact fr_sV (by decide) (fr_sV (by decide) k2)
      refine jT_X12_tries_77 ?_
      rw [jgI_ob (c := 12) (by simp only [gM g']) rfl, f58]
      refine jif_t (by rw [ti_lt]; omega) ?_
      rw [jgf_ob (c := 12) (by simp only [gM g']) rfl, show fV h' 81 62 = .ref 116 by simp only [gN g'], jaI_ar (n := 7) (by simp only [gM g']), f116, ti_clamp, h4, Int.toNat_natCast, A.1]
      refine ⟨iv4, ?_⟩
      have hp : (aF h 114 (gt L i)).toInt = P (gt L i) := d4
      simp (decide := true) only [jgI_ob, jgf_ob, jgL_ob, jpI_ob, jpL_ob, jpR_ob, jpN_ob, jrc_ob, obj_sV, obj_wF, obj_wG, obj_wR, arr_sV, arr_wF, arr_wG, arr_wR, arL_sV, arL_wF, arL_wG, arL_wR, arR_sV, arR_wF, arR_wG, arR_wR, fI_sV (c := 0), fI_sV (c := 1), fI_sV (c := 2), fI_sV (c := 4), fI_sV (c := 5), fI_sV (c := 7), fI_sV (c := 8), fI_sV (c := 9), fI_sV (c := 10), fI_sV (c := 11), fI_sV (c := 12), fI_sV (c := 6), fL_sV (c := 9), fL_sV (c := 12), fI_sV_k, fL_sV_k, fV_sV_k, fI_wF, fI_wG, fI_wR, fL_wF, fL_wG, fL_wR, fV_wF, fV_wG, fV_wR, aF_sV, aG_sV, aR_sV, aF_wG, aF_wR, aG_wF, aG_wR, aR_wF, aR_wG, kC, kM, gM g', gN g', ti_lt, tl, fV_sV_ne, fI_sV_ne, ti_clamp, ek, Int.toNat_natCast, ivk, true_and, f116, f113, f114, f115, f88, mu.2, d7, h4, e1]
      cases eo : O (gt L i) with
      | false =>
        rw [eo] at S232
        refine jif_t rfl ⟨fun c0 => ?_, fun c0 => ?_⟩
        · have em : (a4 - 1).toInt = ((i - 1 : Nat) : Int) := (by simp only [Int32.toInt_add, Int32.toInt_sub, Int32.toInt_mul, Int32.toInt_neg, Int.bmod_def, tl]; omega)
          have B := TR_at tr ok (show i - 1 < n by omega) h7
          have d7' := (fd (gt L (i - 1)) B.2.2).2.2.2.2.2.2
          have ivb : vp_in (nI (gt L (i - 1))) 7 := by rw [vp_inI, nI_toInt (by omega)]; have := B.2.2; omega
          have eb : (nI (gt L (i - 1))).toInt = gt L (i - 1) := nI_toInt (by have := B.2.2; omega)
          have ivm : vp_in (a4 - 1) 7 := by rw [vp_inI]; omega
          simp (decide := true) only [em, Int.toNat_natCast, B.1, eb, ivb, ivm, d7', true_and]
          have ed : decide (0 < i) = true := decide_eq_true (by omega)
          rw [ed, Bool.true_and] at S232
          cases eb2 : O (gt L (i - 1)) with
          | false =>
            rw [eb2] at S232
            refine jif_t rfl (S232 _ (s7 (zh x) (zh x) 0 0 (zsl x + 1) (zhm x) (zpl x)) _ _ _ _ _ _ (fr_sV (by decide) k) e2 mu.1 (MS_s7 ?_ ?_ ?_) (by show -4096 ≤ zh x; omega) (by show zh x ≤ 4096; omega) (by show 0 ≤ zsl x + 1; omega) (by show zsl x + 1 ≤ 100; omega) b9 (by show zhm x ≤ 100; omega) (by show -10000 ≤ zpl x; omega) (by show zpl x ≤ 10000; omega) rfl)
            · simp (decide := true) only [jgI_ob, jgf_ob, jgL_ob, jpI_ob, jpL_ob, jpR_ob, jpN_ob, jrc_ob, obj_sV, obj_wF, obj_wG, obj_wR, arr_sV, arr_wF, arr_wG, arr_wR, arL_sV, arL_wF, arL_wG, arL_wR, arR_sV, arR_wF, arR_wG, arR_wR, fI_sV (c := 0), fI_sV (c := 1), fI_sV (c := 2), fI_sV (c := 4), fI_sV (c := 5), fI_sV (c := 7), fI_sV (c := 8), fI_sV (c := 9), fI_sV (c := 10), fI_sV (c := 11), fI_sV (c := 12), fI_sV (c := 6), fL_sV (c := 9), fL_sV (c := 12), fI_sV_k, fL_sV_k, fV_sV_k, fI_wF, fI_wG, fI_wR, fL_wF, fL_wG, fL_wR, fV_wF, fV_wG, fV_wR, aF_sV, aG_sV, aR_sV, aF_wG, aF_wR, aG_wF, aG_wR, aR_wF, aR_wG, gM g', fI_sV_ne]; exact (by simp only [Int32.toInt_add, Int32.toInt_sub, Int32.toInt_mul, Int32.toInt_neg, Int.bmod_def, tl]; omega)
            · simp (decide := true) only [jgI_ob, jgf_ob, jgL_ob, jpI_ob, jpL_ob, jpR_ob, jpN_ob, jrc_ob, obj_sV, obj_wF, obj_wG, obj_wR, arr_sV, arr_wF, arr_wG, arr_wR, arL_sV, arL_wF, arL_wG, arL_wR, arR_sV, arR_wF, arR_wG, arR_wR, fI_sV (c := 0), fI_sV (c := 1), fI_sV (c := 2), fI_sV (c := 4), fI_sV (c := 5), fI_sV (c := 7), fI_sV (c := 8), fI_sV (c := 9), fI_sV (c := 10), fI_sV (c := 11), fI_sV (c := 12), fI_sV (c := 6), fL_sV (c := 9), fL_sV (c := 12), fI_sV_k, fL_sV_k, fV_sV_k, fI_wF, fI_wG, fI_wR, fL_wF, fL_wG, fL_wR, fV_wF, fV_wG, fV_wR, aF_sV, aG_sV, aR_sV, aF_wG, aF_wR, aG_wF, aG_wR, aR_wF, aR_wG, gM g', fI_sV_ne]; exact m2
            · simp (decide := true) only [jgI_ob, jgf_ob, jgL_ob, jpI_ob, jpL_ob, jpR_ob, jpN_ob, jrc_ob, obj_sV, obj_wF, obj_wG, obj_wR, arr_sV, arr_wF, arr_wG, arr_wR, arL_sV, arL_wF, arL_wG, arL_wR, arR_sV, arR_wF, arR_wG, arR_wR, fI_sV (c := 0), fI_sV (c := 1), fI_sV (c := 2), fI_sV (c := 4), fI_sV (c := 5), fI_sV (c := 7), fI_sV (c := 8), fI_sV (c := 9), fI_sV (c := 10), fI_sV (c := 11), fI_sV (c := 12), fI_sV (c := 6), fL_sV (c := 9), fL_sV (c := 12), fI_sV_k, fL_sV_k, fV_sV_k, fI_wF, fI_wG, fI_wR, fL_wF, fL_wG, fL_wR, fV_wF, fV_wG, fV_wR, aF_sV, aG_sV, aR_sV, aF_wG, aF_wR, aG_wF, aG_wR, aR_wF, aR_wG, gM g', fI_sV_ne]; exact m3
          | true =>
            rw [eb2] at S232
            refine jif_n (by decide) ⟨fun c1 => ?_, fun c1 => ?_⟩
            · refine S232 _ (s7 (zs x) (zh x) 0 0 (zsl x) (zhm x) (zpl x + 1)) _ _ _ _ _ _ (fr_sV (by decide) k) e1 mu.1 (MS_s7 ?_ ?_ ?_) (by show -4096 ≤ zs x; omega) (by show zs x ≤ 4096; omega) b7 (by show zsl x ≤ 100; omega) b9 (by show zhm x ≤ 100; omega) (by show -10000 ≤ zpl x + 1; omega) (by show zpl x + 1 ≤ 10000; omega) ?_
              · simp (decide := true) only [jgI_ob, jgf_ob, jgL_ob, jpI_ob, jpL_ob, jpR_ob, jpN_ob, jrc_ob, obj_sV, obj_wF, obj_wG, obj_wR, arr_sV, arr_wF, arr_wG, arr_wR, arL_sV, arL_wF, arL_wG, arL_wR, arR_sV, arR_wF, arR_wG, arR_wR, fI_sV (c := 0), fI_sV (c := 1), fI_sV (c := 2), fI_sV (c := 4), fI_sV (c := 5), fI_sV (c := 7), fI_sV (c := 8), fI_sV (c := 9), fI_sV (c := 10), fI_sV (c := 11), fI_sV (c := 12), fI_sV (c := 6), fL_sV (c := 9), fL_sV (c := 12), fI_sV_k, fL_sV_k, fV_sV_k, fI_wF, fI_wG, fI_wR, fL_wF, fL_wG, fL_wR, fV_wF, fV_wG, fV_wR, aF_sV, aG_sV, aR_sV, aF_wG, aF_wR, aG_wF, aG_wR, aR_wF, aR_wG, gM g', fI_sV_ne]; exact m1
              · simp (decide := true) only [jgI_ob, jgf_ob, jgL_ob, jpI_ob, jpL_ob, jpR_ob, jpN_ob, jrc_ob, obj_sV, obj_wF, obj_wG, obj_wR, arr_sV, arr_wF, arr_wG, arr_wR, arL_sV, arL_wF, arL_wG, arL_wR, arR_sV, arR_wF, arR_wG, arR_wR, fI_sV (c := 0), fI_sV (c := 1), fI_sV (c := 2), fI_sV (c := 4), fI_sV (c := 5), fI_sV (c := 7), fI_sV (c := 8), fI_sV (c := 9), fI_sV (c := 10), fI_sV (c := 11), fI_sV (c := 12), fI_sV (c := 6), fL_sV (c := 9), fL_sV (c := 12), fI_sV_k, fL_sV_k, fV_sV_k, fI_wF, fI_wG, fI_wR, fL_wF, fL_wG, fL_wR, fV_wF, fV_wG, fV_wR, aF_sV, aG_sV, aR_sV, aF_wG, aF_wR, aG_wF, aG_wR, aR_wF, aR_wG, gM g', fI_sV_ne]; exact m2
              · simp (decide := true) only [jgI_ob, jgf_ob, jgL_ob, jpI_ob, jpL_ob, jpR_ob, jpN_ob, jrc_ob, obj_sV, obj_wF, obj_wG, obj_wR, arr_sV, arr_wF, arr_wG, arr_wR, arL_sV, arL_wF, arL_wG, arL_wR, arR_sV, arR_wF, arR_wG, arR_wR, fI_sV (c := 0), fI_sV (c := 1), fI_sV (c := 2), fI_sV (c := 4), fI_sV (c := 5), fI_sV (c := 7), fI_sV (c := 8), fI_sV (c := 9), fI_sV (c := 10), fI_sV (c := 11), fI_sV (c := 12), fI_sV (c := 6), fL_sV (c := 9), fL_sV (c := 12), fI_sV_k, fL_sV_k, fV_sV_k, fI_wF, fI_wG, fI_wR, fL_wF, fL_wG, fL_wR, fV_wF, fV_wG, fV_wR, aF_sV, aG_sV, aR_sV, aF_wG, aF_wR, aG_wF, aG_wR, aR_wF, aR_wG, gM g', fI_sV_ne]; exact (by simp only [Int32.toInt_add, Int32.toInt_sub, Int32.toInt_mul, Int32.toInt_neg, Int.bmod_def, tl]; omega)
              · unfold tst
                simp only [Bool.false_eq_true, if_false, if_true]
                rw [if_pos c1]
                rfl
            · refine S232 _ (s7 (zs x) (zh x) 0 0 (zsl x) (zhm x) (zpl x + 0)) _ _ _ _ _ _ (fr_sV (by decide) k) e1 mu.1 (MS_s7 ?_ ?_ ?_) (by show -4096 ≤ zs x; omega) (by show zs x ≤ 4096; omega) b7 (by show zsl x ≤ 100; omega) b9 (by show zhm x ≤ 100; omega) (by show -10000 ≤ zpl x + 0; omega) (by show zpl x + 0 ≤ 10000; omega) ?_
              · simp (decide := true) only [jgI_ob, jgf_ob, jgL_ob, jpI_ob, jpL_ob, jpR_ob, jpN_ob, jrc_ob, obj_sV, obj_wF, obj_wG, obj_wR, arr_sV, arr_wF, arr_wG, arr_wR, arL_sV, arL_wF, arL_wG, arL_wR, arR_sV, arR_wF, arR_wG, arR_wR, fI_sV (c := 0), fI_sV (c := 1), fI_sV (c := 2), fI_sV (c := 4), fI_sV (c := 5), fI_sV (c := 7), fI_sV (c := 8), fI_sV (c := 9), fI_sV (c := 10), fI_sV (c := 11), fI_sV (c := 12), fI_sV (c := 6), fL_sV (c := 9), fL_sV (c := 12), fI_sV_k, fL_sV_k, fV_sV_k, fI_wF, fI_wG, fI_wR, fL_wF, fL_wG, fL_wR, fV_wF, fV_wG, fV_wR, aF_sV, aG_sV, aR_sV, aF_wG, aF_wR, aG_wF, aG_wR, aR_wF, aR_wG, gM g', fI_sV_ne]; exact m1
              · simp (decide := true) only [jgI_ob, jgf_ob, jgL_ob, jpI_ob, jpL_ob, jpR_ob, jpN_ob, jrc_ob, obj_sV, obj_wF, obj_wG, obj_wR, arr_sV, arr_wF, arr_wG, arr_wR, arL_sV, arL_wF, arL_wG, arL_wR, arR_sV, arR_wF, arR_wG, arR_wR, fI_sV (c := 0), fI_sV (c := 1), fI_sV (c := 2), fI_sV (c := 4), fI_sV (c := 5), fI_sV (c := 7), fI_sV (c := 8), fI_sV (c := 9), fI_sV (c := 10), fI_sV (c := 11), fI_sV (c := 12), fI_sV (c := 6), fL_sV (c := 9), fL_sV (c := 12), fI_sV_k, fL_sV_k, fV_sV_k, fI_wF, fI_wG, fI_wR, fL_wF, fL_wG, fL_wR, fV_wF, fV_wG, fV_wR, aF_sV, aG_sV, aR_sV, aF_wG, aF_wR, aG_wF, aG_wR, aR_wF, aR_wG, gM g', fI_sV_ne]; exact m2
              · simp (decide := true) only [jgI_ob, jgf_ob, jgL_ob, jpI_ob, jpL_ob, jpR_ob, jpN_ob, jrc_ob, obj_sV, obj_wF, obj_wG, obj_wR, arr_sV, arr_wF, arr_wG, arr_wR, arL_sV, arL_wF, arL_wG, arL_wR, arR_sV, arR_wF, arR_wG, arR_wR, fI_sV (c := 0), fI_sV (c := 1), fI_sV (c := 2), fI_sV (c := 4), fI_sV (c := 5), fI_sV (c := 7), fI_sV (c := 8), fI_sV (c := 9), fI_sV (c := 10), fI_sV (c := 11), fI_sV (c := 12), fI_sV (c := 6), fL_sV (c := 9), fL_sV (c := 12), fI_sV_k, fL_sV_k, fV_sV_k, fI_wF, fI_wG, fI_wR, fL_wF, fL_wG, fL_wR, fV_wF, fV_wG, fV_wR, aF_sV, aG_sV, aR_sV, aF_wG, aF_wR, aG_wF, aG_wR, aR_wF, aR_wG, gM g', fI_sV_ne]; exact (by simp only [Int32.toInt_add, Int32.toInt_sub, Int32.toInt_mul, Int32.toInt_neg, Int.bmod_def, tl]; omega)
              · unfold tst
                simp only [Bool.false_eq_true, if_false, if_true]
                rw [if_neg c1]
                rfl
        · have ed : decide (0 < i) = false := decide_eq_false (by omega)
          rw [ed, Bool.false_and] at S232
          refine S232 _ (s7 (zh x) (zh x) 0 0 (zsl x + 1) (zhm x) (zpl x)) _ _ _ _ _ _ (fr_sV (by decide) k) e2 mu.1 (MS_s7 ?_ ?_ ?_) (by show -4096 ≤ zh x; omega) (by show zh x ≤ 4096; omega) (by show 0 ≤ zsl x + 1; omega) (by show zsl x + 1 ≤ 100; omega) b9 (by show zhm x ≤ 100; omega) (by show -10000 ≤ zpl x; omega) (by show zpl x ≤ 10000; omega) rfl
          · simp (decide := true) only [jgI_ob, jgf_ob, jgL_ob, jpI_ob, jpL_ob, jpR_ob, jpN_ob, jrc_ob, obj_sV, obj_wF, obj_wG, obj_wR, arr_sV, arr_wF, arr_wG, arr_wR, arL_sV, arL_wF, arL_wG, arL_wR, arR_sV, arR_wF, arR_wG, arR_wR, fI_sV (c := 0), fI_sV (c := 1), fI_sV (c := 2), fI_sV (c := 4), fI_sV (c := 5), fI_sV (c := 7), fI_sV (c := 8), fI_sV (c := 9), fI_sV (c := 10), fI_sV (c := 11), fI_sV (c := 12), fI_sV (c := 6), fL_sV (c := 9), fL_sV (c := 12), fI_sV_k, fL_sV_k, fV_sV_k, fI_wF, fI_wG, fI_wR, fL_wF, fL_wG, fL_wR, fV_wF, fV_wG, fV_wR, aF_sV, aG_sV, aR_sV, aF_wG, aF_wR, aG_wF, aG_wR, aR_wF, aR_wG, gM g', fI_sV_ne]; exact (by simp only [Int32.toInt_add, Int32.toInt_sub, Int32.toInt_mul, Int32.toInt_neg, Int.bmod_def, tl]; omega)
          · simp (decide := true) only [jgI_ob, jgf_ob, jgL_ob, jpI_ob, jpL_ob, jpR_ob, jpN_ob, jrc_ob, obj_sV, obj_wF, obj_wG, obj_wR, arr_sV, arr_wF, arr_wG, arr_wR, arL_sV, arL_wF, arL_wG, arL_wR, arR_sV, arR_wF, arR_wG, arR_wR, fI_sV (c := 0), fI_sV (c := 1), fI_sV (c := 2), fI_sV (c := 4), fI_sV (c := 5), fI_sV (c := 7), fI_sV (c := 8), fI_sV (c := 9), fI_sV (c := 10), fI_sV (c := 11), fI_sV (c := 12), fI_sV (c := 6), fL_sV (c := 9), fL_sV (c := 12), fI_sV_k, fL_sV_k, fV_sV_k, fI_wF, fI_wG, fI_wR, fL_wF, fL_wG, fL_wR, fV_wF, fV_wG, fV_wR, aF_sV, aG_sV, aR_sV, aF_wG, aF_wR, aG_wF, aG_wR, aR_wF, aR_wG, gM g', fI_sV_ne]; exact m2
          · simp (decide := true) only [jgI_ob, jgf_ob, jgL_ob, jpI_ob, jpL_ob, jpR_ob, jpN_ob, jrc_ob, obj_sV, obj_wF, obj_wG, obj_wR, arr_sV, arr_wF, arr_wG, arr_wR, arL_sV, arL_wF, arL_wG, arL_wR, arR_sV, arR_wF, arR_wG, arR_wR, fI_sV (c := 0), fI_sV (c := 1), fI_sV (c := 2), fI_sV (c := 4), fI_sV (c := 5), fI_sV (c := 7), fI_sV (c := 8), fI_sV (c := 9), fI_sV (c := 10), fI_sV (c := 11), fI_sV (c := 12), fI_sV (c := 6), fL_sV (c := 9), fL_sV (c := 12), fI_sV_k, fL_sV_k, fV_sV_k, fI_wF, fI_wG, fI_wR, fL_wF, fL_wG, fL_wR, fV_wF, fV_wG, fV_wR, aF_sV, aG_sV, aR_sV, aF_wG, aF_wR, aG_wF, aG_wR, aR_wF, aR_wG, gM g', fI_sV_ne]; exact m3
      | true =>
        have mu1 := mu.1
        have es : (a2 - aF h 88 (aF h 113 (gt L i)).toInt.toNat).toInt = zh x - U (gt L i) := (by simp only [Int32.toInt_add, Int32.toInt_sub, Int32.toInt_mul, Int32.toInt_neg, Int.bmod_def, tl]; omega)
        rw [eo] at BT' ht
        simp (decide := true) only [es, jif_F]
        refine ⟨fun q1 => ?_, fun q1 => ?_⟩
        · refine jif_t q1 ?_
          have ey : tst x (U (gt L i)) (P (gt L i)) true (decide (0 < i) && O (gt L (i - 1))) = s7 (zh x - U (gt L i)) (zh x - U (gt L i) + 4096) 0 0 (zsl x + 1) (zhm x + 1) (zpl x - (P (gt L i) + 1)) := by
            unfold tst
            simp only [if_true]
            rw [if_pos q1, if_pos q1]
          rw [ey] at BT' ht
          refine ih (i + 1) _ (s7 (zh x - U (gt L i)) (zh x - U (gt L i) + 4096) 0 0 (zsl x + 1) (zhm x + 1) (zpl x - (P (gt L i) + 1))) _ _ _ _ _ _ _ _ (by omega) h4' es ?_ (MS_s7 ?_ ?_ ?_) BT' (fr_sV (by decide) (fr_sV (by decide) (fr_sV (by decide) k))) ht
          · show _ = zh x - U (gt L i) + 4096; exact (by simp only [Int32.toInt_add, Int32.toInt_sub, Int32.toInt_mul, Int32.toInt_neg, Int.bmod_def, tl]; omega)
          · simp (decide := true) only [jgI_ob, jgf_ob, jgL_ob, jpI_ob, jpL_ob, jpR_ob, jpN_ob, jrc_ob, obj_sV, obj_wF, obj_wG, obj_wR, arr_sV, arr_wF, arr_wG, arr_wR, arL_sV, arL_wF, arL_wG, arL_wR, arR_sV, arR_wF, arR_wG, arR_wR, fI_sV (c := 0), fI_sV (c := 1), fI_sV (c := 2), fI_sV (c := 4), fI_sV (c := 5), fI_sV (c := 7), fI_sV (c := 8), fI_sV (c := 9), fI_sV (c := 10), fI_sV (c := 11), fI_sV (c := 12), fI_sV (c := 6), fL_sV (c := 9), fL_sV (c := 12), fI_sV_k, fL_sV_k, fV_sV_k, fI_wF, fI_wG, fI_wR, fL_wF, fL_wG, fL_wR, fV_wF, fV_wG, fV_wR, aF_sV, aG_sV, aR_sV, aF_wG, aF_wR, aG_wF, aG_wR, aR_wF, aR_wG, gM g', fI_sV_ne]; exact (by simp only [Int32.toInt_add, Int32.toInt_sub, Int32.toInt_mul, Int32.toInt_neg, Int.bmod_def, tl]; omega)
          · simp (decide := true) only [jgI_ob, jgf_ob, jgL_ob, jpI_ob, jpL_ob, jpR_ob, jpN_ob, jrc_ob, obj_sV, obj_wF, obj_wG, obj_wR, arr_sV, arr_wF, arr_wG, arr_wR, arL_sV, arL_wF, arL_wG, arL_wR, arR_sV, arR_wF, arR_wG, arR_wR, fI_sV (c := 0), fI_sV (c := 1), fI_sV (c := 2), fI_sV (c := 4), fI_sV (c := 5), fI_sV (c := 7), fI_sV (c := 8), fI_sV (c := 9), fI_sV (c := 10), fI_sV (c := 11), fI_sV (c := 12), fI_sV (c := 6), fL_sV (c := 9), fL_sV (c := 12), fI_sV_k, fL_sV_k, fV_sV_k, fI_wF, fI_wG, fI_wR, fL_wF, fL_wG, fL_wR, fV_wF, fV_wG, fV_wR, aF_sV, aG_sV, aR_sV, aF_wG, aF_wR, aG_wF, aG_wR, aR_wF, aR_wG, gM g', fI_sV_ne]; exact (by simp only [Int32.toInt_add, Int32.toInt_sub, Int32.toInt_mul, Int32.toInt_neg, Int.bmod_def, tl]; omega)
          · simp (decide := true) only [jgI_ob, jgf_ob, jgL_ob, jpI_ob, jpL_ob, jpR_ob, jpN_ob, jrc_ob, obj_sV, obj_wF, obj_wG, obj_wR, arr_sV, arr_wF, arr_wG, arr_wR, arL_sV, arL_wF, arL_wG, arL_wR, arR_sV, arR_wF, arR_wG, arR_wR, fI_sV (c := 0), fI_sV (c := 1), fI_sV (c := 2), fI_sV (c := 4), fI_sV (c := 5), fI_sV (c := 7), fI_sV (c := 8), fI_sV (c := 9), fI_sV (c := 10), fI_sV (c := 11), fI_sV (c := 12), fI_sV (c := 6), fL_sV (c := 9), fL_sV (c := 12), fI_sV_k, fL_sV_k, fV_sV_k, fI_wF, fI_wG, fI_wR, fL_wF, fL_wG, fL_wR, fV_wF, fV_wG, fV_wR, aF_sV, aG_sV, aR_sV, aF_wG, aF_wR, aG_wF, aG_wR, aR_wF, aR_wG, gM g', fI_sV_ne]; exact (by simp only [Int32.toInt_add, Int32.toInt_sub, Int32.toInt_mul, Int32.toInt_neg, Int.bmod_def, tl]; omega)
        · refine jif_n q1 ?_
          have ey : tst x (U (gt L i)) (P (gt L i)) true (decide (0 < i) && O (gt L (i - 1))) = s7 (zh x - U (gt L i)) (zh x - U (gt L i)) 0 0 (zsl x + 1) (zhm x + 1) (zpl x - (P (gt L i) + 0)) := by
            unfold tst
            simp only [if_true]
            rw [if_neg q1, if_neg q1]
          rw [ey] at BT' ht
          refine ih (i + 1) _ (s7 (zh x - U (gt L i)) (zh x - U (gt L i)) 0 0 (zsl x + 1) (zhm x + 1) (zpl x - (P (gt L i) + 0))) _ _ _ _ _ _ _ _ (by omega) h4' es es (MS_s7 ?_ ?_ ?_) BT' (fr_sV (by decide) (fr_sV (by decide) (fr_sV (by decide) k))) ht
          · simp (decide := true) only [jgI_ob, jgf_ob, jgL_ob, jpI_ob, jpL_ob, jpR_ob, jpN_ob, jrc_ob, obj_sV, obj_wF, obj_wG, obj_wR, arr_sV, arr_wF, arr_wG, arr_wR, arL_sV, arL_wF, arL_wG, arL_wR, arR_sV, arR_wF, arR_wG, arR_wR, fI_sV (c := 0), fI_sV (c := 1), fI_sV (c := 2), fI_sV (c := 4), fI_sV (c := 5), fI_sV (c := 7), fI_sV (c := 8), fI_sV (c := 9), fI_sV (c := 10), fI_sV (c := 11), fI_sV (c := 12), fI_sV (c := 6), fL_sV (c := 9), fL_sV (c := 12), fI_sV_k, fL_sV_k, fV_sV_k, fI_wF, fI_wG, fI_wR, fL_wF, fL_wG, fL_wR, fV_wF, fV_wG, fV_wR, aF_sV, aG_sV, aR_sV, aF_wG, aF_wR, aG_wF, aG_wR, aR_wF, aR_wG, gM g', fI_sV_ne]; exact (by simp only [Int32.toInt_add, Int32.toInt_sub, Int32.toInt_mul, Int32.toInt_neg, Int.bmod_def, tl]; omega)
          · simp (decide := true) only [jgI_ob, jgf_ob, jgL_ob, jpI_ob, jpL_ob, jpR_ob, jpN_ob, jrc_ob, obj_sV, obj_wF, obj_wG, obj_wR, arr_sV, arr_wF, arr_wG, arr_wR, arL_sV, arL_wF, arL_wG, arL_wR, arR_sV, arR_wF, arR_wG, arR_wR, fI_sV (c := 0), fI_sV (c := 1), fI_sV (c := 2), fI_sV (c := 4), fI_sV (c := 5), fI_sV (c := 7), fI_sV (c := 8), fI_sV (c := 9), fI_sV (c := 10), fI_sV (c := 11), fI_sV (c := 12), fI_sV (c := 6), fL_sV (c := 9), fL_sV (c := 12), fI_sV_k, fL_sV_k, fV_sV_k, fI_wF, fI_wG, fI_wR, fL_wF, fL_wG, fL_wR, fV_wF, fV_wG, fV_wR, aF_sV, aG_sV, aR_sV, aF_wG, aF_wR, aG_wF, aG_wR, aR_wF, aR_wG, gM g', fI_sV_ne]; exact (by simp only [Int32.toInt_add, Int32.toInt_sub, Int32.toInt_mul, Int32.toInt_neg, Int.bmod_def, tl]; omega)
          · simp (decide := true) only [jgI_ob, jgf_ob, jgL_ob, jpI_ob, jpL_ob, jpR_ob, jpN_ob, jrc_ob, obj_sV, obj_wF, obj_wG, obj_wR, arr_sV, arr_wF, arr_wG, arr_wR, arL_sV, arL_wF, arL_wG, arL_wR, arR_sV, arR_wF, arR_wG, arR_wR, fI_sV (c := 0), fI_sV (c := 1), fI_sV (c := 2), fI_sV (c := 4), fI_sV (c := 5), fI_sV (c := 7), fI_sV (c := 8), fI_sV (c := 9), fI_sV (c := 10), fI_sV (c := 11), fI_sV (c := 12), fI_sV (c := 6), fL_sV (c := 9), fL_sV (c := 12), fI_sV_k, fL_sV_k, fV_sV_k, fI_wF, fI_wG, fI_wR, fL_wF, fL_wG, fL_wR, fV_wF, fV_wG, fV_wR, aF_sV, aG_sV, aR_sV, aF_wG, aF_wR, aG_wF, aG_wR, aR_wF, aR_wG, gM g', fI_sV_ne]; exact (by simp only [Int32.toInt_add, Int32.toInt_sub, Int32.toInt_mul, Int32.toInt_neg, Int.bmod_def, tl]; omega)
  have A := TR_at tr ok (show 0 < n by omega) h7
  obtain ⟨d1, d2, d3, d4, d5, d6, d7⟩ := fd (gt L 0) A.2.2
  have rg := MD_rg fd A.2.2
  have mu := mu_at g fd A.2.2
  have ivk : vp_in (nI (gt L 0)) 7 := by rw [vp_inI, nI_toInt (by omega)]; have := A.2.2; omega
  have ek : (nI (gt L 0)).toInt = gt L 0 := nI_toInt (by have := A.2.2; omega)
  have iv0 : vp_in (0 : Int32) 7 := by rw [vp_inI]; decide
  rw [jE_X12_tries]
  refine jT_X12_tries_0 ?_
  simp (decide := true) only [jgI_ob, jgf_ob, jgL_ob, jpI_ob, jpL_ob, jpR_ob, jpN_ob, jrc_ob, obj_sV, obj_wF, obj_wG, obj_wR, arr_sV, arr_wF, arr_wG, arr_wR, arL_sV, arL_wF, arL_wG, arL_wR, arR_sV, arR_wF, arR_wG, arR_wR, fI_sV (c := 0), fI_sV (c := 1), fI_sV (c := 2), fI_sV (c := 4), fI_sV (c := 5), fI_sV (c := 7), fI_sV (c := 8), fI_sV (c := 9), fI_sV (c := 10), fI_sV (c := 11), fI_sV (c := 12), fI_sV (c := 6), fL_sV (c := 9), fL_sV (c := 12), fI_sV_k, fL_sV_k, fV_sV_k, fI_wF, fI_wG, fI_wR, fL_wF, fL_wG, fL_wR, fV_wF, fV_wG, fV_wR, aF_sV, aG_sV, aR_sV, aF_wG, aF_wR, aG_wF, aG_wR, aR_wF, aR_wG, kC, kM, gM g, gN g, fV_sV_ne, fI_sV_ne, iv0, show (0 : Int32).toNatClampNeg = 0 from rfl, A.1, ti_clamp, ek, Int.toNat_natCast, ivk, mu.2, true_and, d7]
  cases eo : O (gt L 0) with
  | false =>
    rw [eo] at ha
    have ea : any = true := ha
    subst ea
    refine jif_t rfl (W (n - 1) 1 _ (s7 0 (U (gt L 0)) 0 0 0 1 (P (gt L 0))) _ _ _ _ _ _ _ _ (by omega) rfl rfl mu.1 (MS_s7 ?_ ?_ ?_) ?_ (fr_sV (by decide) (fr_sV (by decide) (fr_sV (by decide) (fr_sV (by decide) (fr_sV (by decide) fr_rfl))))) rfl)
    · simp (decide := true) only [jgI_ob, jgf_ob, jgL_ob, jpI_ob, jpL_ob, jpR_ob, jpN_ob, jrc_ob, obj_sV, obj_wF, obj_wG, obj_wR, arr_sV, arr_wF, arr_wG, arr_wR, arL_sV, arL_wF, arL_wG, arL_wR, arR_sV, arR_wF, arR_wG, arR_wR, fI_sV (c := 0), fI_sV (c := 1), fI_sV (c := 2), fI_sV (c := 4), fI_sV (c := 5), fI_sV (c := 7), fI_sV (c := 8), fI_sV (c := 9), fI_sV (c := 10), fI_sV (c := 11), fI_sV (c := 12), fI_sV (c := 6), fL_sV (c := 9), fL_sV (c := 12), fI_sV_k, fL_sV_k, fV_sV_k, fI_wF, fI_wG, fI_wR, fL_wF, fL_wG, fL_wR, fV_wF, fV_wG, fV_wR, aF_sV, aG_sV, aR_sV, aF_wG, aF_wR, aG_wF, aG_wR, aR_wF, aR_wG, gM g, fI_sV_ne]
    · simp (decide := true) only [jgI_ob, jgf_ob, jgL_ob, jpI_ob, jpL_ob, jpR_ob, jpN_ob, jrc_ob, obj_sV, obj_wF, obj_wG, obj_wR, arr_sV, arr_wF, arr_wG, arr_wR, arL_sV, arL_wF, arL_wG, arL_wR, arR_sV, arR_wF, arR_wG, arR_wR, fI_sV (c := 0), fI_sV (c := 1), fI_sV (c := 2), fI_sV (c := 4), fI_sV (c := 5), fI_sV (c := 7), fI_sV (c := 8), fI_sV (c := 9), fI_sV (c := 10), fI_sV (c := 11), fI_sV (c := 12), fI_sV (c := 6), fL_sV (c := 9), fL_sV (c := 12), fI_sV_k, fL_sV_k, fV_sV_k, fI_wF, fI_wG, fI_wR, fL_wF, fL_wG, fL_wR, fV_wF, fV_wG, fV_wR, aF_sV, aG_sV, aR_sV, aF_wG, aF_wR, aG_wF, aG_wR, aR_wF, aR_wG, gM g, fI_sV_ne]
    · simp (decide := true) only [jgI_ob, jgf_ob, jgL_ob, jpI_ob, jpL_ob, jpR_ob, jpN_ob, jrc_ob, obj_sV, obj_wF, obj_wG, obj_wR, arr_sV, arr_wF, arr_wG, arr_wR, arL_sV, arL_wF, arL_wG, arL_wR, arR_sV, arR_wF, arR_wG, arR_wR, fI_sV (c := 0), fI_sV (c := 1), fI_sV (c := 2), fI_sV (c := 4), fI_sV (c := 5), fI_sV (c := 7), fI_sV (c := 8), fI_sV (c := 9), fI_sV (c := 10), fI_sV (c := 11), fI_sV (c := 12), fI_sV (c := 6), fL_sV (c := 9), fL_sV (c := 12), fI_sV_k, fL_sV_k, fV_sV_k, fI_wF, fI_wG, fI_wR, fL_wF, fL_wG, fL_wR, fV_wF, fV_wG, fV_wR, aF_sV, aG_sV, aR_sV, aF_wG, aF_wR, aG_wF, aG_wR, aR_wF, aR_wG, gM g, fI_sV_ne]; exact d4
    · unfold BT
      simp only [zs, zh, zu, zv, zsl, zhm, zpl, s7, true_and, and_true]
      omega
  | true =>
    rw [eo] at ha
    have ea : any = false := ha
    subst ea
    refine jif_n (by decide) (W n 0 _ (s7 0 0 0 0 0 0 0) _ _ _ _ _ _ _ _ (by omega) rfl rfl rfl (MS_s7 ?_ ?_ ?_) ?_ (fr_sV (by decide) (fr_sV (by decide) (fr_sV (by decide) fr_rfl))) rfl)
    · simp (decide := true) only [jgI_ob, jgf_ob, jgL_ob, jpI_ob, jpL_ob, jpR_ob, jpN_ob, jrc_ob, obj_sV, obj_wF, obj_wG, obj_wR, arr_sV, arr_wF, arr_wG, arr_wR, arL_sV, arL_wF, arL_wG, arL_wR, arR_sV, arR_wF, arR_wG, arR_wR, fI_sV (c := 0), fI_sV (c := 1), fI_sV (c := 2), fI_sV (c := 4), fI_sV (c := 5), fI_sV (c := 7), fI_sV (c := 8), fI_sV (c := 9), fI_sV (c := 10), fI_sV (c := 11), fI_sV (c := 12), fI_sV (c := 6), fL_sV (c := 9), fL_sV (c := 12), fI_sV_k, fL_sV_k, fV_sV_k, fI_wF, fI_wG, fI_wR, fL_wF, fL_wG, fL_wR, fV_wF, fV_wG, fV_wR, aF_sV, aG_sV, aR_sV, aF_wG, aF_wR, aG_wF, aG_wR, aR_wF, aR_wG, gM g, fI_sV_ne]
    · simp (decide := true) only [jgI_ob, jgf_ob, jgL_ob, jpI_ob, jpL_ob, jpR_ob, jpN_ob, jrc_ob, obj_sV, obj_wF, obj_wG, obj_wR, arr_sV, arr_wF, arr_wG, arr_wR, arL_sV, arL_wF, arL_wG, arL_wR, arR_sV, arR_wF, arR_wG, arR_wR, fI_sV (c := 0), fI_sV (c := 1), fI_sV (c := 2), fI_sV (c := 4), fI_sV (c := 5), fI_sV (c := 7), fI_sV (c := 8), fI_sV (c := 9), fI_sV (c := 10), fI_sV (c := 11), fI_sV (c := 12), fI_sV (c := 6), fL_sV (c := 9), fL_sV (c := 12), fI_sV_k, fL_sV_k, fV_sV_k, fI_wF, fI_wG, fI_wR, fL_wF, fL_wG, fL_wR, fV_wF, fV_wG, fV_wR, aF_sV, aG_sV, aR_sV, aF_wG, aF_wR, aG_wF, aG_wR, aR_wF, aR_wG, gM g, fI_sV_ne]
    · simp (decide := true) only [jgI_ob, jgf_ob, jgL_ob, jpI_ob, jpL_ob, jpR_ob, jpN_ob, jrc_ob, obj_sV, obj_wF, obj_wG, obj_wR, arr_sV, arr_wF, arr_wG, arr_wR, arL_sV, arL_wF, arL_wG, arL_wR, arR_sV, arR_wF, arR_wG, arR_wR, fI_sV (c := 0), fI_sV (c := 1), fI_sV (c := 2), fI_sV (c := 4), fI_sV (c := 5), fI_sV (c := 7), fI_sV (c := 8), fI_sV (c := 9), fI_sV (c := 10), fI_sV (c := 11), fI_sV (c := 12), fI_sV (c := 6), fL_sV (c := 9), fL_sV (c := 12), fI_sV_k, fL_sV_k, fV_sV_k, fI_wF, fI_wG, fI_wR, fL_wF, fL_wG, fL_wR, fV_wF, fV_wG, fV_wR, aF_sV, aG_sV, aR_sV, aF_wG, aF_wR, aG_wF, aG_wR, aR_wF, aR_wG, gM g, fI_sV_ne]
    · exact ⟨by decide, by decide, by decide, by decide, rfl, rfl, by decide, by decide, by decide, by decide, by decide, by decide⟩
end TRI
