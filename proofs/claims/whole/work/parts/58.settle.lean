/-! THE BEST ORDER: the class -/
theorem jcpy_ar {h : JH} {p q n0 n1 : Nat} {sp dp n : Int32} {K : JH → Prop} (ha : arr h p .int n0) (hb : arr h q .int n1) : jcpy h (.ref p) sp (.ref q) dp n K = (¬ sp < 0 ∧ ¬ dp < 0 ∧ ¬ n < 0 ∧ sp.toNatClampNeg + n.toNatClampNeg ≤ n0 ∧ dp.toNatClampNeg + n.toNatClampNeg ≤ n1 ∧ K (wF h q (va_cpy (aF h p) (aF h q) sp.toNatClampNeg dp.toNatClampNeg n.toNatClampNeg))) := by
  unfold jcpy
  dsimp only
  rw [arr_of ha]
  dsimp only
  rw [arr_of hb]
  dsimp only
  rw [wF_eq hb]
/-- the factors -/
def FD (h : JH) (a0 a1 a2 : Nat) (n : Nat) (U P : Nat → Int) (O : Nat → Bool) : Prop := ∀ k, k < n → 100 ≤ (aF h a0 k).toInt ∧ (aF h a0 k).toInt ≤ 999 ∧ U k = (lgU ((aF h a0 k).toInt - 100).toNat : Nat) ∧ (aF h a1 k).toInt = P k ∧ -99 ≤ P k ∧ P k ≤ 99 ∧ aF h a2 k = bi (O k)
def AC (h : JH) (n : Nat) (a : Acc) : Prop := match a with
  | none => (fI h 59 10).toInt = 1000 ∧ (fI h 59 11).toInt = 1000
  | some q => (fI h 59 10).toInt = q.1 ∧ (fI h 59 11).toInt = q.2.1 ∧ (fI h 59 12).toInt = q.2.2.1 ∧ TR h 69 q.2.2.2 ∧ OK n q.2.2.2
def F63 : List (Nat × Nat) := hF 63 ++ [(59, 10), (59, 11), (59, 12)]
theorem ct_id (n : Nat) : ct 1 false (fun _ => 0) n = (lgU n : Nat) := by
  unfold ct tp P
  simp
section STL
variable {X : JX} {d : Nat} {Q : JQ} {h : JH} {n : Nat} {L : List Nat} {U P : Nat → Int} {O : Nat → Bool} {any : Bool} {a : Acc}
theorem FD_rg (fd : FD h 60 61 62 n U P O) {k : Nat} (hk : k < n) : 0 ≤ U k ∧ U k ≤ 4095 ∧ -99 ≤ P k ∧ P k ≤ 99 := by
  obtain ⟨f1, f2, f3, f4, f5, f6, f7⟩ := fd k hk
  have := lgU_lt ((aF h 60 k).toInt - 100).toNat
  omega
theorem c_startCounting (g : G h) (H : Q none (sV (sV (sV h 63 8 (.int 0)) 63 9 (.int 0)) 63 10 (.int 0))) : jex X (d + 1) 164 [.ref 63] h Q := by
  rw [jE_X2_startCounting]
  refine jT_X2_startCounting_0 ?_
  simp (decide := true) only [jgI_ob, jgf_ob, jgL_ob, jpI_ob, jpL_ob, jpR_ob, jpN_ob, jrc_ob, obj_sV, obj_wF, obj_wG, obj_wR, arr_sV, arr_wF, arr_wG, arr_wR, arL_sV, arL_wF, arL_wG, arL_wR, arR_sV, arR_wF, arR_wG, arR_wR, fI_sV (c := 0), fI_sV (c := 1), fI_sV (c := 2), fI_sV (c := 4), fI_sV (c := 5), fI_sV (c := 7), fI_sV (c := 8), fI_sV (c := 9), fI_sV (c := 10), fI_sV (c := 11), fI_sV (c := 12), fI_sV (c := 6), fL_sV (c := 9), fL_sV (c := 12), fI_sV_k, fL_sV_k, fV_sV_k, fI_wF, fI_wG, fI_wR, fL_wF, fL_wG, fL_wR, fV_wF, fV_wG, fV_wR, aF_sV, aG_sV, aR_sV, aF_wG, aF_wR, aG_wF, aG_wR, aR_wF, aR_wG, gO g]
  exact H
theorem c_tryOrder (g : G h) (h1 : 1 ≤ n) (h7 : n ≤ 7) (hn : (fI h 59 3).toInt = n) (tr : TR h 68 L) (ok : OK n L) (fd : FD h 60 61 62 n U P O) (ac : AC h n a) (H : ∀ h', fr [69] F63 h h' → AC h' n (upB a (TT U P O any n L) L) → Q none h') : jex X (d + 4) 237 [.ref 59, .int (bi any)] h Q := by
  have e63 : (fI h 63 0).toInt = 0 := by unfold fI; simp only [gF g]; rfl
  -- the end of the walk
  have FIN : ∀ (h' : JH) (x : S7) (o1 o2 o3 o4 : Option Value) (c z : Nat), HS h' 63 x → BT n x → fr [] (hF 63) h h' → x = TT U P O any n L → jB_X4_tryOrder_176 X (d + 3) Q 59 o1 o2 o3 o4 h' c z := by
    intro h' x o1 o2 o3 o4 c z hx bt k ex
    have g' := G_fr g rfl k
    have kk : fr [69] F63 h h' := fr_mono (fun _ c => by cases c) (fun q c => List.mem_append_left _ c) k
    obtain ⟨x1, x2, x3, x4, x5, x6, x7⟩ := hx
    obtain ⟨b1, b2, b3, b4, b5, b6, b7, b8, b9, b10, b11, b12⟩ := bt
    have f3 : fI h' 59 3 = fI h 59 3 := frI k (by decide) (by decide)
    have f10 : fI h' 59 10 = fI h 59 10 := frI k (by decide) (by decide)
    have f11 : fI h' 59 11 = fI h 59 11 := frI k (by decide) (by decide)
    have f12 : fI h' 59 12 = fI h 59 12 := frI k (by decide) (by decide)
    have f68 : aF h' 68 = aF h 68 := frF k (by decide)
    have f69 : aF h' 69 = aF h 69 := frF k (by decide)
    have NO : upB a (TT U P O any n L) L = a → Q none h' := by
      intro e
      refine H h' kk ?_
      rw [e]
      cases a with
      | none => exact ⟨by rw [f10]; exact ac.1, by rw [f11]; exact ac.2⟩
      | some q =>
        obtain ⟨c1, c2, c3, c4, c5⟩ := ac
        refine ⟨by rw [f10]; exact c1, by rw [f11]; exact c2, by rw [f12]; exact c3, ?_, c5⟩
        unfold TR
        rw [f69]
        exact c4
    have YES : upB a (TT U P O any n L) L = some (zsl x, zhm x, zpl x, L) → Q none (wF (sV (sV (sV h' 59 10 (.int (fI h' 63 8))) 59 11 (.int (fI h' 63 9))) 59 12 (.int (fI h' 63 10))) 69 (va_cpy (aF h' 68) (aF h' 69) (0 : Int32).toNatClampNeg (0 : Int32).toNatClampNeg (7 : Int32).toNatClampNeg)) := by
      intro e
      refine H _ (fr_wF (by decide) (fr_sV (by decide) (fr_sV (by decide) (fr_sV (by decide) kk)))) ?_
      rw [e]
      unfold AC
      dsimp only
      refine ⟨?_, ?_, ?_, fun i hi => ?_, ok⟩
      · simp (decide := true) only [jgI_ob, jgf_ob, jgL_ob, jpI_ob, jpL_ob, jpR_ob, jpN_ob, jrc_ob, obj_sV, obj_wF, obj_wG, obj_wR, arr_sV, arr_wF, arr_wG, arr_wR, arL_sV, arL_wF, arL_wG, arL_wR, arR_sV, arR_wF, arR_wG, arR_wR, fI_sV (c := 0), fI_sV (c := 1), fI_sV (c := 2), fI_sV (c := 4), fI_sV (c := 5), fI_sV (c := 7), fI_sV (c := 8), fI_sV (c := 9), fI_sV (c := 10), fI_sV (c := 11), fI_sV (c := 12), fI_sV (c := 6), fL_sV (c := 9), fL_sV (c := 12), fI_sV_k, fL_sV_k, fV_sV_k, fI_wF, fI_wG, fI_wR, fL_wF, fL_wG, fL_wR, fV_wF, fV_wG, fV_wR, aF_sV, aG_sV, aR_sV, aF_wG, aF_wR, aG_wF, aG_wR, aR_wF, aR_wG, gO g']; exact x5
      · simp (decide := true) only [jgI_ob, jgf_ob, jgL_ob, jpI_ob, jpL_ob, jpR_ob, jpN_ob, jrc_ob, obj_sV, obj_wF, obj_wG, obj_wR, arr_sV, arr_wF, arr_wG, arr_wR, arL_sV, arL_wF, arL_wG, arL_wR, arR_sV, arR_wF, arR_wG, arR_wR, fI_sV (c := 0), fI_sV (c := 1), fI_sV (c := 2), fI_sV (c := 4), fI_sV (c := 5), fI_sV (c := 7), fI_sV (c := 8), fI_sV (c := 9), fI_sV (c := 10), fI_sV (c := 11), fI_sV (c := 12), fI_sV (c := 6), fL_sV (c := 9), fL_sV (c := 12), fI_sV_k, fL_sV_k, fV_sV_k, fI_wF, fI_wG, fI_wR, fL_wF, fL_wG, fL_wR, fV_wF, fV_wG, fV_wR, aF_sV, aG_sV, aR_sV, aF_wG, aF_wR, aG_wF, aG_wR, aR_wF, aR_wG, gO g']; exact x6
      · simp (decide := true) only [jgI_ob, jgf_ob, jgL_ob, jpI_ob, jpL_ob, jpR_ob, jpN_ob, jrc_ob, obj_sV, obj_wF, obj_wG, obj_wR, arr_sV, arr_wF, arr_wG, arr_wR, arL_sV, arL_wF, arL_wG, arL_wR, arR_sV, arR_wF, arR_wG, arR_wR, fI_sV (c := 0), fI_sV (c := 1), fI_sV (c := 2), fI_sV (c := 4), fI_sV (c := 5), fI_sV (c := 7), fI_sV (c := 8), fI_sV (c := 9), fI_sV (c := 10), fI_sV (c := 11), fI_sV (c := 12), fI_sV (c := 6), fL_sV (c := 9), fL_sV (c := 12), fI_sV_k, fL_sV_k, fV_sV_k, fI_wF, fI_wG, fI_wR, fL_wF, fL_wG, fL_wR, fV_wF, fV_wG, fV_wR, aF_sV, aG_sV, aR_sV, aF_wG, aF_wR, aG_wF, aG_wR, aR_wF, aR_wG, gO g']; exact x7
      · simp (decide := true) only [jgI_ob, jgf_ob, jgL_ob, jpI_ob, jpL_ob, jpR_ob, jpN_ob, jrc_ob, obj_sV, obj_wF, obj_wG, obj_wR, arr_sV, arr_wF, arr_wG, arr_wR, arL_sV, arL_wF, arL_wG, arL_wR, arR_sV, arR_wF, arR_wG, arR_wR, fI_sV (c := 0), fI_sV (c := 1), fI_sV (c := 2), fI_sV (c := 4), fI_sV (c := 5), fI_sV (c := 7), fI_sV (c := 8), fI_sV (c := 9), fI_sV (c := 10), fI_sV (c := 11), fI_sV (c := 12), fI_sV (c := 6), fL_sV (c := 9), fL_sV (c := 12), fI_sV_k, fL_sV_k, fV_sV_k, fI_wF, fI_wG, fI_wR, fL_wF, fL_wG, fL_wR, fV_wF, fV_wG, fV_wR, aF_sV, aG_sV, aR_sV, aF_wG, aF_wR, aG_wF, aG_wR, aR_wF, aR_wG, kC, kM, gO g']
        unfold va_cpy
        rw [if_pos ⟨Nat.zero_le _, by rw [ok.1] at hi; show i < 0 + 7; omega⟩, f68]
        rw [show (0 : Int32).toNatClampNeg + (i - (0 : Int32).toNatClampNeg) = i from Nat.zero_add _]
        exact tr i hi
    have cp : ∀ (l : Int32) (K : JH → Prop), l = 7 → jcpy (sV (sV (sV h' 59 10 (.int (fI h' 63 8))) 59 11 (.int (fI h' 63 9))) 59 12 (.int (fI h' 63 10))) (.ref 68) 0 (.ref 69) 0 l K = K (wF (sV (sV (sV h' 59 10 (.int (fI h' 63 8))) 59 11 (.int (fI h' 63 9))) 59 12 (.int (fI h' 63 10))) 69 (va_cpy (aF h' 68) (aF h' 69) (0 : Int32).toNatClampNeg (0 : Int32).toNatClampNeg (7 : Int32).toNatClampNeg)) := by
      intro l K el
      subst el
      rw [jcpy_ar (n0 := 7) (n1 := 7) (by simp only [arr_sV, gO g']) (by simp only [arr_sV, gO g'])]
      have v1 : ¬ (0 : Int32) < 0 := by decide
      have v3 : ¬ (7 : Int32) < 0 := by decide
      have v4 : (0 : Int32).toNatClampNeg + (7 : Int32).toNatClampNeg ≤ 7 := by decide
      simp only [aF_sV, v1, v3, v4, not_false_eq_true, true_and]
    have cp7 := fun K => cp 7 K rfl
    have cp7' := fun K => cp (Int32.ofNat 7) K rfl
    refine jT_X4_tryOrder_176 ?_
    simp (decide := true) only [jgI_ob, jgf_ob, jgL_ob, jpI_ob, jpL_ob, jpR_ob, jpN_ob, jrc_ob, obj_sV, obj_wF, obj_wG, obj_wR, arr_sV, arr_wF, arr_wG, arr_wR, arL_sV, arL_wF, arL_wG, arL_wR, arR_sV, arR_wF, arR_wG, arR_wR, fI_sV (c := 0), fI_sV (c := 1), fI_sV (c := 2), fI_sV (c := 4), fI_sV (c := 5), fI_sV (c := 7), fI_sV (c := 8), fI_sV (c := 9), fI_sV (c := 10), fI_sV (c := 11), fI_sV (c := 12), fI_sV (c := 6), fL_sV (c := 9), fL_sV (c := 12), fI_sV_k, fL_sV_k, fV_sV_k, fI_wF, fI_wG, fI_wR, fL_wF, fL_wG, fL_wR, fV_wF, fV_wG, fV_wR, aF_sV, aG_sV, aR_sV, aF_wG, aF_wR, aG_wF, aG_wR, aR_wF, aR_wG, kC, kM, gO g', gF g', fV_sV_ne, fI_sV_ne, jif_F, jif_T, cp7, cp7']
    simp only [ti_lt, ti_eq, x5, x6, f10, f11]
    have eT1 : zsl (TT U P O any n L) = zsl x := by rw [← ex]
    have eT2 : zhm (TT U P O any n L) = zhm x := by rw [← ex]
    have eT3 : zpl (TT U P O any n L) = zpl x := by rw [← ex]
    cases a with
    | none =>
      have c1 := ac.1
      have YY := YES (by unfold upB; rw [eT1, eT2, eT3])
      exact jif_t (by omega) YY
    | some q =>
      obtain ⟨c1, c2, c3, c4, c5⟩ := ac
      have YY : (zsl x < q.1 ∨ (zsl x = q.1 ∧ zhm x < q.2.1)) → _ := fun w => YES (by unfold upB; dsimp only; rw [eT1, eT2, eT3, if_pos w])
      have NN : ¬ (zsl x < q.1 ∨ (zsl x = q.1 ∧ zhm x < q.2.1)) → Q none h' := fun w => NO (by unfold upB; dsimp only; rw [eT1, eT2, if_neg w])
      rw [c1, c2]
      exact ⟨fun w => YY (Or.inl w), fun w => ⟨fun w2 => ⟨fun w3 => YY (Or.inr ⟨w2, w3⟩), fun w3 => NN (by omega)⟩, fun w2 => NN (by omega)⟩⟩
  have W : ∀ (j i : Nat) (h' : JH) (x : S7) (a2 a3 : Int32) (o4 : Option Value) (c z : Nat), j + i = n → a3.toInt = i → a2 = bi (decide (0 < i) && O (gt L (i - 1))) → HS h' 63 x → BT i x → fr [] (hF 63) h h' → tgo U P O L j i x = TT U P O any n L → (i = 0 → any = false) → jB_X4_tryOrder_22 X (d + 3) Q 59 (bi any) a2 a3 o4 h' c z := by
    intro j
    induction j with
    | zero =>
      intro i h' x a2 a3 o4 c z hj h3 h2 hx bt k ht _
      have hi : i = n := by omega
      subst hi
      have g' := G_fr g rfl k
      have f3 : fI h' 59 3 = fI h 59 3 := frI k (by decide) (by decide)
      refine jT_X4_tryOrder_22 ?_
      rw [jgI_ob (c := 4) (by simp only [gO g']) rfl, f3]
      exact jif_n (by rw [ti_lt]; omega) (FIN h' x _ _ _ o4 c z hx bt k ht)
    | succ j ih =>
      intro i h' x a2 a3 o4 c z hj h3 h2 hx bt k ht hz
      have g' := G_fr g rfl k
      have f3 : fI h' 59 3 = fI h 59 3 := frI k (by decide) (by decide)
      have f68 : aF h' 68 = aF h 68 := frF k (by decide)
      have f60 : aF h' 60 = aF h 60 := frF k (by decide)
      have f61 : aF h' 61 = aF h 61 := frF k (by decide)
      have f62 : aF h' 62 = aF h 62 := frF k (by decide)
      have A := TR_at tr ok (show i < n by omega) h7
      obtain ⟨d1, d2, d3, d4, d5, d6, d7⟩ := fd (gt L i) A.2.2
      have rg := FD_rg fd A.2.2
      have e630 : (fI h' 63 0).toInt = 0 := by rw [frI k (by decide) (by decide)]; exact e63
      have h3' : (a3 + 1).toInt = ((i + 1 : Nat) : Int) := (by simp only [Int32.toInt_add, Int32.toInt_sub, Int32.toInt_mul, Int32.toInt_neg, Int.bmod_def, tl]; omega)
      have iv3 : vp_in a3 7 := by rw [vp_inI]; omega
      have ivk : vp_in (nI (gt L i)) 7 := by rw [vp_inI, nI_toInt (by omega)]; have := A.2.2; omega
      have ek : (nI (gt L i)).toInt = gt L i := nI_toInt (by have := A.2.2; omega)
      have be : BE x := by
        obtain ⟨b1, b2, b3, b4, b5, b6, b7, b8, b9, b10, b11, b12⟩ := bt
        unfold BE
        omega
      have hU : (ct 1 false (fun _ => 0) ((aF h 60 (gt L i)).toInt - 100).toNat) = U (gt L i) := by rw [ct_id, d3]
      unfold tgo at ht
      have nxt : ∀ (h2 : JH) (o : Option Value) (c z : Nat), fr [] (hF 63) h' h2 → HS h2 63 (tst x (U (gt L i)) (P (gt L i)) (O (gt L i)) (decide (0 < i) && O (gt L (i - 1)))) → jB_X4_tryOrder_22 X (d + 3) Q 59 (bi any) (bi (O (gt L i))) (a3 + 1) o h2 c z := fun h2 o c z k2 hx2 => ih (i + 1) h2 _ _ _ _ _ _ (by omega) h3' (by rw [show i + 1 - 1 = i by omega]; simp) hx2 (BT_tst bt rg.1 rg.2.1 rg.2.2.1 rg.2.2.2) (fr_trans k k2) ht (fun q => by omega)
      have S94 : ∀ (c z : Nat), jB_X4_tryOrder_94 X (d + 3) Q 59 (bi any) a2 a3 (nI (gt L i)) h' c z := by
        intro c z
        refine jT_X4_tryOrder_94 ?_
        simp (decide := true) only [jgI_ob, jgf_ob, jgL_ob, jpI_ob, jpL_ob, jpR_ob, jpN_ob, jrc_ob, obj_sV, obj_wF, obj_wG, obj_wR, arr_sV, arr_wF, arr_wG, arr_wR, arL_sV, arL_wF, arL_wG, arL_wR, arR_sV, arR_wF, arR_wG, arR_wR, fI_sV (c := 0), fI_sV (c := 1), fI_sV (c := 2), fI_sV (c := 4), fI_sV (c := 5), fI_sV (c := 7), fI_sV (c := 8), fI_sV (c := 9), fI_sV (c := 10), fI_sV (c := 11), fI_sV (c := 12), fI_sV (c := 6), fL_sV (c := 9), fL_sV (c := 12), fI_sV_k, fL_sV_k, fV_sV_k, fI_wF, fI_wG, fI_wR, fL_wF, fL_wG, fL_wR, fV_wF, fV_wG, fV_wR, aF_sV, aG_sV, aR_sV, aF_wG, aF_wR, aG_wF, aG_wR, aR_wF, aR_wG, kC, kM, gO g', gF g', ti_clamp, ek, Int.toNat_natCast, ivk, true_and, f60, f61, f62, d7]
        cases eo : O (gt L i)
        · refine jif_t rfl ?_
          rw [h2]
          refine c_multiply (n := ((aF h 60 (gt L i)).toInt - 100).toNat) g' (Or.inr rfl) (by simp only [gO g']) (SC_c g') hx be e630 (by decide) (by decide) d1 d2 (by omega) (by omega) (by omega) (by decide) (by decide) (fun h2 r k2 hr hx2 => ?_)
          rw [hU, d4, show (0 : Int32).toInt = 0 from rfl, ideal_mul bt rg.1 rg.2.1] at hx2
          try dsimp only [jrI, jrN, jrA, jisr, jnul, jcat1]
          have g2 := G_fr g' rfl k2
          have q62 : aF h2 62 = aF h 62 := (frF k2 (by decide)).trans f62
          simp (decide := true) only [jgI_ob, jgf_ob, jgL_ob, jpI_ob, jpL_ob, jpR_ob, jpN_ob, jrc_ob, obj_sV, obj_wF, obj_wG, obj_wR, arr_sV, arr_wF, arr_wG, arr_wR, arL_sV, arL_wF, arL_wG, arL_wR, arR_sV, arR_wF, arR_wG, arR_wR, fI_sV (c := 0), fI_sV (c := 1), fI_sV (c := 2), fI_sV (c := 4), fI_sV (c := 5), fI_sV (c := 7), fI_sV (c := 8), fI_sV (c := 9), fI_sV (c := 10), fI_sV (c := 11), fI_sV (c := 12), fI_sV (c := 6), fL_sV (c := 9), fL_sV (c := 12), fI_sV_k, fL_sV_k, fV_sV_k, fI_wF, fI_wG, fI_wR, fL_wF, fL_wG, fL_wR, fV_wF, fV_wG, fV_wR, aF_sV, aG_sV, aR_sV, aF_wG, aF_wR, aG_wF, aG_wR, aR_wF, aR_wG, kC, kM, gO g2, gF g2, ti_clamp, ek, Int.toNat_natCast, ivk, true_and, q62, d7]
          rw [← eo] at hx2
          exact nxt h2 _ _ _ k2 hx2
        · refine jif_n (by decide) ?_
          refine c_divide (n := ((aF h 60 (gt L i)).toInt - 100).toNat) g' (Or.inr rfl) (by simp only [gO g']) (SC_c g') hx be e630 (by decide) (by decide) d1 d2 (by omega) (by omega) (by omega) (by decide) (by decide) (fun h2 r k2 hr hx2 => ?_)
          rw [hU, d4, show (0 : Int32).toInt = 0 from rfl, ideal_div (bh := decide (0 < i) && O (gt L (i - 1))) bt rg.1 rg.2.1] at hx2
          try dsimp only [jrI, jrN, jrA, jisr, jnul, jcat1]
          have g2 := G_fr g' rfl k2
          have q62 : aF h2 62 = aF h 62 := (frF k2 (by decide)).trans f62
          simp (decide := true) only [jgI_ob, jgf_ob, jgL_ob, jpI_ob, jpL_ob, jpR_ob, jpN_ob, jrc_ob, obj_sV, obj_wF, obj_wG, obj_wR, arr_sV, arr_wF, arr_wG, arr_wR, arL_sV, arL_wF, arL_wG, arL_wR, arR_sV, arR_wF, arR_wG, arR_wR, fI_sV (c := 0), fI_sV (c := 1), fI_sV (c := 2), fI_sV (c := 4), fI_sV (c := 5), fI_sV (c := 7), fI_sV (c := 8), fI_sV (c := 9), fI_sV (c := 10), fI_sV (c := 11), fI_sV (c := 12), fI_sV (c := 6), fL_sV (c := 9), fL_sV (c := 12), fI_sV_k, fL_sV_k, fV_sV_k, fI_wF, fI_wG, fI_wR, fL_wF, fL_wG, fL_wR, fV_wF, fV_wG, fV_wR, aF_sV, aG_sV, aR_sV, aF_wG, aF_wR, aG_wF, aG_wR, aR_wF, aR_wG, kC, kM, gO g2, gF g2, ti_clamp, ek, Int.toNat_natCast, ivk, true_and, q62, d7]
          rw [← eo] at hx2
          exact nxt h2 _ _ _ k2 hx2
      refine jT_X4_tryOrder_22 ?_
      have S := S94 c z
      rw [jgI_ob (c := 4) (by simp only [gO g']) rfl, f3]
      refine jif_t (by rw [ti_lt]; omega) ?_
      rw [jgf_ob (c := 4) (by simp only [gO g']) rfl, show fV h' 59 7 = .ref 68 by simp only [gF g'], jaln_arr (t := .int) (n := 7) (by simp only [gO g'])]
      refine jif_t (by rw [ti_lt]; show a3.toInt < 7; omega) ?_
      rw [jgf_ob (c := 4) (by simp only [gO g']) rfl, show fV h' 59 7 = .ref 68 by simp only [gF g'], jaI_ar (n := 7) (by simp only [gO g']), f68, ti_clamp, h3, Int.toNat_natCast, A.1]
      refine ⟨iv3, ?_⟩
      refine c_min6 (d := d + 2) rfl ek (by have := A.2.2; omega) ?_
      try dsimp only [jrI, jrN, jrA, jisr, jnul, jcat1]
      refine c_max0 (d := d + 2) rfl ek (by have := A.2.2; omega) ?_
      try dsimp only [jrI, jrN, jrA, jisr, jnul, jcat1]
      refine ⟨fun q => ?_, fun _ => S⟩
      rw [ti_eq, h3, show (0 : Int32).toInt = 0 from rfl] at q
      rw [hz (by omega)] at S ⊢
      exact jif_t rfl S
  -- the start
  rw [jE_X4_tryOrder]
  refine jT_X4_tryOrder_0 ?_
  simp (decide := true) only [jgI_ob, jgf_ob, jgL_ob, jpI_ob, jpL_ob, jpR_ob, jpN_ob, jrc_ob, obj_sV, obj_wF, obj_wG, obj_wR, arr_sV, arr_wF, arr_wG, arr_wR, arL_sV, arL_wF, arL_wG, arL_wR, arR_sV, arR_wF, arR_wG, arR_wR, fI_sV (c := 0), fI_sV (c := 1), fI_sV (c := 2), fI_sV (c := 4), fI_sV (c := 5), fI_sV (c := 7), fI_sV (c := 8), fI_sV (c := 9), fI_sV (c := 10), fI_sV (c := 11), fI_sV (c := 12), fI_sV (c := 6), fL_sV (c := 9), fL_sV (c := 12), fI_sV_k, fL_sV_k, fV_sV_k, fI_wF, fI_wG, fI_wR, fL_wF, fL_wG, fL_wR, fV_wF, fV_wG, fV_wR, aF_sV, aG_sV, aR_sV, aF_wG, aF_wR, aG_wF, aG_wR, aR_wF, aR_wG, gO g, gF g, ti_lt, tl, true_and]
  refine c_setAll (by simp only [gO g]) ?_
  try dsimp only [jrI, jrN, jrA, jisr, jnul, jcat1]
  have k0 : fr [] (hF 63) h (sV (sV (sV (sV h 63 4 (.int 0)) 63 5 (.int 0)) 63 6 (.int 0)) 63 7 (.int 0)) := fr_sV (by decide) (fr_sV (by decide) (fr_sV (by decide) (fr_sV (by decide) fr_rfl)))
  have g0 := G_fr g rfl k0
  simp (decide := true) only [jgI_ob, jgf_ob, jgL_ob, jpI_ob, jpL_ob, jpR_ob, jpN_ob, jrc_ob, obj_sV, obj_wF, obj_wG, obj_wR, arr_sV, arr_wF, arr_wG, arr_wR, arL_sV, arL_wF, arL_wG, arL_wR, arR_sV, arR_wF, arR_wG, arR_wR, fI_sV (c := 0), fI_sV (c := 1), fI_sV (c := 2), fI_sV (c := 4), fI_sV (c := 5), fI_sV (c := 7), fI_sV (c := 8), fI_sV (c := 9), fI_sV (c := 10), fI_sV (c := 11), fI_sV (c := 12), fI_sV (c := 6), fL_sV (c := 9), fL_sV (c := 12), fI_sV_k, fL_sV_k, fV_sV_k, fI_wF, fI_wG, fI_wR, fL_wF, fL_wG, fL_wR, fV_wF, fV_wG, fV_wR, aF_sV, aG_sV, aR_sV, aF_wG, aF_wR, aG_wF, aG_wR, aR_wF, aR_wG, gO g, gF g, fV_sV_ne]
  refine c_startCounting g0 ?_
  try dsimp only [jrI, jrN, jrA, jisr, jnul, jcat1]
  refine (fun S : (∀ hh, hh = _ → jB_X4_tryOrder_22 X (d + 3) Q 59 (bi any) 0 0 none hh 0 0) => S _ rfl) (fun hh e => ?_)
  have k1 : fr [] (hF 63) h hh := by rw [e]; exact fr_sV (by decide) (fr_sV (by decide) (fr_sV (by decide) k0))
  have hx : HS hh 63 (s7 0 0 0 0 0 0 0) := by
    rw [e]
    unfold HS
    simp (decide := true) only [jgI_ob, jgf_ob, jgL_ob, jpI_ob, jpL_ob, jpR_ob, jpN_ob, jrc_ob, obj_sV, obj_wF, obj_wG, obj_wR, arr_sV, arr_wF, arr_wG, arr_wR, arL_sV, arL_wF, arL_wG, arL_wR, arR_sV, arR_wF, arR_wG, arR_wR, fI_sV (c := 0), fI_sV (c := 1), fI_sV (c := 2), fI_sV (c := 4), fI_sV (c := 5), fI_sV (c := 7), fI_sV (c := 8), fI_sV (c := 9), fI_sV (c := 10), fI_sV (c := 11), fI_sV (c := 12), fI_sV (c := 6), fL_sV (c := 9), fL_sV (c := 12), fI_sV_k, fL_sV_k, fV_sV_k, fI_wF, fI_wG, fI_wR, fL_wF, fL_wG, fL_wR, fV_wF, fV_wG, fV_wR, aF_sV, aG_sV, aR_sV, aF_wG, aF_wR, aG_wF, aG_wR, aR_wF, aR_wG, gO g]
  clear e
  have b0 : BT 0 (s7 0 0 0 0 0 0 0) := ⟨by decide, by decide, by decide, by decide, rfl, rfl, by decide, by decide, by decide, by decide, by decide, by decide⟩
  cases any with
  | false => exact W n 0 hh _ 0 0 _ _ _ (by omega) rfl rfl hx b0 k1 rfl (fun _ => rfl)
  | true =>
    have g' := G_fr g rfl k1
    have f3 : fI hh 59 3 = fI h 59 3 := frI k1 (by decide) (by decide)
    have f68 : aF hh 68 = aF h 68 := frF k1 (by decide)
    have f60 : aF hh 60 = aF h 60 := frF k1 (by decide)
    have f61 : aF hh 61 = aF h 61 := frF k1 (by decide)
    have A := TR_at tr ok (show 0 < n by omega) h7
    obtain ⟨d1, d2, d3, d4, d5, d6, d7⟩ := fd (gt L 0) A.2.2
    have rg := FD_rg fd A.2.2
    have e630 : (fI hh 63 0).toInt = 0 := by rw [frI k1 (by decide) (by decide)]; exact e63
    have ivk : vp_in (nI (gt L 0)) 7 := by rw [vp_inI, nI_toInt (by omega)]; have := A.2.2; omega
    have ek : (nI (gt L 0)).toInt = gt L 0 := nI_toInt (by have := A.2.2; omega)
    have hU : (ct 1 false (fun _ => 0) ((aF h 60 (gt L 0)).toInt - 100).toNat) = U (gt L 0) := by rw [ct_id, d3]
    refine jT_X4_tryOrder_22 ?_
    rw [jgI_ob (c := 4) (by simp only [gO g']) rfl, f3]
    refine jif_t (by rw [ti_lt, hn, tl.1]; omega) ?_
    rw [jgf_ob (c := 4) (by simp only [gO g']) rfl, show fV hh 59 7 = .ref 68 by simp only [gF g'], jaln_arr (t := .int) (n := 7) (by simp only [gO g'])]
    refine jif_t (by decide) ?_
    rw [jgf_ob (c := 4) (by simp only [gO g']) rfl, show fV hh 59 7 = .ref 68 by simp only [gF g'], jaI_ar (n := 7) (by simp only [gO g']), f68, show (0 : Int32).toNatClampNeg = 0 from rfl, A.1]
    refine ⟨by rw [vp_inI]; decide, ?_⟩
    refine c_min6 (d := d + 2) rfl ek (by have := A.2.2; omega) ?_
    try dsimp only [jrI, jrN, jrA, jisr, jnul, jcat1]
    refine c_max0 (d := d + 2) rfl ek (by have := A.2.2; omega) ?_
    try dsimp only [jrI, jrN, jrA, jisr, jnul, jcat1]
    refine jif_t rfl (jif_n (by decide) ?_)
    simp (decide := true) only [jgI_ob, jgf_ob, jgL_ob, jpI_ob, jpL_ob, jpR_ob, jpN_ob, jrc_ob, obj_sV, obj_wF, obj_wG, obj_wR, arr_sV, arr_wF, arr_wG, arr_wR, arL_sV, arL_wF, arL_wG, arL_wR, arR_sV, arR_wF, arR_wG, arR_wR, fI_sV (c := 0), fI_sV (c := 1), fI_sV (c := 2), fI_sV (c := 4), fI_sV (c := 5), fI_sV (c := 7), fI_sV (c := 8), fI_sV (c := 9), fI_sV (c := 10), fI_sV (c := 11), fI_sV (c := 12), fI_sV (c := 6), fL_sV (c := 9), fL_sV (c := 12), fI_sV_k, fL_sV_k, fV_sV_k, fI_wF, fI_wG, fI_wR, fL_wF, fL_wG, fL_wR, fV_wF, fV_wG, fV_wR, aF_sV, aG_sV, aR_sV, aF_wG, aF_wR, aG_wF, aG_wR, aR_wF, aR_wG, kC, kM, gO g', gF g', ti_clamp, ek, Int.toNat_natCast, ivk, true_and, f60, f61]
    have be : BE (s7 0 0 0 0 0 0 0) := ⟨by decide, by decide, by decide, by decide, by decide, by decide, by decide, by decide, by decide, by decide, by decide, by decide, by decide, by decide⟩
    refine c_startWith (n := ((aF h 60 (gt L 0)).toInt - 100).toNat) g' (Or.inr rfl) (by simp only [gO g']) (SC_d g') hx be e630 (by decide) (by decide) d1 d2 (by omega) (by omega) (by omega) (by decide) (by decide) (fun h2 r k2 hr hx2 => ?_)
    have ep : pset 0 (setp (s7 0 0 0 0 0 0 0) (P (gt L 0))) (U (gt L 0)) true 0 = (0, s7 0 (U (gt L 0)) 0 0 0 1 (P (gt L 0))) := by
      unfold pset phair
      simp only [if_true, Int.add_zero]
      rw [if_neg (by omega)]
      rfl
    rw [hU, d4, show (0 : Int32).toInt = 0 from rfl, ep] at hx2
    try dsimp only [jrI, jrN, jrA, jisr, jnul, jcat1]
    have g2 := G_fr g' rfl k2
    have q62 : aF h2 62 = aF h 62 := (frF k2 (by decide)).trans (frF k1 (by decide))
    simp (decide := true) only [jgI_ob, jgf_ob, jgL_ob, jpI_ob, jpL_ob, jpR_ob, jpN_ob, jrc_ob, obj_sV, obj_wF, obj_wG, obj_wR, arr_sV, arr_wF, arr_wG, arr_wR, arL_sV, arL_wF, arL_wG, arL_wR, arR_sV, arR_wF, arR_wG, arR_wR, fI_sV (c := 0), fI_sV (c := 1), fI_sV (c := 2), fI_sV (c := 4), fI_sV (c := 5), fI_sV (c := 7), fI_sV (c := 8), fI_sV (c := 9), fI_sV (c := 10), fI_sV (c := 11), fI_sV (c := 12), fI_sV (c := 6), fL_sV (c := 9), fL_sV (c := 12), fI_sV_k, fL_sV_k, fV_sV_k, fI_wF, fI_wG, fI_wR, fL_wF, fL_wG, fL_wR, fV_wF, fV_wG, fV_wR, aF_sV, aG_sV, aR_sV, aF_wG, aF_wR, aG_wF, aG_wR, aR_wF, aR_wG, kC, kM, gO g2, gF g2, ti_clamp, ek, Int.toNat_natCast, ivk, true_and, q62, d7]
    refine W (n - 1) 1 h2 _ _ _ _ _ _ (by omega) rfl (by simp) hx2 ?_ (fr_trans k1 k2) rfl (fun q => by omega)
    show BT 1 (s7 0 (U (gt L 0)) 0 0 0 1 (P (gt L 0)))
    unfold BT
    simp only [zs, zh, zu, zv, zsl, zhm, zpl, s7, true_and, and_true]
    omega
end STL
