/-! READING: the model's atoms -/
section ATM
variable {X : JX} {d : Nat} {Q : JQ} {h bh : JH} {N k K : Nat} {t : Nat → Int}
theorem c_isSign (g : G h) (mk : MKt bh h t N k) {v : Nat} (hv : 15 ≤ v) (hv2 : v ≤ 20) (H1 : tK t N k = v → Q (some (.int 1)) h) (H0 : tK t N k ≠ v → Q (some (.int 0)) h) : jex X (d + 1) 83 [.ref 81, .int (sgM v)] h Q := by
  obtain ⟨m20, m21, m19, m22, m22b, m23⟩ := mk.1
  have hq : tK t N k ≤ 20 := tkK_r _
  change fI h 81 19 = mkK (tK t N k) at m19
  change 15 ≤ tK t N k → fI h 81 22 = sgM (tK t N k) at m22b
  rw [jE_X12_isSign]
  refine jT_X12_isSign_0 ?_
  rw [jgI_ob (c := 12) (by simp only [gM g]) rfl, m19]
  by_cases c : 15 ≤ tK t N k
  · have e3 : mkK (tK t N k) = 3 := by
      unfold mkK
      rw [if_neg (by omega), if_neg (by omega), if_neg (by omega), if_neg (by omega), if_neg (by omega)]
    refine jif_t e3 ?_
    rw [jgI_ob (c := 12) (by simp only [gM g]) rfl, m22b c]
    have E : ∀ a : Nat, a < 21 → ∀ b : Nat, b < 21 → 15 ≤ a → 15 ≤ b → (sgM a = sgM b ↔ a = b) := by decide
    refine ⟨fun e => ⟨by decide, H1 ((E _ (by omega) _ (by omega) c hv).1 e)⟩, fun e => ⟨by decide, H0 (fun q => e (by rw [q]))⟩⟩
  · have e3 : mkK (tK t N k) ≠ 3 := by
      have E : ∀ a : Nat, a < 15 → mkK a ≠ 3 := by decide
      exact E _ (by omega)
    exact jif_n e3 ⟨by decide, H0 (by omega)⟩
theorem c_isWord5 (g : G h) (mk : MKt bh h t N k) (H1 : tK t N k = 8 → Q (some (.int 1)) h) (H0 : tK t N k ≠ 8 → Q (some (.int 0)) h) : jex X (d + 1) 89 [.ref 81, .int 5] h Q := by
  obtain ⟨m20, m21, m19, m22, m22b, m23⟩ := mk.1
  have hq : tK t N k ≤ 20 := tkK_r _
  change fI h 81 19 = mkK (tK t N k) at m19
  change 4 ≤ tK t N k ∧ tK t N k ≤ 14 → fI h 81 22 = kwM (tK t N k) at m22
  rw [jE_X12_isWord]
  refine jT_X12_isWord_0 ?_
  rw [jgI_ob (c := 12) (by simp only [gM g]) rfl, m19]
  by_cases c : 4 ≤ tK t N k ∧ tK t N k ≤ 14
  · have e3 : mkK (tK t N k) = 4 := by
      unfold mkK
      rw [if_neg (by omega), if_neg (by omega), if_neg (by omega), if_neg (by omega), if_pos (by omega)]
    refine jif_t e3 ?_
    rw [jgI_ob (c := 12) (by simp only [gM g]) rfl, m22 c]
    have E : ∀ a : Nat, a < 15 → 4 ≤ a → (kwM a = 5 ↔ a = 8) := by decide
    refine ⟨fun e => ⟨by decide, H1 ((E _ (by omega) c.1).1 e)⟩, fun e => ⟨by decide, H0 (fun q => e ((E _ (by omega) c.1).2 q))⟩⟩
  · have e3 : mkK (tK t N k) ≠ 4 := by
      have E : ∀ a : Nat, a < 21 → ¬ (4 ≤ a ∧ a ≤ 14) → mkK a ≠ 4 := by decide
      exact E _ (by omega) c
    exact jif_n e3 ⟨by decide, H0 (by omega)⟩
/-- kinds as the model has them -/
theorem mk_k (mk : MKt bh h t N k) : fI h 81 19 = mkK (tK t N k) ∧ (mkK (tK t N k) = 0 ↔ tK t N k = 1) ∧ (mkK (tK t N k) = 1 ↔ tK t N k = 2) ∧ (mkK (tK t N k) = 2 ↔ tK t N k = 3) ∧ (mkK (tK t N k) = 3 ↔ 15 ≤ tK t N k) ∧ (mkK (tK t N k) = 4 ↔ 4 ≤ tK t N k ∧ tK t N k ≤ 14) := by
  have hq : tK t N k ≤ 20 := tkK_r _
  have E : ∀ a : Nat, a < 21 → (mkK a = 0 ↔ a = 1) ∧ (mkK a = 1 ↔ a = 2) ∧ (mkK a = 2 ↔ a = 3) ∧ (mkK a = 3 ↔ 15 ≤ a) ∧ (mkK a = 4 ↔ 4 ≤ a ∧ a ≤ 14) := by decide
  exact ⟨mk.1.2.2.1, E _ (by omega)⟩
theorem c_numbered (g : G h) (mk : MKt bh h t N k) (h3 : tK t N k = 3) {m : Nat} (hm : m < 210) (H1 : dgs t N (tS t N k) ≠ 0 → ∀ h1, fr [100, 101] [] h h1 → aF h1 100 = upd (aF h 100) (210 + m) (nI (dgs t N (tS t N k))) → aF h1 101 = upd (aF h 101) (210 + m) (zI (dpl t N (tS t N k))) → Q (some (.int 1)) h1) (H0 : dgs t N (tS t N k) = 0 → Q (some (.int 0)) h) : jex X (d + 1) 85 [.ref 81, .int (nI (210 + m))] h Q := by
  have q3 := tK_num h3
  have hN := mk.2.2.1.2.1
  have f20 : fI h 81 20 = nI (tS t N k) := mk.1.1
  have f21 : fI h 81 21 = nI (nmE t N (tS t N k)) := by
    rw [mk.1.2.1]
    unfold tkZ
    rw [if_neg (by omega), if_neg (by rw [q3.2.1]; decide), if_pos q3.2.2.1]
  have tm := mk.2.2.1.2.2
  have hdl := dgs_lt (t := t) (N := N) (b := tS t N k)
  generalize tS t N k = b at *
  have hp : b ≤ ptE t N b := ptE_ge
  have hz : ptE t N b ≤ nmE t N b := nmE_ge
  have hze := nmE_le (t := t) (Nat.le_of_lt q3.1)
  have h46 : ∀ j, b ≤ j → j < nmE t N b → (t j = 46 ↔ j = ptE t N b) := fun j => nm_46
  have hdi : ∀ j, b ≤ j → j < nmE t N b → j ≠ ptE t N b → 48 ≤ t j ∧ t j ≤ 57 := fun j => nm_dig
  unfold dpl at H1
  have ed : dgs t N b = mdg t b (nmE t N b - b) * 10 ^ (3 - mny t b (nmE t N b - b)) := rfl
  have hl4 : nmE t N b - b ≤ 9 := by omega
  generalize ptE t N b = p at *
  generalize nmE t N b = z at *
  generalize dgs t N b = D at *
  have hml := fun n (hn : b + n ≤ z) => mdg_lt (t := t) (b := b) n (fun i hi ne => hdi _ (by omega) (by omega) (fun e => ne ((h46 _ (by omega) (by omega)).2 e)))
  -- the end: zeros behind, then the writing
  have W : ∀ (r j v : Nat) (a6 : Int32) (o3 o5 o7 : Option Value) (c s : Nat), (j + r = 3 ∨ (3 ≤ j ∧ r = 0)) → j ≤ 9 → v * 10 ^ (3 - j) = D → D ≠ 0 → nI (p - b) - a6 = zI (plc t b p (z - b)) → jB_X12_numbered_143 X d Q 81 (nI (210 + m)) (nI (p - b)) o3 (nI v) o5 a6 o7 (nI j) h c s := by
    intro r
    induction r with
    | zero =>
      intro j v a6 o3 o5 o7 c s hj hj9 e1 e2 e3
      have hj3 : 3 ≤ j := by omega
      rw [show 3 - j = 0 by omega, Nat.pow_zero, Nat.mul_one] at e1
      have nlt : ¬ nI j < 3 :=
         nI_nlt (b := 3) hj3 (by omega)
      have iv : vp_in (nI (210 + m)) 420 := by rw [vp_inI, nI_toInt (by omega)]; omega
      have ic : (nI (210 + m)).toNatClampNeg = 210 + m := nI_clamp (by omega)
      refine jT_X12_numbered_143 (jif_n nlt ?_)
      simp (decide := true) only [jgI_ob, jgf_ob, jgL_ob, jpI_ob, jpL_ob, jpR_ob, jpN_ob, jrc_ob, obj_sV, obj_wF, obj_wG, obj_wR, arr_sV, arr_wF, arr_wG, arr_wR, arL_sV, arL_wF, arL_wG, arL_wR, arR_sV, arR_wF, arR_wG, arR_wR, fI_sV (c := 0), fI_sV (c := 1), fI_sV (c := 2), fI_sV (c := 4), fI_sV (c := 5), fI_sV (c := 7), fI_sV (c := 8), fI_sV (c := 9), fI_sV (c := 10), fI_sV (c := 11), fI_sV (c := 12), fI_sV (c := 6), fL_sV (c := 9), fL_sV (c := 12), fI_sV_k, fL_sV_k, fV_sV_k, fI_wF, fI_wG, fI_wR, fL_wF, fL_wG, fL_wR, fV_wF, fV_wG, fV_wR, aF_sV, aG_sV, aR_sV, aF_wG, aF_wR, aG_wF, aG_wR, aR_wF, aR_wG, kC, kM, gM g, gN g, iv, ic, true_and, e3, aF_wF_ne]
      refine H1 e2 _ (fr_wF (by decide) (fr_wF (by decide) fr_rfl)) ?_ ?_
      · simp (decide := true) only [jgI_ob, jgf_ob, jgL_ob, jpI_ob, jpL_ob, jpR_ob, jpN_ob, jrc_ob, obj_sV, obj_wF, obj_wG, obj_wR, arr_sV, arr_wF, arr_wG, arr_wR, arL_sV, arL_wF, arL_wG, arL_wR, arR_sV, arR_wF, arR_wG, arR_wR, fI_sV (c := 0), fI_sV (c := 1), fI_sV (c := 2), fI_sV (c := 4), fI_sV (c := 5), fI_sV (c := 7), fI_sV (c := 8), fI_sV (c := 9), fI_sV (c := 10), fI_sV (c := 11), fI_sV (c := 12), fI_sV (c := 6), fL_sV (c := 9), fL_sV (c := 12), fI_sV_k, fL_sV_k, fV_sV_k, fI_wF, fI_wG, fI_wR, fL_wF, fL_wG, fL_wR, fV_wF, fV_wG, fV_wR, aF_sV, aG_sV, aR_sV, aF_wG, aF_wR, aG_wF, aG_wR, aR_wF, aR_wG, kC, kM, gM g, aF_wF_ne]
        rw [e1]
      · simp (decide := true) only [jgI_ob, jgf_ob, jgL_ob, jpI_ob, jpL_ob, jpR_ob, jpN_ob, jrc_ob, obj_sV, obj_wF, obj_wG, obj_wR, arr_sV, arr_wF, arr_wG, arr_wR, arL_sV, arL_wF, arL_wG, arL_wR, arR_sV, arR_wF, arR_wG, arR_wR, fI_sV (c := 0), fI_sV (c := 1), fI_sV (c := 2), fI_sV (c := 4), fI_sV (c := 5), fI_sV (c := 7), fI_sV (c := 8), fI_sV (c := 9), fI_sV (c := 10), fI_sV (c := 11), fI_sV (c := 12), fI_sV (c := 6), fL_sV (c := 9), fL_sV (c := 12), fI_sV_k, fL_sV_k, fV_sV_k, fI_wF, fI_wG, fI_wR, fL_wF, fL_wG, fL_wR, fV_wF, fV_wG, fV_wR, aF_sV, aG_sV, aR_sV, aF_wG, aF_wR, aG_wF, aG_wR, aR_wF, aR_wG, kC, kM, gM g, aF_wF_ne]
    | succ r ih =>
      intro j v a6 o3 o5 o7 c s hj hj9 e1 e2 e3
      refine jT_X12_numbered_143 (jif_t (nI_lt (b := 3) (by omega) (by omega)) ?_)
      rw [nI_1, show 10 * nI v = nI (10 * v) from pk_mul 10 v]
      refine ih (j + 1) (10 * v) a6 _ _ _ _ _ (by omega) (by omega) ?_ e2 e3
      rw [show 3 - j = (3 - (j + 1)) + 1 by omega, Nat.pow_succ] at e1
      rw [← e1, Nat.mul_comm 10 v, Nat.mul_assoc, Nat.mul_comm 10]
  have L : ∀ (r n : Nat) (a6 : Int32) (c s : Nat), b + n + r = z → (mny t b n = 0 → a6 = 0) → (0 < mny t b n → a6 = zI ((p : Int) - b - plc t b p n)) → mny t b n ≤ n → jB_X12_numbered_22 X d Q 81 (nI (210 + m)) (nI (min n (p - b))) (bi (decide (p < b + n))) (nI (mdg t b n)) (nI (mny t b n)) a6 (nI (n - (if p < b + n then 1 else 0))) (nI (b + n)) h c s := by
    intro r
    induction r with
    | zero =>
      intro n a6 c s hn ha0 ha1 h9
      have q := num_end (t := t) (b := b) (p := p) (n := n) (L := z - b) (by omega) (Or.inl (by omega))
      refine jT_X12_numbered_22 ?_
      rw [jgI_ob (c := 12) (by simp only [gM g]) rfl, f21]
      refine jif_n (nI_nlt (by omega) (by omega)) ?_
      rw [show min n (p - b) = p - b by omega]
      refine ⟨fun c0 => ⟨by decide, H0 ?_⟩, fun c0 => ?_⟩
      · have c0 := (nI_eq (b := 0) (by omega) (by omega)).1 c0
        rw [show n = z - b by omega] at c0
        exact hdl.2.2 c0
      · have c0 : 0 < mny t b n := by
          rcases Nat.eq_zero_or_pos (mny t b n) with w | w
          · exact absurd (by rw [w]; rfl) c0
          · exact w
        have c1 := c0
        rw [show n = z - b by omega] at c1
        have D1 := hdl.2.1 c1
        have e6 := ha1 c0
        refine W (3 - mny t b n) (mny t b n) (mdg t b n) a6 _ _ _ _ _ (by omega) (by omega) (by rw [ed, ← q.1]) (by omega) ?_
        rw [← q.2]
        have pr := plc_r (t := t) (b := b) (p := p) hp (by omega) n (by omega)
        refine zI_of ?_
        have e6' : a6.toInt = (p : Int) - b - plc t b p n := by rw [e6, zt (by omega) (by omega)]
        have ep : (nI (p - b)).toInt = (p - b : Nat) := nI_toInt (by omega)
        exact (by simp only [Int32.toInt_add, Int32.toInt_sub, Int32.toInt_mul, Int32.toInt_neg, Int.bmod_def, tl, t4]; omega)
    | succ r ih =>
      intro n a6 c s hn ha0 ha1 h9
      have hm1 := hml n (by omega)
      have tn := tm (b + n) (by omega)
      have iv : vp_in (nI (b + n)) 2000 := by rw [vp_inI, nI_toInt (by omega)]; omega
      have ic : (nI (b + n)).toNatClampNeg = b + n := nI_clamp (by omega)
      have hn9 : n < 9 := by omega
      refine jT_X12_numbered_22 ?_
      simp (decide := true) only [jgI_ob, jgf_ob, jgL_ob, jpI_ob, jpL_ob, jpR_ob, jpN_ob, jrc_ob, obj_sV, obj_wF, obj_wG, obj_wR, arr_sV, arr_wF, arr_wG, arr_wR, arL_sV, arL_wF, arL_wG, arL_wR, arR_sV, arR_wF, arR_wG, arR_wR, fI_sV (c := 0), fI_sV (c := 1), fI_sV (c := 2), fI_sV (c := 4), fI_sV (c := 5), fI_sV (c := 7), fI_sV (c := 8), fI_sV (c := 9), fI_sV (c := 10), fI_sV (c := 11), fI_sV (c := 12), fI_sV (c := 6), fL_sV (c := 9), fL_sV (c := 12), fI_sV_k, fL_sV_k, fV_sV_k, fI_wF, fI_wG, fI_wR, fL_wF, fL_wG, fL_wR, fV_wF, fV_wG, fV_wR, aF_sV, aG_sV, aR_sV, aF_wG, aF_wR, aG_wF, aG_wR, aR_wF, aR_wG, kC, kM, gM g, gN g, iv, ic, true_and, f21]
      refine jif_t (nI_lt (by omega) (by omega)) ?_
      have e46 : aF h 82 (b + n) = 46 ↔ t (b + n) = 46 := by
        rw [ti_eq, tn.2.2]
        exact sg_c tn.1 tn.2.1 (by decide) (by decide)
      have e48 : aF h 82 (b + n) = 48 ↔ t (b + n) = 48 := by
        rw [ti_eq, tn.2.2]
        exact sg_c tn.1 tn.2.1 (by decide) (by decide)
      refine ⟨fun c46 => ?_, fun c46 => ?_⟩
      · have c46 := e46.1 c46
        have cp := (h46 _ (by omega) (by omega)).1 c46
        obtain ⟨n1, n2, n3⟩ := nu_p (p := p) c46
        have w := ih (n + 1) a6 c s (by omega) (by rw [n1]; exact ha0) (by rw [n1, n3]; exact ha1) (by omega)
        rw [n1, n2, show min (n + 1) (p - b) = min n (p - b) by omega, if_pos (show p < b + (n + 1) by omega), decide_eq_true (show p < b + (n + 1) by omega)] at w
        rw [if_neg (show ¬ p < b + n by omega), nI_1]
        exact w
      · have c46 : t (b + n) ≠ 46 := fun q => c46 (e46.2 q)
        have cp : b + n ≠ p := fun q => c46 ((h46 _ (by omega) (by omega)).2 q)
        have dg := hdi (b + n) (by omega) (by omega) cp
        have ex : (aF h 82 (b + n)).toInt = t (b + n) := by
          rw [tn.2.2]
          unfold sg
          rw [if_pos (by omega)]
        -- what stands behind the count of places
        have V : ∀ (s0 : Int32), nI (min n (p - b)) + s0 = nI (min (n + 1) (p - b)) → jB_X12_numbered_58 X d Q 81 (nI (210 + m)) (some (.int (nI (min n (p - b))))) (bi (decide (p < b + n))) (nI (mdg t b n)) (nI (mny t b n)) a6 (nI (n - (if p < b + n then 1 else 0))) (nI (b + n)) s0 (nI (min n (p - b))) h c s := by
          intro s0 es
          have esh : nI (n - (if p < b + n then 1 else 0)) + 1 = nI (n + 1 - (if p < b + (n + 1) then 1 else 0)) := by
            rw [nI_1]
            congr 1
            by_cases q : p < b + n
            · rw [if_pos q, if_pos (by omega)]; omega
            · rw [if_neg q, if_neg (by omega)]; omega
          have ebe : decide (p < b + n) = decide (p < b + (n + 1)) := by
            by_cases q : p < b + n
            · rw [decide_eq_true q, decide_eq_true (by omega)]
            · rw [decide_eq_false q, decide_eq_false (by omega)]
          have edg : mny t b n < 3 → 10 * nI (mdg t b n) + aF h 82 (b + n) - 48 = nI (10 * mdg t b n + (t (b + n) - 48).toNat) := by
            intro c3
            have hmd : mdg t b n < 100 := by
              have := hm1.1
              rcases (show mny t b n = 0 ∨ mny t b n = 1 ∨ mny t b n = 2 by omega) with q | q | q <;> rw [q] at this <;> simp at this <;> omega
            rw [show 10 * nI (mdg t b n) = nI (10 * mdg t b n) from pk_mul 10 _]
            have e1 : (nI (10 * mdg t b n)).toInt = (10 * mdg t b n : Nat) := nI_toInt (by omega)
            generalize nI (10 * mdg t b n) = y at *
            have e2 : (y + aF h 82 (b + n)).toInt = 10 * (mdg t b n : Int) + t (b + n) := (by simp only [Int32.toInt_add, Int32.toInt_sub, Int32.toInt_mul, Int32.toInt_neg, Int.bmod_def, tl, t4]; omega)
            generalize y + aF h 82 (b + n) = y2 at *
            have e3 : (y2 - 48).toInt = 10 * (mdg t b n : Int) + t (b + n) - 48 := (by simp only [Int32.toInt_add, Int32.toInt_sub, Int32.toInt_mul, Int32.toInt_neg, Int.bmod_def, tl, t4]; omega)
            rw [ti_eq, e3, nI_toInt (by omega)]
            omega
          refine jT_X12_numbered_58 ?_
          simp (decide := true) only [jgI_ob, jgf_ob, jgL_ob, jpI_ob, jpL_ob, jpR_ob, jpN_ob, jrc_ob, obj_sV, obj_wF, obj_wG, obj_wR, arr_sV, arr_wF, arr_wG, arr_wR, arL_sV, arL_wF, arL_wG, arL_wR, arR_sV, arR_wF, arR_wG, arR_wR, fI_sV (c := 0), fI_sV (c := 1), fI_sV (c := 2), fI_sV (c := 4), fI_sV (c := 5), fI_sV (c := 7), fI_sV (c := 8), fI_sV (c := 9), fI_sV (c := 10), fI_sV (c := 11), fI_sV (c := 12), fI_sV (c := 6), fL_sV (c := 9), fL_sV (c := 12), fI_sV_k, fL_sV_k, fV_sV_k, fI_wF, fI_wG, fI_wR, fL_wF, fL_wG, fL_wR, fV_wF, fV_wG, fV_wR, aF_sV, aG_sV, aR_sV, aF_wG, aF_wR, aG_wF, aG_wR, aR_wF, aR_wG, kC, kM, gM g, gN g, iv, ic, true_and]
          rw [es, esh, ebe, nI_1, nI_1]
          by_cases c0 : 0 < mny t b n
          · have a1 := ha1 c0
            refine jif_t (nI_lt (a := 0) c0 (by omega)) (jif_n (nI_ne0 c0 (by omega)) ?_)
            refine ⟨fun c3 => ?_, fun c3 => ?_⟩
            · have c3 := (nI_ltI (b := 3) (by omega) (by omega)).1 c3
              obtain ⟨n1, n2, n3⟩ := nu_c (p := p) c46 c0 c3
              rw [edg c3, ← n1, ← n2]
              exact ih (n + 1) a6 c s (by omega) (fun q => by omega) (fun _ => by rw [n3]; exact a1) (by omega)
            · have c3 : 3 ≤ mny t b n := by
                rcases Nat.lt_or_ge (mny t b n) 3 with q | q
                · exact absurd (nI_lt (b := 3) q (by omega)) c3
                · exact q
              obtain ⟨n1, n2, n3⟩ := nu_l (p := p) c46 c3
              rw [← n1, ← n2]
              exact ih (n + 1) a6 c s (by omega) (fun q => by omega) (fun _ => by rw [n3]; exact a1) (by omega)
          · have c00 : mny t b n = 0 := by omega
            refine jif_n (nI_nlt (a := 0) (by omega) (by omega)) ?_
            refine ⟨fun c48 => ?_, fun c48 => ?_⟩
            · have c48 := e48.1 c48
              obtain ⟨n1, n2, n3⟩ := nu_z (p := p) c00 c48
              have w := ih (n + 1) a6 c s (by omega) (fun _ => ha0 c00) (fun q => by omega) (by omega)
              rw [n1, n2] at w
              rw [c00]
              exact w
            · have c48 : t (b + n) ≠ 48 := fun q => c48 (e48.2 q)
              obtain ⟨n1, n2, n3⟩ := nu_f (p := p) c46 c00 c48
              refine jif_t (by rw [c00]; rfl) (jif_t (nI_lt (b := 3) (by omega) (by omega)) ?_)
              rw [edg (by omega), c00, show nI (0 + 1) = nI (mny t b (n + 1)) by rw [n1], ← n2]
              refine ih (n + 1) _ c s (by omega) (fun q => by omega) (fun _ => ?_) (by omega)
              rw [n3]
              refine zI_of ?_
              rw [nI_toInt (by omega)]
              by_cases q : p < b + n
              · rw [if_pos (by omega), if_neg (by omega)]; omega
              · rw [if_neg (by omega), if_pos (by omega)]; omega
        by_cases q : p < b + n
        · rw [decide_eq_true q] at V ⊢
          refine jif_n (by decide) (V 0 ?_)
          rw [show nI (min n (p - b)) + 0 = nI (min n (p - b)) from nI_add _ 0]
          congr 1
          omega
        · rw [decide_eq_false q] at V ⊢
          refine jif_t rfl (V 1 ?_)
          rw [nI_1]
          congr 1
          omega
  rw [jE_X12_numbered]
  refine jT_X12_numbered_0 ?_
  rw [jgI_ob (c := 12) (by simp only [gM g]) rfl, f20]
  have w := L (z - b) 0 0 0 0 (by omega) (fun _ => rfl) (fun q => absurd q (Nat.lt_irrefl 0)) (Nat.zero_le _)
  rw [show min 0 (p - b) = 0 by omega, if_neg (show ¬ p < b + 0 by omega), decide_eq_false (show ¬ p < b + 0 by omega)] at w
  exact w
end ATM
