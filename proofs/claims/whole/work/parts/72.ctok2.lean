/-! TOKENS: the class's numbers -/
section NUMP
variable {t : Nat → Int} {b p n : Nat}
theorem nu_p (e : t (b + n) = 46) : mny t b (n + 1) = mny t b n ∧ mdg t b (n + 1) = mdg t b n ∧ plc t b p (n + 1) = plc t b p n := ⟨if_pos e, if_pos e, if_pos e⟩
theorem nu_c (e : t (b + n) ≠ 46) (h0 : 0 < mny t b n) (h3 : mny t b n < 3) : mny t b (n + 1) = mny t b n + 1 ∧ mdg t b (n + 1) = 10 * mdg t b n + (t (b + n) - 48).toNat ∧ plc t b p (n + 1) = plc t b p n :=
  ⟨(if_neg e).trans (if_pos (Or.inl h0)), (if_neg e).trans (if_pos ⟨Or.inl h0, h3⟩), (if_neg e).trans (if_neg (by omega))⟩
theorem nu_l (e : t (b + n) ≠ 46) (h3 : 3 ≤ mny t b n) : mny t b (n + 1) = mny t b n + 1 ∧ mdg t b (n + 1) = mdg t b n ∧ plc t b p (n + 1) = plc t b p n :=
  ⟨(if_neg e).trans (if_pos (Or.inl (by omega))), (if_neg e).trans (if_neg (by omega)), (if_neg e).trans (if_neg (by omega))⟩
theorem nu_f (e : t (b + n) ≠ 46) (h0 : mny t b n = 0) (h48 : t (b + n) ≠ 48) : mny t b (n + 1) = 1 ∧ mdg t b (n + 1) = 10 * mdg t b n + (t (b + n) - 48).toNat ∧ plc t b p (n + 1) = (if b + n < p then (p : Int) - 1 - (b + n : Nat) else (p : Int) - (b + n : Nat)) :=
  ⟨((if_neg e).trans (if_pos (Or.inr h48))).trans (by rw [h0]), (if_neg e).trans (if_pos ⟨Or.inr h48, by omega⟩), (if_neg e).trans (if_pos ⟨h0, h48⟩)⟩
theorem nu_z (h0 : mny t b n = 0) (h48 : t (b + n) = 48) : mny t b (n + 1) = 0 ∧ mdg t b (n + 1) = mdg t b n ∧ plc t b p (n + 1) = plc t b p n :=
  ⟨(if_neg (by omega)).trans (if_neg (by omega)), (if_neg (by omega)).trans (if_neg (by omega)), (if_neg (by omega)).trans (if_neg (by omega))⟩
theorem plc_r (hb : b ≤ p) (h4 : p ≤ 3000) : ∀ n, b + n ≤ 3000 → -3000 ≤ plc t b p n ∧ plc t b p n ≤ 3000
  | 0, _ => by show -3000 ≤ (0 : Int) ∧ (0 : Int) ≤ 3000; omega
  | n + 1, h => by
    have := plc_r hb h4 n (by omega)
    have e : plc t b p (n + 1) = (if t (b + n) = 46 then plc t b p n else if mny t b n = 0 ∧ t (b + n) ≠ 48 then (if b + n < p then (p : Int) - 1 - (b + n : Nat) else (p : Int) - (b + n : Nat)) else plc t b p n) := rfl
    rw [e]
    split
    · exact this
    · split
      · split <;> omega
      · exact this
theorem num_end {L : Nat} (hn : n ≤ L) (c : n = L ∨ 3 ≤ mny t b n) : mdg t b n * 10 ^ (3 - mny t b n) = mdg t b L * 10 ^ (3 - mny t b L) ∧ plc t b p n = plc t b p L := by
  rcases c with c | c
  · rw [c]; exact ⟨rfl, rfl⟩
  · have q := num_stable (p := p) c (L - n)
    rw [show n + (L - n) = L by omega] at q
    rw [q.2.1, q.2.2, show 3 - mny t b n = 0 by omega, show 3 - mny t b L = 0 by omega]
    exact ⟨rfl, rfl⟩
end NUMP
theorem dgs_lt {t : Nat → Int} {N b : Nat} : dgs t N b < 1000 ∧ (0 < mny t b (nmE t N b - b) → 100 ≤ dgs t N b) ∧ (mny t b (nmE t N b - b) = 0 → dgs t N b = 0) := by
  have q := mdg_lt (t := t) (b := b) (nmE t N b - b) (fun i hi ne => nm_dig (N := N) (b := b) (by omega) (by omega) (fun e => ne (by rw [e]; exact nm_pt (N := N) (b := b) (by omega))))
  unfold dgs
  generalize mdg t b (nmE t N b - b) = a at *
  generalize mny t b (nmE t N b - b) = m at *
  rcases (show m = 0 ∨ m = 1 ∨ m = 2 ∨ 3 ≤ m by omega) with e | e | e | e
  · subst e; simp at q ⊢; omega
  · subst e; simp at q ⊢; omega
  · subst e; simp at q ⊢; omega
  · rw [show min m 3 = 3 by omega] at q
    rw [show 3 - m = 0 by omega]
    simp at q ⊢
    omega
section CTK2
variable {X : JX} {d : Nat} {Q : JQ} {h : JH} {N : Nat}
theorem c_readDigits (g : G h) (tb : TB h N) {b : Nat} (h4 : fI h 7 4 = nI b) (hb : b ≤ N) (H : ∀ h1, fr [] [(7, 6), (7, 7)] h h1 → fI h1 7 6 = nI (dgs (bt h) N b) → fI h1 7 7 = zI (dpl (bt h) N b) → Q none h1) : jex X (d + 2) 48 [.ref 7, .int (nI (ptE (bt h) N b)), .int (nI (nmE (bt h) N b))] h Q := by
  have hN := tb.2.1
  have hpe : ptE (bt h) N b ≤ N := tkE_le hb
  have hp : b ≤ ptE (bt h) N b := ptE_ge
  have hz : ptE (bt h) N b ≤ nmE (bt h) N b := nmE_ge
  have hze := nmE_le (t := bt h) hb
  have hdg := dgs_lt (t := bt h) (N := N) (b := b)
  have h46 : ∀ j, b ≤ j → j < nmE (bt h) N b → (bt h j = 46 ↔ j = ptE (bt h) N b) := fun j => nm_46
  have hdi : ∀ j, b ≤ j → j < nmE (bt h) N b → j ≠ ptE (bt h) N b → 48 ≤ bt h j ∧ bt h j ≤ 57 := fun j => nm_dig
  unfold dpl dgs at H
  unfold dgs at hdg
  generalize ptE (bt h) N b = p at *
  generalize nmE (bt h) N b = z at *
  have hml := fun n (hn : b + n ≤ z) => mdg_lt (t := bt h) (b := b) n (fun i hi ne => hdi _ (by omega) (by omega) (fun e => ne ((h46 _ (by omega) (by omega)).2 e)))
  have W : ∀ (r j v : Nat) (h1 : JH) (o1 o2 o3 o5 : Option Value) (c s : Nat), j + r = 3 → fr [] [(7, 6), (7, 7)] h h1 → fI h1 7 6 = nI v → v * 10 ^ (3 - j) = mdg (bt h) b (z - b) * 10 ^ (3 - mny (bt h) b (z - b)) → fI h1 7 7 = zI (plc (bt h) b p (z - b)) → jB_X9_readDigits_108 X (d + 1) Q 7 o1 o2 o3 (nI j) o5 h1 c s := by
    intro r
    induction r with
    | zero =>
      intro j v h1 o1 o2 o3 o5 c s hj k e1 e2 e3
      refine jT_X9_readDigits_108 (jif_n (nI_nlt (a := j) (b := 3) (by omega) (by omega)) ?_)
      rw [show 3 - j = 0 by omega, Nat.pow_zero, Nat.mul_one] at e2
      rw [e2] at e1
      exact H h1 k e1 e3
    | succ r ih =>
      intro j v h1 o1 o2 o3 o5 c s hj k e1 e2 e3
      have g1 := G_fr g rfl k
      refine jT_X9_readDigits_108 (jif_t (nI_lt (b := 3) (by omega) (by omega)) ?_)
      simp (decide := true) only [jgI_ob, jgf_ob, jgL_ob, jpI_ob, jpL_ob, jpR_ob, jpN_ob, jrc_ob, obj_sV, obj_wF, obj_wG, obj_wR, arr_sV, arr_wF, arr_wG, arr_wR, arL_sV, arL_wF, arL_wG, arL_wR, arR_sV, arR_wF, arR_wG, arR_wR, fI_sV (c := 0), fI_sV (c := 1), fI_sV (c := 2), fI_sV (c := 4), fI_sV (c := 5), fI_sV (c := 7), fI_sV (c := 8), fI_sV (c := 9), fI_sV (c := 10), fI_sV (c := 11), fI_sV (c := 12), fI_sV (c := 6), fL_sV (c := 9), fL_sV (c := 12), fI_sV_k, fL_sV_k, fV_sV_k, fI_wF, fI_wG, fI_wR, fL_wF, fL_wG, fL_wR, fV_wF, fV_wG, fV_wR, aF_sV, aG_sV, aR_sV, aF_wG, aF_wR, aG_wF, aG_wR, aR_wF, aR_wG, gO g1, e1]
      rw [nI_1, show nI v * 10 = nI (v * 10) from pk_mul v 10]
      refine ih (j + 1) (v * 10) _ _ _ _ _ _ _ (by omega) (fr_sV (by decide) k) ?_ ?_ ?_
      · simp (decide := true) only [jgI_ob, jgf_ob, jgL_ob, jpI_ob, jpL_ob, jpR_ob, jpN_ob, jrc_ob, obj_sV, obj_wF, obj_wG, obj_wR, arr_sV, arr_wF, arr_wG, arr_wR, arL_sV, arL_wF, arL_wG, arL_wR, arR_sV, arR_wF, arR_wG, arR_wR, fI_sV (c := 0), fI_sV (c := 1), fI_sV (c := 2), fI_sV (c := 4), fI_sV (c := 5), fI_sV (c := 7), fI_sV (c := 8), fI_sV (c := 9), fI_sV (c := 10), fI_sV (c := 11), fI_sV (c := 12), fI_sV (c := 6), fL_sV (c := 9), fL_sV (c := 12), fI_sV_k, fL_sV_k, fV_sV_k, fI_wF, fI_wG, fI_wR, fL_wF, fL_wG, fL_wR, fV_wF, fV_wG, fV_wR, aF_sV, aG_sV, aR_sV, aF_wG, aF_wR, aG_wF, aG_wR, aR_wF, aR_wG, gO g1]
      · rw [show 3 - j = (3 - (j + 1)) + 1 by omega, Nat.pow_succ] at e2
        rw [← e2, Nat.mul_assoc, Nat.mul_comm 10]
      · simp (decide := true) only [jgI_ob, jgf_ob, jgL_ob, jpI_ob, jpL_ob, jpR_ob, jpN_ob, jrc_ob, obj_sV, obj_wF, obj_wG, obj_wR, arr_sV, arr_wF, arr_wG, arr_wR, arL_sV, arL_wF, arL_wG, arL_wR, arR_sV, arR_wF, arR_wG, arR_wR, fI_sV (c := 0), fI_sV (c := 1), fI_sV (c := 2), fI_sV (c := 4), fI_sV (c := 5), fI_sV (c := 7), fI_sV (c := 8), fI_sV (c := 9), fI_sV (c := 10), fI_sV (c := 11), fI_sV (c := 12), fI_sV (c := 6), fL_sV (c := 9), fL_sV (c := 12), fI_sV_k, fL_sV_k, fV_sV_k, fI_wF, fI_wG, fI_wR, fL_wF, fL_wG, fL_wR, fV_wF, fV_wG, fV_wR, aF_sV, aG_sV, aR_sV, aF_wG, aF_wR, aG_wF, aG_wR, aR_wF, aR_wG, gO g1, e3]
  have L : ∀ (r n : Nat) (h1 : JH) (o5 : Option Value) (c s : Nat), b + n + r = z → fr [] [(7, 6), (7, 7)] h h1 → mny (bt h) b n ≤ 3 → fI h1 7 6 = nI (mdg (bt h) b n) → fI h1 7 7 = zI (plc (bt h) b p n) → jB_X9_readDigits_18 X (d + 1) Q 7 (nI p) (nI z) (nI (mny (bt h) b n)) (nI (b + n)) o5 h1 c s := by
    intro r
    induction r with
    | zero =>
      intro n h1 o5 c s hn k e0 e1 e2
      refine jT_X9_readDigits_18 (jif_n (nI_nlt (by omega) (by omega)) ?_)
      have q := num_end (t := bt h) (b := b) (p := p) (n := n) (L := z - b) (by omega) (Or.inl (by omega))
      rw [q.2] at e2
      exact W (3 - mny (bt h) b n) (mny (bt h) b n) _ _ _ _ _ _ _ _ (by omega) k e1 q.1 e2
    | succ r ih =>
      intro n h1 o5 c s hn k e0 e1 e2
      have g1 := G_fr g rfl k
      obtain ⟨tb1, eb⟩ := TB_fr tb k (by decide) (by decide)
      have hm := hml n (by omega)
      refine jT_X9_readDigits_18 (jif_t (nI_lt (by omega) (by omega)) ?_)
      by_cases c3 : mny (bt h) b n < 3
      case neg =>
        refine jif_n (nI_nlt (a := mny (bt h) b n) (b := 3) (by omega) (by omega)) ?_
        have q := num_end (t := bt h) (b := b) (p := p) (n := n) (L := z - b) (by omega) (Or.inr (by omega))
        rw [q.2] at e2
        exact W (3 - mny (bt h) b n) (mny (bt h) b n) _ _ _ _ _ _ _ _ (by omega) k e1 q.1 e2
      case pos =>
        refine jif_t (nI_lt (b := 3) c3 (by omega)) ?_
        rw [jrc_ob (by simp only [gO g1])]
        refine c_byteAt g1 tb1 (by omega) (fun x hx => ?_)
        rw [eb, byO_t (by omega)] at hx
        try dsimp only [jrI, jrN, jrA, jisr, jnul, jcat1]
        by_cases cp : b + n = p
        · have e46 := (h46 (b + n) (by omega) (by omega)).2 cp
          obtain ⟨n1, n2, n3⟩ := nu_p (p := p) e46
          refine jif_t (by rw [cp]) ?_
          rw [nI_1, ← n1]
          exact ih (n + 1) _ _ _ _ (by omega) k (by rw [n1]; exact e0) (by rw [n2]; exact e1) (by rw [n3]; exact e2)
        · have n46 : bt h (b + n) ≠ 46 := fun q => cp ((h46 _ (by omega) (by omega)).1 q)
          have dg := hdi (b + n) (by omega) (by omega) cp
          have ex48 : (x - 48).toInt = bt h (b + n) - 48 := (by simp only [Int32.toInt_add, Int32.toInt_sub, Int32.toInt_mul, Int32.toInt_neg, Int.bmod_def, tl, t4]; omega)
          refine jif_n (fun q => cp ((nI_eq (by omega) (by omega)).1 q)) ?_
          have hmd : mdg (bt h) b n < 100 := by
            have := hm.1
            rcases (show mny (bt h) b n = 0 ∨ mny (bt h) b n = 1 ∨ mny (bt h) b n = 2 by omega) with q | q | q <;> rw [q] at this <;> simp at this <;> omega
          have edg : nI (mdg (bt h) b n) * 10 + (x - 48) = nI (10 * mdg (bt h) b n + (bt h (b + n) - 48).toNat) := by
            rw [show x - 48 = nI (bt h (b + n) - 48).toNat by rw [ti_eq, ex48, nI_toInt (by omega)]; omega, show nI (mdg (bt h) b n) * 10 = nI (mdg (bt h) b n * 10) from pk_mul _ 10, nI_add, Nat.mul_comm]
          by_cases c0 : 0 < mny (bt h) b n
          · obtain ⟨n1, n2, n3⟩ := nu_c (p := p) n46 c0 c3
            refine jif_t (nI_lt (a := 0) c0 (by omega)) (jif_n (nI_ne0 c0 (by omega)) ?_)
            simp (decide := true) only [jgI_ob, jgf_ob, jgL_ob, jpI_ob, jpL_ob, jpR_ob, jpN_ob, jrc_ob, obj_sV, obj_wF, obj_wG, obj_wR, arr_sV, arr_wF, arr_wG, arr_wR, arL_sV, arL_wF, arL_wG, arL_wR, arR_sV, arR_wF, arR_wG, arR_wR, fI_sV (c := 0), fI_sV (c := 1), fI_sV (c := 2), fI_sV (c := 4), fI_sV (c := 5), fI_sV (c := 7), fI_sV (c := 8), fI_sV (c := 9), fI_sV (c := 10), fI_sV (c := 11), fI_sV (c := 12), fI_sV (c := 6), fL_sV (c := 9), fL_sV (c := 12), fI_sV_k, fL_sV_k, fV_sV_k, fI_wF, fI_wG, fI_wR, fL_wF, fL_wG, fL_wR, fV_wF, fV_wG, fV_wR, aF_sV, aG_sV, aR_sV, aF_wG, aF_wR, aG_wF, aG_wR, aR_wF, aR_wG, gO g1, e1, edg]
            rw [nI_1, nI_1, ← n1]
            refine ih (n + 1) _ _ _ _ (by omega) (fr_sV (by decide) k) (by omega) ?_ ?_
            · simp (decide := true) only [jgI_ob, jgf_ob, jgL_ob, jpI_ob, jpL_ob, jpR_ob, jpN_ob, jrc_ob, obj_sV, obj_wF, obj_wG, obj_wR, arr_sV, arr_wF, arr_wG, arr_wR, arL_sV, arL_wF, arL_wG, arL_wR, arR_sV, arR_wF, arR_wG, arR_wR, fI_sV (c := 0), fI_sV (c := 1), fI_sV (c := 2), fI_sV (c := 4), fI_sV (c := 5), fI_sV (c := 7), fI_sV (c := 8), fI_sV (c := 9), fI_sV (c := 10), fI_sV (c := 11), fI_sV (c := 12), fI_sV (c := 6), fL_sV (c := 9), fL_sV (c := 12), fI_sV_k, fL_sV_k, fV_sV_k, fI_wF, fI_wG, fI_wR, fL_wF, fL_wG, fL_wR, fV_wF, fV_wG, fV_wR, aF_sV, aG_sV, aR_sV, aF_wG, aF_wR, aG_wF, aG_wR, aR_wF, aR_wG, gO g1, n2]
            · simp (decide := true) only [jgI_ob, jgf_ob, jgL_ob, jpI_ob, jpL_ob, jpR_ob, jpN_ob, jrc_ob, obj_sV, obj_wF, obj_wG, obj_wR, arr_sV, arr_wF, arr_wG, arr_wR, arL_sV, arL_wF, arL_wG, arL_wR, arR_sV, arR_wF, arR_wG, arR_wR, fI_sV (c := 0), fI_sV (c := 1), fI_sV (c := 2), fI_sV (c := 4), fI_sV (c := 5), fI_sV (c := 7), fI_sV (c := 8), fI_sV (c := 9), fI_sV (c := 10), fI_sV (c := 11), fI_sV (c := 12), fI_sV (c := 6), fL_sV (c := 9), fL_sV (c := 12), fI_sV_k, fL_sV_k, fV_sV_k, fI_wF, fI_wG, fI_wR, fL_wF, fL_wG, fL_wR, fV_wF, fV_wG, fV_wR, aF_sV, aG_sV, aR_sV, aF_wG, aF_wR, aG_wF, aG_wR, aR_wF, aR_wG, gO g1, n3, e2]
          · have c00 : mny (bt h) b n = 0 := by omega
            refine jif_n (nI_nlt (a := 0) (by omega) (by omega)) ?_
            by_cases c48 : bt h (b + n) = 48
            · obtain ⟨n1, n2, n3⟩ := nu_z (p := p) c00 c48
              refine jif_n (by rw [ti_lt, ex48, tl.1]; omega) ?_
              rw [nI_1, c00, ← n1]
              exact ih (n + 1) _ _ _ _ (by omega) k (by omega) (by rw [n2]; exact e1) (by rw [n3]; exact e2)
            · obtain ⟨n1, n2, n3⟩ := nu_f (p := p) n46 c00 c48
              refine jif_t (by rw [ti_lt, ex48, tl.1]; omega) (jif_t (by rw [c00]; rfl) ?_)
              have e01 : nI (mny (bt h) b n) + 1 = nI (mny (bt h) b (n + 1)) := by rw [nI_1, c00, n1]
              by_cases cl : b + n < p
              · refine jif_t (nI_lt cl (by omega)) ?_
                have ep : nI p - 1 - nI (b + n) = zI (plc (bt h) b p (n + 1)) := by
                  rw [n3, if_pos cl]
                  refine zI_of ?_
                  have q1 : (nI p).toInt = p := nI_toInt (by omega)
                  have q2 : (nI (b + n)).toInt = (b + n : Nat) := nI_toInt (by omega)
                  have q3 : (nI p - 1).toInt = (p : Int) - 1 := (by simp only [Int32.toInt_add, Int32.toInt_sub, Int32.toInt_mul, Int32.toInt_neg, Int.bmod_def, tl, t4]; omega)
                  generalize nI p - 1 = w at q3
                  exact (by simp only [Int32.toInt_add, Int32.toInt_sub, Int32.toInt_mul, Int32.toInt_neg, Int.bmod_def, tl, t4]; omega)
                simp (decide := true) only [jgI_ob, jgf_ob, jgL_ob, jpI_ob, jpL_ob, jpR_ob, jpN_ob, jrc_ob, obj_sV, obj_wF, obj_wG, obj_wR, arr_sV, arr_wF, arr_wG, arr_wR, arL_sV, arL_wF, arL_wG, arL_wR, arR_sV, arR_wF, arR_wG, arR_wR, fI_sV (c := 0), fI_sV (c := 1), fI_sV (c := 2), fI_sV (c := 4), fI_sV (c := 5), fI_sV (c := 7), fI_sV (c := 8), fI_sV (c := 9), fI_sV (c := 10), fI_sV (c := 11), fI_sV (c := 12), fI_sV (c := 6), fL_sV (c := 9), fL_sV (c := 12), fI_sV_k, fL_sV_k, fV_sV_k, fI_wF, fI_wG, fI_wR, fL_wF, fL_wG, fL_wR, fV_wF, fV_wG, fV_wR, aF_sV, aG_sV, aR_sV, aF_wG, aF_wR, aG_wF, aG_wR, aR_wF, aR_wG, gO g1, e1, edg, ep, e01]
                rw [nI_1]
                refine ih (n + 1) _ _ _ _ (by omega) (fr_sV (by decide) (fr_sV (by decide) k)) (by omega) ?_ ?_
                · simp (decide := true) only [jgI_ob, jgf_ob, jgL_ob, jpI_ob, jpL_ob, jpR_ob, jpN_ob, jrc_ob, obj_sV, obj_wF, obj_wG, obj_wR, arr_sV, arr_wF, arr_wG, arr_wR, arL_sV, arL_wF, arL_wG, arL_wR, arR_sV, arR_wF, arR_wG, arR_wR, fI_sV (c := 0), fI_sV (c := 1), fI_sV (c := 2), fI_sV (c := 4), fI_sV (c := 5), fI_sV (c := 7), fI_sV (c := 8), fI_sV (c := 9), fI_sV (c := 10), fI_sV (c := 11), fI_sV (c := 12), fI_sV (c := 6), fL_sV (c := 9), fL_sV (c := 12), fI_sV_k, fL_sV_k, fV_sV_k, fI_wF, fI_wG, fI_wR, fL_wF, fL_wG, fL_wR, fV_wF, fV_wG, fV_wR, aF_sV, aG_sV, aR_sV, aF_wG, aF_wR, aG_wF, aG_wR, aR_wF, aR_wG, gO g1, n2]
                · simp (decide := true) only [jgI_ob, jgf_ob, jgL_ob, jpI_ob, jpL_ob, jpR_ob, jpN_ob, jrc_ob, obj_sV, obj_wF, obj_wG, obj_wR, arr_sV, arr_wF, arr_wG, arr_wR, arL_sV, arL_wF, arL_wG, arL_wR, arR_sV, arR_wF, arR_wG, arR_wR, fI_sV (c := 0), fI_sV (c := 1), fI_sV (c := 2), fI_sV (c := 4), fI_sV (c := 5), fI_sV (c := 7), fI_sV (c := 8), fI_sV (c := 9), fI_sV (c := 10), fI_sV (c := 11), fI_sV (c := 12), fI_sV (c := 6), fL_sV (c := 9), fL_sV (c := 12), fI_sV_k, fL_sV_k, fV_sV_k, fI_wF, fI_wG, fI_wR, fL_wF, fL_wG, fL_wR, fV_wF, fV_wG, fV_wR, aF_sV, aG_sV, aR_sV, aF_wG, aF_wR, aG_wF, aG_wR, aR_wF, aR_wG, gO g1]
              · refine jif_n (nI_nlt (by omega) (by omega)) ?_
                have ep : nI p - nI (b + n) = zI (plc (bt h) b p (n + 1)) := by
                  rw [n3, if_neg cl]
                  refine zI_of ?_
                  have q1 : (nI p).toInt = p := nI_toInt (by omega)
                  have q2 : (nI (b + n)).toInt = (b + n : Nat) := nI_toInt (by omega)
                  exact (by simp only [Int32.toInt_add, Int32.toInt_sub, Int32.toInt_mul, Int32.toInt_neg, Int.bmod_def, tl, t4]; omega)
                simp (decide := true) only [jgI_ob, jgf_ob, jgL_ob, jpI_ob, jpL_ob, jpR_ob, jpN_ob, jrc_ob, obj_sV, obj_wF, obj_wG, obj_wR, arr_sV, arr_wF, arr_wG, arr_wR, arL_sV, arL_wF, arL_wG, arL_wR, arR_sV, arR_wF, arR_wG, arR_wR, fI_sV (c := 0), fI_sV (c := 1), fI_sV (c := 2), fI_sV (c := 4), fI_sV (c := 5), fI_sV (c := 7), fI_sV (c := 8), fI_sV (c := 9), fI_sV (c := 10), fI_sV (c := 11), fI_sV (c := 12), fI_sV (c := 6), fL_sV (c := 9), fL_sV (c := 12), fI_sV_k, fL_sV_k, fV_sV_k, fI_wF, fI_wG, fI_wR, fL_wF, fL_wG, fL_wR, fV_wF, fV_wG, fV_wR, aF_sV, aG_sV, aR_sV, aF_wG, aF_wR, aG_wF, aG_wR, aR_wF, aR_wG, gO g1, e1, edg, ep, e01]
                rw [nI_1]
                refine ih (n + 1) _ _ _ _ (by omega) (fr_sV (by decide) (fr_sV (by decide) k)) (by omega) ?_ ?_
                · simp (decide := true) only [jgI_ob, jgf_ob, jgL_ob, jpI_ob, jpL_ob, jpR_ob, jpN_ob, jrc_ob, obj_sV, obj_wF, obj_wG, obj_wR, arr_sV, arr_wF, arr_wG, arr_wR, arL_sV, arL_wF, arL_wG, arL_wR, arR_sV, arR_wF, arR_wG, arR_wR, fI_sV (c := 0), fI_sV (c := 1), fI_sV (c := 2), fI_sV (c := 4), fI_sV (c := 5), fI_sV (c := 7), fI_sV (c := 8), fI_sV (c := 9), fI_sV (c := 10), fI_sV (c := 11), fI_sV (c := 12), fI_sV (c := 6), fL_sV (c := 9), fL_sV (c := 12), fI_sV_k, fL_sV_k, fV_sV_k, fI_wF, fI_wG, fI_wR, fL_wF, fL_wG, fL_wR, fV_wF, fV_wG, fV_wR, aF_sV, aG_sV, aR_sV, aF_wG, aF_wR, aG_wF, aG_wR, aR_wF, aR_wG, gO g1, n2]
                · simp (decide := true) only [jgI_ob, jgf_ob, jgL_ob, jpI_ob, jpL_ob, jpR_ob, jpN_ob, jrc_ob, obj_sV, obj_wF, obj_wG, obj_wR, arr_sV, arr_wF, arr_wG, arr_wR, arL_sV, arL_wF, arL_wG, arL_wR, arR_sV, arR_wF, arR_wG, arR_wR, fI_sV (c := 0), fI_sV (c := 1), fI_sV (c := 2), fI_sV (c := 4), fI_sV (c := 5), fI_sV (c := 7), fI_sV (c := 8), fI_sV (c := 9), fI_sV (c := 10), fI_sV (c := 11), fI_sV (c := 12), fI_sV (c := 6), fL_sV (c := 9), fL_sV (c := 12), fI_sV_k, fL_sV_k, fV_sV_k, fI_wF, fI_wG, fI_wR, fL_wF, fL_wG, fL_wR, fV_wF, fV_wG, fV_wR, aF_sV, aG_sV, aR_sV, aF_wG, aF_wR, aG_wF, aG_wR, aR_wF, aR_wG, gO g1]
  rw [jE_X9_readDigits]
  refine jT_X9_readDigits_0 ?_
  simp (decide := true) only [jgI_ob, jgf_ob, jgL_ob, jpI_ob, jpL_ob, jpR_ob, jpN_ob, jrc_ob, obj_sV, obj_wF, obj_wG, obj_wR, arr_sV, arr_wF, arr_wG, arr_wR, arL_sV, arL_wF, arL_wG, arL_wR, arR_sV, arR_wF, arR_wG, arR_wR, fI_sV (c := 0), fI_sV (c := 1), fI_sV (c := 2), fI_sV (c := 4), fI_sV (c := 5), fI_sV (c := 7), fI_sV (c := 8), fI_sV (c := 9), fI_sV (c := 10), fI_sV (c := 11), fI_sV (c := 12), fI_sV (c := 6), fL_sV (c := 9), fL_sV (c := 12), fI_sV_k, fL_sV_k, fV_sV_k, fI_wF, fI_wG, fI_wR, fL_wF, fL_wG, fL_wR, fV_wF, fV_wG, fV_wR, aF_sV, aG_sV, aR_sV, aF_wG, aF_wR, aG_wF, aG_wR, aR_wF, aR_wG, gO g, h4]
  refine L (z - b) 0 _ _ _ _ (by omega) (fr_sV (by decide) (fr_sV (by decide) fr_rfl)) (by show 0 ≤ 3; decide) ?_ ?_
  · simp (decide := true) only [jgI_ob, jgf_ob, jgL_ob, jpI_ob, jpL_ob, jpR_ob, jpN_ob, jrc_ob, obj_sV, obj_wF, obj_wG, obj_wR, arr_sV, arr_wF, arr_wG, arr_wR, arL_sV, arL_wF, arL_wG, arL_wR, arR_sV, arR_wF, arR_wG, arR_wR, fI_sV (c := 0), fI_sV (c := 1), fI_sV (c := 2), fI_sV (c := 4), fI_sV (c := 5), fI_sV (c := 7), fI_sV (c := 8), fI_sV (c := 9), fI_sV (c := 10), fI_sV (c := 11), fI_sV (c := 12), fI_sV (c := 6), fL_sV (c := 9), fL_sV (c := 12), fI_sV_k, fL_sV_k, fV_sV_k, fI_wF, fI_wG, fI_wR, fL_wF, fL_wG, fL_wR, fV_wF, fV_wG, fV_wR, aF_sV, aG_sV, aR_sV, aF_wG, aF_wR, aG_wF, aG_wR, aR_wF, aR_wG, gO g]
    rfl
  · simp (decide := true) only [jgI_ob, jgf_ob, jgL_ob, jpI_ob, jpL_ob, jpR_ob, jpN_ob, jrc_ob, obj_sV, obj_wF, obj_wG, obj_wR, arr_sV, arr_wF, arr_wG, arr_wR, arL_sV, arL_wF, arL_wG, arL_wR, arR_sV, arR_wF, arR_wG, arR_wR, fI_sV (c := 0), fI_sV (c := 1), fI_sV (c := 2), fI_sV (c := 4), fI_sV (c := 5), fI_sV (c := 7), fI_sV (c := 8), fI_sV (c := 9), fI_sV (c := 10), fI_sV (c := 11), fI_sV (c := 12), fI_sV (c := 6), fL_sV (c := 9), fL_sV (c := 12), fI_sV_k, fL_sV_k, fV_sV_k, fI_wF, fI_wG, fI_wR, fL_wF, fL_wG, fL_wR, fV_wF, fV_wG, fV_wR, aF_sV, aG_sV, aR_sV, aF_wG, aF_wR, aG_wF, aG_wR, aR_wF, aR_wG, gO g]
    rfl
end CTK2
