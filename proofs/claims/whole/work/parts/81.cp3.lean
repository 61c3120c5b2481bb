section CSRA
variable {X : JX} {d : Nat} {Q : JQ} {h : JH} {N k : Nat} {t : Nat → Int}
/-- the tokens read -/
def ARA (h : JH) (t : Nat → Int) (N k : Nat) : Prop := ∀ i, i < k → aF h 11 i = nI (tK t N i) ∧ aF h 12 i = nI (tS t N i) ∧ (tK t N i = 2 → aF h 13 i = nI (nnum t N i)) ∧ (tK t N i = 3 → aF h 13 i = nI (dgs t N (tS t N i)) ∧ aF h 14 i = (if xe t N i = 7 then nI (tur t N (tS t N i)) else zI (dpl t N (tS t N i)))) ∧ (tK t N i = 6 → aF h 14 i = nI (hd0 (xo t N i))) ∧ (cl t N k i ≠ 0 → tK t N i ≠ 4 → aF h 14 i = nI (cl t N k i))
/-- the class's picture of the reading ahead of token k -/
def CPA (h : JH) (t : Nat → Int) (N k : Nat) : Prop := fI h 10 4 = nI k ∧ NRA h t N (nms t N k) ∧ fI h 10 7 = nI (xe t N k) ∧ ORA h (xo t N k) ∧ ARA h t N k
theorem CP_frA {A : List Nat} {F : List (Nat × Nat)} {h1 : JH} (x : CPA h t N k) (a : fr A F h h1) (k1 : offF PFA F = true) (k2 : offA PAA A = true) : CPA h1 t N k := by
  have e := offV (fw_fr a) k1
  have e2 := offR (fw_fr a) k2
  unfold CPA NRA ORA ARA fI at *
  rw [e (10, 4) (by decide), e (10, 6) (by decide), e (10, 7) (by decide), e (10, 9) (by decide), (e2 11 (by decide)).1, (e2 12 (by decide)).1, (e2 13 (by decide)).1, (e2 14 (by decide)).1, (e2 15 (by decide)).2.1, (e2 16 (by decide)).1]
  exact x
theorem c_putA (g : G h) (hk : fI h 10 4 = nI k) (k4 : k < 400) {a b : Int32} {K : JH → Prop} (H : ∀ h1, fr PAA [(10, 4)] h h1 → fI h1 10 4 = nI (k + 1) → aF h1 11 = upd (aF h 11) k a → aF h1 12 = upd (aF h 12) k (fI h 7 4) → aF h1 13 = upd (aF h 13) k b → aF h1 14 = upd (aF h 14) k (fI h 7 7) → aG h1 15 = aG h 15 → aF h1 16 = aF h 16 → K h1) : (jgf h (.ref 10) 5 0 fun v1 => (jgI h (.ref 10) 5 4 fun x2 => (jwI h v1 x2 a fun h3 => (jgf h3 (.ref 10) 5 1 fun v4 => (jgI h3 (.ref 10) 5 4 fun x5 => (jisr (.ref 7) (jgI h3 (.ref 7) 9 4 fun x6 => (jwI h3 v4 x5 x6 fun h7 => (jgf h7 (.ref 10) 5 2 fun v8 => (jgI h7 (.ref 10) 5 4 fun x9 => (jwI h7 v8 x9 b fun h10 => (jgf h10 (.ref 10) 5 3 fun v11 => (jgI h10 (.ref 10) 5 4 fun x12 => (jisr (.ref 7) (jgI h10 (.ref 7) 9 7 fun x13 => (jwI h10 v11 x12 x13 fun h14 => (jgI h14 (.ref 10) 5 4 fun x15 => (jpf h14 (.ref 10) 5 4 (.int (x15 + 1)) fun h16 => K h16)))))))))))))))))) := by
  have iv : vp_in (nI k) 400 := by rw [vp_inI, nI_toInt (by omega)]; omega
  have ic : (nI k).toNatClampNeg = k := nI_clamp (by omega)
  dsimp only [jisr]
  simp (decide := true) only [jgI_ob, jgf_ob, jgL_ob, jpI_ob, jpL_ob, jpR_ob, jpN_ob, jrc_ob, obj_sV, obj_wF, obj_wG, obj_wR, arr_sV, arr_wF, arr_wG, arr_wR, arL_sV, arL_wF, arL_wG, arL_wR, arR_sV, arR_wF, arR_wG, arR_wR, fI_sV (c := 0), fI_sV (c := 1), fI_sV (c := 2), fI_sV (c := 4), fI_sV (c := 5), fI_sV (c := 7), fI_sV (c := 8), fI_sV (c := 9), fI_sV (c := 10), fI_sV (c := 11), fI_sV (c := 12), fI_sV (c := 6), fL_sV (c := 9), fL_sV (c := 12), fI_sV_k, fL_sV_k, fV_sV_k, fI_wF, fI_wG, fI_wR, fL_wF, fL_wG, fL_wR, fV_wF, fV_wG, fV_wR, aF_sV, aG_sV, aR_sV, aF_wG, aF_wR, aG_wF, aG_wR, aR_wF, aR_wG, kC, kM, gO g, gF g, hk, iv, ic, true_and, aF_wF_ne]
  rw [nI_1]
  refine H _ ?_ ?_ ?_ ?_ ?_ ?_ ?_ ?_
  · exact fr_sV (by decide) (fr_wF (by decide) (fr_wF (by decide) (fr_wF (by decide) (fr_wF (by decide) fr_rfl))))
  · simp (decide := true) only [jgI_ob, jgf_ob, jgL_ob, jpI_ob, jpL_ob, jpR_ob, jpN_ob, jrc_ob, obj_sV, obj_wF, obj_wG, obj_wR, arr_sV, arr_wF, arr_wG, arr_wR, arL_sV, arL_wF, arL_wG, arL_wR, arR_sV, arR_wF, arR_wG, arR_wR, fI_sV (c := 0), fI_sV (c := 1), fI_sV (c := 2), fI_sV (c := 4), fI_sV (c := 5), fI_sV (c := 7), fI_sV (c := 8), fI_sV (c := 9), fI_sV (c := 10), fI_sV (c := 11), fI_sV (c := 12), fI_sV (c := 6), fL_sV (c := 9), fL_sV (c := 12), fI_sV_k, fL_sV_k, fV_sV_k, fI_wF, fI_wG, fI_wR, fL_wF, fL_wG, fL_wR, fV_wF, fV_wG, fV_wR, aF_sV, aG_sV, aR_sV, aF_wG, aF_wR, aG_wF, aG_wR, aR_wF, aR_wG, gO g]
  · simp (decide := true) only [jgI_ob, jgf_ob, jgL_ob, jpI_ob, jpL_ob, jpR_ob, jpN_ob, jrc_ob, obj_sV, obj_wF, obj_wG, obj_wR, arr_sV, arr_wF, arr_wG, arr_wR, arL_sV, arL_wF, arL_wG, arL_wR, arR_sV, arR_wF, arR_wG, arR_wR, fI_sV (c := 0), fI_sV (c := 1), fI_sV (c := 2), fI_sV (c := 4), fI_sV (c := 5), fI_sV (c := 7), fI_sV (c := 8), fI_sV (c := 9), fI_sV (c := 10), fI_sV (c := 11), fI_sV (c := 12), fI_sV (c := 6), fL_sV (c := 9), fL_sV (c := 12), fI_sV_k, fL_sV_k, fV_sV_k, fI_wF, fI_wG, fI_wR, fL_wF, fL_wG, fL_wR, fV_wF, fV_wG, fV_wR, aF_sV, aG_sV, aR_sV, aF_wG, aF_wR, aG_wF, aG_wR, aR_wF, aR_wG, kC, kM, gO g, aF_wF_ne]
  · simp (decide := true) only [jgI_ob, jgf_ob, jgL_ob, jpI_ob, jpL_ob, jpR_ob, jpN_ob, jrc_ob, obj_sV, obj_wF, obj_wG, obj_wR, arr_sV, arr_wF, arr_wG, arr_wR, arL_sV, arL_wF, arL_wG, arL_wR, arR_sV, arR_wF, arR_wG, arR_wR, fI_sV (c := 0), fI_sV (c := 1), fI_sV (c := 2), fI_sV (c := 4), fI_sV (c := 5), fI_sV (c := 7), fI_sV (c := 8), fI_sV (c := 9), fI_sV (c := 10), fI_sV (c := 11), fI_sV (c := 12), fI_sV (c := 6), fL_sV (c := 9), fL_sV (c := 12), fI_sV_k, fL_sV_k, fV_sV_k, fI_wF, fI_wG, fI_wR, fL_wF, fL_wG, fL_wR, fV_wF, fV_wG, fV_wR, aF_sV, aG_sV, aR_sV, aF_wG, aF_wR, aG_wF, aG_wR, aR_wF, aR_wG, kC, kM, gO g, aF_wF_ne]
  · simp (decide := true) only [jgI_ob, jgf_ob, jgL_ob, jpI_ob, jpL_ob, jpR_ob, jpN_ob, jrc_ob, obj_sV, obj_wF, obj_wG, obj_wR, arr_sV, arr_wF, arr_wG, arr_wR, arL_sV, arL_wF, arL_wG, arL_wR, arR_sV, arR_wF, arR_wG, arR_wR, fI_sV (c := 0), fI_sV (c := 1), fI_sV (c := 2), fI_sV (c := 4), fI_sV (c := 5), fI_sV (c := 7), fI_sV (c := 8), fI_sV (c := 9), fI_sV (c := 10), fI_sV (c := 11), fI_sV (c := 12), fI_sV (c := 6), fL_sV (c := 9), fL_sV (c := 12), fI_sV_k, fL_sV_k, fV_sV_k, fI_wF, fI_wG, fI_wR, fL_wF, fL_wG, fL_wR, fV_wF, fV_wG, fV_wR, aF_sV, aG_sV, aR_sV, aF_wG, aF_wR, aG_wF, aG_wR, aR_wF, aR_wG, kC, kM, gO g, aF_wF_ne]
  · simp (decide := true) only [jgI_ob, jgf_ob, jgL_ob, jpI_ob, jpL_ob, jpR_ob, jpN_ob, jrc_ob, obj_sV, obj_wF, obj_wG, obj_wR, arr_sV, arr_wF, arr_wG, arr_wR, arL_sV, arL_wF, arL_wG, arL_wR, arR_sV, arR_wF, arR_wG, arR_wR, fI_sV (c := 0), fI_sV (c := 1), fI_sV (c := 2), fI_sV (c := 4), fI_sV (c := 5), fI_sV (c := 7), fI_sV (c := 8), fI_sV (c := 9), fI_sV (c := 10), fI_sV (c := 11), fI_sV (c := 12), fI_sV (c := 6), fL_sV (c := 9), fL_sV (c := 12), fI_sV_k, fL_sV_k, fV_sV_k, fI_wF, fI_wG, fI_wR, fL_wF, fL_wG, fL_wR, fV_wF, fV_wG, fV_wR, aF_sV, aG_sV, aR_sV, aF_wG, aF_wR, aG_wF, aG_wR, aR_wF, aR_wG, kC, kM, gO g, aF_wF_ne]
  · simp (decide := true) only [jgI_ob, jgf_ob, jgL_ob, jpI_ob, jpL_ob, jpR_ob, jpN_ob, jrc_ob, obj_sV, obj_wF, obj_wG, obj_wR, arr_sV, arr_wF, arr_wG, arr_wR, arL_sV, arL_wF, arL_wG, arL_wR, arR_sV, arR_wF, arR_wG, arR_wR, fI_sV (c := 0), fI_sV (c := 1), fI_sV (c := 2), fI_sV (c := 4), fI_sV (c := 5), fI_sV (c := 7), fI_sV (c := 8), fI_sV (c := 9), fI_sV (c := 10), fI_sV (c := 11), fI_sV (c := 12), fI_sV (c := 6), fL_sV (c := 9), fL_sV (c := 12), fI_sV_k, fL_sV_k, fV_sV_k, fI_wF, fI_wG, fI_wR, fL_wF, fL_wG, fL_wR, fV_wF, fV_wG, fV_wR, aF_sV, aG_sV, aR_sV, aF_wG, aF_wR, aG_wF, aG_wR, aR_wF, aR_wG, gO g, aG_wF]
  · simp (decide := true) only [jgI_ob, jgf_ob, jgL_ob, jpI_ob, jpL_ob, jpR_ob, jpN_ob, jrc_ob, obj_sV, obj_wF, obj_wG, obj_wR, arr_sV, arr_wF, arr_wG, arr_wR, arL_sV, arL_wF, arL_wG, arL_wR, arR_sV, arR_wF, arR_wG, arR_wR, fI_sV (c := 0), fI_sV (c := 1), fI_sV (c := 2), fI_sV (c := 4), fI_sV (c := 5), fI_sV (c := 7), fI_sV (c := 8), fI_sV (c := 9), fI_sV (c := 10), fI_sV (c := 11), fI_sV (c := 12), fI_sV (c := 6), fL_sV (c := 9), fL_sV (c := 12), fI_sV_k, fL_sV_k, fV_sV_k, fI_wF, fI_wG, fI_wR, fL_wF, fL_wG, fL_wR, fV_wF, fV_wG, fV_wR, aF_sV, aG_sV, aR_sV, aF_wG, aF_wR, aG_wF, aG_wR, aR_wF, aR_wG, kC, kM, gO g, aF_wF_ne]
/-- one token more -/
theorem c_takeA (g : G h) (cp : CPA h t N k) (ok : OKt t N k) (f11 : fI h 10 10 = 0) (tc : TC h t N (tS t N k)) (H0 : hft t N k = 0 → ∀ h1, fr PAA PFA h h1 → fI h1 10 10 = 0 → fI h1 10 11 = fI h 10 11 → CPA h1 t N (k + 1) → Q none h1) (H1 : hft t N k ≠ 0 → ∀ h1, fr PAA PFA h h1 → fI h1 10 10 = nI (hft t N k) → fI h1 10 11 = nI (tS t N k) → Q none h1) : jex X (d + 5) 50 [.ref 10, .ref 7, .int (nI (tK t N k))] h Q := by
  obtain ⟨c4, cn, c7, co, ca⟩ := id cp
  obtain ⟨tc4, tc3, tcn, tcu⟩ := id tc
  have k4 : k ≤ 400 := by
    refine Classical.byContradiction (fun c => ?_)
    have := hft_0 (ok 400 (by omega))
    omega
  have hq : tK t N k ≤ 20 := tkK_r _
  have fwr := fwl_r (t := t) (N := N) (k := k)
  have l6 := xo_len k ok
  have sN : tS t N k ≤ N := tS_le k
  have J : ∀ c : Nat, c < 100 → (nI (tK t N k) = nI c ↔ tK t N k = c) := fun c hc => nI_eq (by omega) (by omega)
  have J2 : nI (tK t N k) = 2 ↔ tK t N k = 2 := J 2 (by omega)
  have J3 : nI (tK t N k) = 3 ↔ tK t N k = 3 := J 3 (by omega)
  have J5 : nI (tK t N k) = 5 ↔ tK t N k = 5 := J 5 (by omega)
  have J7 : nI (tK t N k) = 7 ↔ tK t N k = 7 := J 7 (by omega)
  have eqn : nnum t N k = nix t N (nms t N k) (tS t N k) := rfl
  -- the last of it
  have JJ : hft t N k = 0 → ∀ (hB : JH), fr PAA PFA h hB → fI hB 10 4 = nI (k + 1) → NRA hB t N (nms t N (k + 1)) → ORA hB (xo t N k) → fI hB 10 10 = 0 → fI hB 10 11 = fI h 10 11 → (∀ i, i ≤ k → aF hB 11 i = nI (tK t N i) ∧ aF hB 12 i = nI (tS t N i) ∧ (tK t N i = 2 → aF hB 13 i = nI (nnum t N i)) ∧ (tK t N i = 3 → aF hB 13 i = nI (dgs t N (tS t N i)) ∧ aF hB 14 i = (if xe t N i = 7 then nI (tur t N (tS t N i)) else zI (dpl t N (tS t N i))))) → (∀ i, i < k → aF hB 14 i = aF h 14 i) → jgI hB (.ref 10) 5 4 (fun x17 => (jrc hB (.ref 10) 5 (jex X (d + 4) 59 [.ref 10, .int (nI (tK t N k)), .int (x17 - 1)] hB fun r19 h18 => (jrN r19 (jpf h18 (.ref 10) 5 7 (.int (nI (fwl t N k))) fun h20 => (Q none h20)))))) := by
    intro o0 hB kB b4 bn bo b11 b12 ba b5
    have gB := G_fr g rfl kB
    have ok1 : OKt t N (k + 1) := fun j hj => by
      by_cases e : j = k
      · rw [e]; exact o0
      · exact ok j (by omega)
    rw [jgI_ob (c := 5) (by simp only [gO gB]) rfl, b4, show nI (k + 1) - 1 = nI k from nI_pred k, jrc_ob (by simp only [gO gB])]
    change jex X (d + 1 + 3) 59 _ _ _
    refine c_joinA gB b4 bo ok o0 (fun hC kC' co' cs => ?_)
    try dsimp only [jrI, jrN, jrA, jisr, jnul, jcat1]
    have gC := G_fr gB rfl kC'
    rw [jpI_ob (c := 5) (by simp only [gO gC]) rfl]
    have kD : fr [] [(10, 7)] hC (sV hC 10 7 (.int (nI (fwl t N k)))) := fr_sV (by decide) fr_rfl
    have hh : fI (sV hC 10 7 (.int (nI (fwl t N k)))) 10 7 = nI (fwl t N k) := by simp (decide := true) only [jgI_ob, jgf_ob, jgL_ob, jpI_ob, jpL_ob, jpR_ob, jpN_ob, jrc_ob, obj_sV, obj_wF, obj_wG, obj_wR, arr_sV, arr_wF, arr_wG, arr_wR, arL_sV, arL_wF, arL_wG, arL_wR, arR_sV, arR_wF, arR_wG, arR_wR, fI_sV (c := 0), fI_sV (c := 1), fI_sV (c := 2), fI_sV (c := 4), fI_sV (c := 5), fI_sV (c := 7), fI_sV (c := 8), fI_sV (c := 9), fI_sV (c := 10), fI_sV (c := 11), fI_sV (c := 12), fI_sV (c := 6), fL_sV (c := 9), fL_sV (c := 12), fI_sV_k, fL_sV_k, fV_sV_k, fI_wF, fI_wG, fI_wR, fL_wF, fL_wG, fL_wR, fV_wF, fV_wG, fV_wR, aF_sV, aG_sV, aR_sV, aF_wG, aF_wR, aG_wF, aG_wR, aR_wF, aR_wG, gO gC]
    generalize sV hC 10 7 (.int (nI (fwl t N k))) = hD at *
    have kCD : fr [14, 16] [(10, 7), (10, 9)] hB hD := fr_trans (fr_mono (fun _ q => q) (by decide) kC') (fr_mono (by decide) (by decide) kD)
    refine H0 o0 hD (fr_trans kB (fr_mono (by decide) (by decide) kCD)) ?_ ?_ ⟨?_, ?_, hh, ?_, fun i hi => ?_⟩
    · rw [frI kCD (by decide) (by decide)]; exact b11
    · rw [frI kCD (by decide) (by decide)]; exact b12
    · rw [frI kCD (by decide) (by decide)]; exact b4
    · exact NR_frA bn kCD (by decide) (by decide)
    · exact OR_frA co' kD (by decide) (by decide)
    · rw [frF kCD (by decide), frF kCD (by decide), frF kCD (by decide), frF kD (by decide)]
      have bi := ba i (by omega)
      have cs := cs i (by omega)
      have ecl : cl t N (k + 1) i = if (tK t N k = 15 ∧ i = la t N k) ∨ ((tK t N k = 6 ∨ tK t N k = 9) ∧ i = hd0 (xo t N k)) then k else cl t N k i := rfl
      have cc := cl_kind (i := i) ok1
      refine ⟨bi.1, bi.2.1, bi.2.2.1, fun e3 => ⟨(bi.2.2.2 e3).1, ?_⟩, fun e6 => ?_, fun ec e4 => ?_⟩
      · rw [cs, if_neg (fun c => by have := cc (Or.inr c); omega)]
        by_cases e : tK t N k = 6 ∧ i = k
        · rw [e.2] at e3; omega
        · rw [if_neg e]
          exact (bi.2.2.2 e3).2
      · rw [cs, if_neg (fun c => by have := cc (Or.inr c); omega)]
        by_cases e : i = k
        · rw [if_pos ⟨by rw [← e]; exact e6, e⟩, e]
        · rw [if_neg (fun c => e c.2), b5 i (by omega)]
          exact (ca i (by omega)).2.2.2.2.1 e6
      · have nl : ¬ (tK t N k = 15 ∧ i = la t N k) := by
          intro w
          obtain ⟨f1, _⟩ := hft_0 o0
          have fi := fwl_inv f1
          have l := la_in k ok (by omega) (by omega)
          rw [w.2] at e4
          exact e4 l.1
        rw [ecl] at ec ⊢
        rw [cs]
        by_cases c : (tK t N k = 6 ∨ tK t N k = 9) ∧ i = hd0 (xo t N k)
        · rw [if_pos c, if_pos (Or.inr c)]
        · have nc : ¬ ((tK t N k = 15 ∧ i = la t N k) ∨ ((tK t N k = 6 ∨ tK t N k = 9) ∧ i = hd0 (xo t N k))) := fun w => w.elim nl c
          rw [if_neg nc] at ec
          have lt := Nat.lt_of_not_le (fun q => ec (cl_ge k i q))
          rw [if_neg c, if_neg nc, if_neg (by omega), b5 i (by omega)]
          exact (ca i (by omega)).2.2.2.2.2 ec e4
  -- behind the names
  have J58 : fwl t N k ≠ 0 → ∀ (h1 : JH) (a4 s0 : Int32) (o5 : Option Value) (c s : Nat), fr [15] [(10, 6)] h h1 → (tK t N k = 2 → a4 = nI (nnum t N k)) → (tK t N k = 3 → a4 = nI (dgs t N (tS t N k))) → (hft t N k = 0 → NRA h1 t N (nms t N (k + 1))) → s0 = (if tK t N k = 5 ∨ tK t N k = 7 then 1 else 0) → jB_X5_takeToken_58 X (d + 4) Q 10 (.ref 7) (nI (tK t N k)) (nI (fwl t N k)) a4 o5 s0 h1 c s := by
    intro fne h1 a4 s0 o5 c s k1 ea4 ea3 enr es0
    have g1 := G_fr g rfl k1
    have e4 : fI h1 10 4 = nI k := by rw [frI k1 (by decide) (by decide)]; exact c4
    have t4 : fI h1 7 4 = nI (tS t N k) := by rw [frI k1 (by decide) (by decide)]; exact tc4
    have e11 : fI h1 10 10 = 0 := by rw [frI k1 (by decide) (by decide)]; exact f11
    have e9 : fI h1 10 9 = nI (xo t N k).length := by rw [frI k1 (by decide) (by decide)]; exact co.1
    have F2 : hft t N k = 2 → jisr (.ref 7) (jgI h1 (.ref 7) 9 4 fun x2 => (jrc h1 (.ref 10) 5 (jex X (d + 4) 56 [.ref 10, .int 2, .int x2] h1 fun r4 h3 => (jrN r4 (Q none h3))))) := by
      intro e2
      dsimp only [jisr]
      rw [jgI_ob (c := 9) (by simp only [gO g1]) rfl, t4, jrc_ob (by simp only [gO g1])]
      change jex X (d + 3 + 1) 56 _ _ _
      refine c_noteA g1 (fun _ => ?_) (fun q => absurd e11 q)
      try dsimp only [jrI, jrN, jrA, jisr, jnul, jcat1]
      refine H1 (by omega) _ (fr_sV (by decide) (fr_sV (by decide) (fr_mono (by decide) (by decide) k1))) ?_ ?_
      · rw [e2]
        simp (decide := true) only [jgI_ob, jgf_ob, jgL_ob, jpI_ob, jpL_ob, jpR_ob, jpN_ob, jrc_ob, obj_sV, obj_wF, obj_wG, obj_wR, arr_sV, arr_wF, arr_wG, arr_wR, arL_sV, arL_wF, arL_wG, arL_wR, arR_sV, arR_wF, arR_wG, arR_wR, fI_sV (c := 0), fI_sV (c := 1), fI_sV (c := 2), fI_sV (c := 4), fI_sV (c := 5), fI_sV (c := 7), fI_sV (c := 8), fI_sV (c := 9), fI_sV (c := 10), fI_sV (c := 11), fI_sV (c := 12), fI_sV (c := 6), fL_sV (c := 9), fL_sV (c := 12), fI_sV_k, fL_sV_k, fV_sV_k, fI_wF, fI_wG, fI_wR, fL_wF, fL_wG, fL_wR, fV_wF, fV_wG, fV_wR, aF_sV, aG_sV, aR_sV, aF_wG, aF_wR, aG_wF, aG_wR, aR_wF, aR_wG, gO g1]
      · simp (decide := true) only [jgI_ob, jgf_ob, jgL_ob, jpI_ob, jpL_ob, jpR_ob, jpN_ob, jrc_ob, obj_sV, obj_wF, obj_wG, obj_wR, arr_sV, arr_wF, arr_wG, arr_wR, arL_sV, arL_wF, arL_wG, arL_wR, arR_sV, arR_wF, arR_wG, arR_wR, fI_sV (c := 0), fI_sV (c := 1), fI_sV (c := 2), fI_sV (c := 4), fI_sV (c := 5), fI_sV (c := 7), fI_sV (c := 8), fI_sV (c := 9), fI_sV (c := 10), fI_sV (c := 11), fI_sV (c := 12), fI_sV (c := 6), fL_sV (c := 9), fL_sV (c := 12), fI_sV_k, fL_sV_k, fV_sV_k, fI_wF, fI_wG, fI_wR, fL_wF, fL_wG, fL_wR, fV_wF, fV_wG, fV_wR, aF_sV, aG_sV, aR_sV, aF_wG, aF_wR, aG_wF, aG_wR, aR_wF, aR_wG, gO g1]
    have J106 : hft t N k = 0 → ∀ (o5 : Option Value) (c s : Nat), jB_X5_takeToken_106 X (d + 4) Q 10 (.ref 7) (nI (tK t N k)) (nI (fwl t N k)) a4 o5 h1 c s := by
      intro o0 o5 c s
      have hf := hft_0 o0
      refine jT_X5_takeToken_106 ?_
      refine c_putA g1 e4 hf.2.1 (fun hA kA a4' p1 p2 p3 p4 p5 p6 => ?_)
      have gA := G_fr g1 rfl kA
      have kA' : fr PAA PFA h hA := fr_trans (fr_mono (by decide) (by decide) k1) (fr_mono (fun _ q => q) (by decide) kA)
      have nA : NRA hA t N (nms t N (k + 1)) := by
        have w := enr o0
        unfold NRA at w ⊢
        rw [frI kA (by decide) (by decide), p5]
        exact w
      have oA : ORA hA (xo t N k) := by
        unfold ORA at co ⊢
        rw [frI kA (by decide) (by decide), frI k1 (by decide) (by decide), p6, frF k1 (by decide)]
        exact co
      have A11 : fI hA 10 10 = 0 := by rw [frI kA (by decide) (by decide)]; exact e11
      have A12 : fI hA 10 11 = fI h 10 11 := by rw [frI kA (by decide) (by decide), frI k1 (by decide) (by decide)]
      have A7 : fI hA 10 7 = nI (xe t N k) := by rw [frI kA (by decide) (by decide), frI k1 (by decide) (by decide)]; exact c7
      have q1 : aF h1 11 = aF h 11 := frF k1 (by decide)
      have q2 : aF h1 12 = aF h 12 := frF k1 (by decide)
      have q3 : aF h1 13 = aF h 13 := frF k1 (by decide)
      have q4 : aF h1 14 = aF h 14 := frF k1 (by decide)
      have t7 : fI h1 7 7 = fI h 7 7 := frI k1 (by decide) (by decide)
      rw [q1] at p1
      rw [q2, t4] at p2
      rw [q3] at p3
      rw [q4, t7] at p4
      -- facts of the arrays, whatever became of seconds at k
      have BA : ∀ (w : Nat → Int32), (∀ i, i < k → w i = aF hA 14 i) → (tK t N k = 3 → w k = (if xe t N k = 7 then nI (tur t N (tS t N k)) else zI (dpl t N (tS t N k)))) → ∀ i, i ≤ k → aF hA 11 i = nI (tK t N i) ∧ aF hA 12 i = nI (tS t N i) ∧ (tK t N i = 2 → aF hA 13 i = nI (nnum t N i)) ∧ (tK t N i = 3 → aF hA 13 i = nI (dgs t N (tS t N i)) ∧ w i = (if xe t N i = 7 then nI (tur t N (tS t N i)) else zI (dpl t N (tS t N i)))) := by
        intro w w1 w2 i hi
        rw [p1, p2, p3]
        unfold upd
        by_cases e : i = k
        · rw [if_pos e, if_pos e, if_pos e, e]
          exact ⟨rfl, rfl, ea4, fun q => ⟨ea3 q, w2 q⟩⟩
        · have a := ca i (by omega)
          rw [if_neg e, if_neg e, if_neg e, w1 i (by omega), p4]
          unfold upd
          rw [if_neg e]
          exact ⟨a.1, a.2.1, a.2.2.1, a.2.2.2.1⟩
      have w4 : ∀ i, i < k → aF hA 14 i = aF h 14 i := fun i hi => by rw [p4]; exact if_neg (by omega)
      refine ⟨fun c3 => ?_, fun c3 => ?_⟩
      · have c3 := J3.1 c3
        have tu := tcu c3
        rw [jgI_ob (c := 5) (by simp only [gO gA]) rfl, A7]
        have xr := xe_1 ok
        refine ⟨fun e7 => ?_, fun e7 => ?_⟩
        · have e7 : xe t N k = 7 := (nI_eq (b := 7) (by omega) (by omega)).1 e7
          have SS : ∀ (w : Int32), w = nI (tur t N (tS t N k)) → jex X (d + 4) 58 [.ref 10, .int (nI k), .int w] hA (fun r30 h29 => (jrN r30 (jgI h29 (.ref 10) 5 4 fun x31 => (jrc h29 (.ref 10) 5 (jex X (d + 4) 59 [.ref 10, .int (nI (tK t N k)), .int (x31 - 1)] h29 fun r33 h32 => (jrN r33 (jpf h32 (.ref 10) 5 7 (.int (nI (fwl t N k))) fun h34 => (Q none h34)))))))) := by
            intro w ew
            change jex X (d + 2 + 2) 58 _ _ _
            refine c_setSecA gA a4' (by omega) (i := k) (by omega) ?_
            try dsimp only [jrI, jrN, jrA, jisr, jnul, jcat1]
            have kB : fr [14] [] hA (wF hA 14 (upd (aF hA 14) k w)) := fr_wF (by decide) fr_rfl
            have r4 : aF (wF hA 14 (upd (aF hA 14) k w)) 14 = upd (aF hA 14) k w := by simp (decide := true) only [kC, kM, gO gA]
            generalize wF hA 14 (upd (aF hA 14) k w) = hB at *
            refine JJ o0 hB (fr_trans kA' (fr_mono (by decide) (by decide) kB)) ?_ (NR_frA nA kB (by decide) (by decide)) (OR_frA oA kB (by decide) (by decide)) ?_ ?_ ?_ ?_
            · rw [frI kB (by decide) (by decide)]; exact a4'
            · rw [frI kB (by decide) (by decide)]; exact A11
            · rw [frI kB (by decide) (by decide)]; exact A12
            · rw [frF kB (by decide), frF kB (by decide), frF kB (by decide), r4]
              exact BA _ (fun i hi => if_neg (by omega)) (fun _ => by rw [if_pos e7, ← ew]; exact if_pos rfl)
            · intro i hi
              rw [r4]
              exact (if_neg (by omega)).trans (w4 i hi)
          rw [jgI_ob (c := 5) (by simp only [gO gA]) rfl, a4', show nI (k + 1) - 1 = nI k from nI_pred k]
          dsimp only [jisr]
          have x9 : fI hA 7 9 = bi (ptd t N (tS t N k)) := by rw [frI kA (by decide) (by decide), frI k1 (by decide) (by decide)]; exact tu.2.2.2
          have x8 : fI hA 7 8 = nI (whl t (tS t N k) (ptE t N (tS t N k) - tS t N k)) := by rw [frI kA (by decide) (by decide), frI k1 (by decide) (by decide)]; exact tu.2.2.1
          rw [jgI_ob (c := 9) (by simp only [gO gA]) rfl, x9]
          cases ep : ptd t N (tS t N k) with
          | true =>
            refine jif_n (by decide) ?_
            rw [jrc_ob (by simp only [gO gA])]
            exact SS 100 (by unfold tur; rw [if_pos ep]; rfl)
          | false =>
            refine jif_t rfl ?_
            rw [jgI_ob (c := 9) (by simp only [gO gA]) rfl, x8, jrc_ob (by simp only [gO gA])]
            exact SS _ (by unfold tur; rw [if_neg (by rw [ep]; decide)])
        · have e7 : xe t N k ≠ 7 := fun q => e7 (by rw [q]; rfl)
          refine JJ o0 hA kA' a4' nA oA A11 A12 (BA _ (fun _ _ => rfl) (fun _ => ?_)) w4
          rw [if_neg e7, p4]
          exact (if_pos rfl).trans tu.2.1
      · exact JJ o0 hA kA' a4' nA oA A11 A12 (BA _ (fun _ _ => rfl) (fun q => absurd (J3.2 q) c3)) w4
    have SPLIT : (tK t N k = 2 → nnum t N k < 12) → k < 400 → ∀ (o : Option Value), jifp (s0 = 0) (jB_X5_takeToken_106 X (d + 4) Q 10 (.ref 7) (nI (tK t N k)) (nI (fwl t N k)) a4 o h1 c s) (jgI h1 (.ref 10) 5 9 fun x5 => (jifp (x5 < 6) (jB_X5_takeToken_106 X (d + 4) Q 10 (.ref 7) (nI (tK t N k)) (nI (fwl t N k)) a4 o h1 c s) (jisr (.ref 7) (jgI h1 (.ref 7) 9 4 fun x2 => (jrc h1 (.ref 10) 5 (jex X (d + 4) 56 [.ref 10, .int 2, .int x2] h1 fun r4 h3 => (jrN r4 (Q none h3)))))))) := by
      intro n12 k400 o
      refine ⟨fun c1 => J106 ?_ _ _ _, fun c1 => ?_⟩
      · have nn : ¬ (tK t N k = 5 ∨ tK t N k = 7) := fun q => by rw [if_pos q] at es0; rw [es0] at c1; exact absurd c1 (by decide)
        unfold hft
        rw [if_neg fne, if_neg]
        rintro (q | q | q)
        · omega
        · have := n12 q.1; omega
        · exact nn q.1
      · have nn : tK t N k = 5 ∨ tK t N k = 7 := Classical.byContradiction (fun q => by rw [if_neg q] at es0; exact c1 es0)
        rw [jgI_ob (c := 5) (by simp only [gO g1]) rfl, e9]
        refine ⟨fun c2 => J106 ?_ _ _ _, fun c2 => F2 ?_⟩
        · have c2 := (nI_ltI (b := 6) (by omega) (by omega)).1 c2
          unfold hft
          rw [if_neg fne, if_neg]
          rintro (q | q | q)
          · omega
          · have := n12 q.1; omega
          · omega
        · have c2 : ¬ (xo t N k).length < 6 := fun q => c2 (nI_lt (b := 6) q (by omega))
          unfold hft
          rw [if_neg fne, if_pos (Or.inr (Or.inr ⟨nn, by omega⟩))]
    refine jT_X5_takeToken_58 ?_
    rw [jgI_ob (c := 5) (by simp only [gO g1]) rfl, e4]
    refine ⟨fun c1 => ?_, fun c1 => F2 ?_⟩
    · have c1 := (nI_ltI (b := 400) (by omega) (by omega)).1 c1
      refine ⟨fun c2 => SPLIT (fun q => ?_) c1 _, fun c2 => ⟨fun c3 => F2 ?_, fun c3 => SPLIT (fun q => absurd (J2.2 q) c3) c1 _⟩⟩
      · have nb : nnum t N k ≤ (nms t N k).length := nix_le
        have nl := nms_len k ok
        rw [ea4 q] at c2
        exact (nI_ltI (b := 12) (by omega) (by omega)).1 c2
      · have c3 := J2.1 c3
        rw [ea4 c3] at c2
        have : 12 ≤ nnum t N k := by
          rcases Nat.lt_or_ge (nnum t N k) 12 with q | q
          · exact absurd (nI_lt (b := 12) q (by omega)) c2
          · exact q
        unfold hft
        rw [if_neg fne, if_pos (Or.inr (Or.inl ⟨c3, this⟩))]
    · have : ¬ k < 400 := fun q => c1 (nI_lt (b := 400) q (by omega))
      unfold hft
      rw [if_neg fne, if_pos (Or.inl (by omega))]
  rw [jE_X5_takeToken]
  refine jT_X5_takeToken_0 ?_
  rw [jrc_ob (by simp only [gO g])]
  refine c_followerA g c4 c7 co ok (fun i hi => (ca i hi).1) ?_
  try dsimp only [jrI, jrN, jrA, jisr, jnul, jcat1]
  refine ⟨fun c0 => ?_, fun c0 => ?_⟩
  · have c0 : fwl t N k = 0 := (nI_eq (b := 0) (by omega) (by omega)).1 c0
    have e1 : hft t N k = 1 := by unfold hft; rw [if_pos c0]
    rw [jgI_ob (c := 9) (by simp only [gO g]) rfl, tc4, jrc_ob (by simp only [gO g])]
    change jex X (d + 3 + 1) 56 _ _ _
    refine c_noteA g (fun _ => ?_) (fun q => absurd f11 q)
    try dsimp only [jrI, jrN, jrA, jisr, jnul, jcat1]
    refine H1 (by omega) _ (fr_sV (by decide) (fr_sV (by decide) fr_rfl)) ?_ ?_
    · rw [e1]
      simp (decide := true) only [jgI_ob, jgf_ob, jgL_ob, jpI_ob, jpL_ob, jpR_ob, jpN_ob, jrc_ob, obj_sV, obj_wF, obj_wG, obj_wR, arr_sV, arr_wF, arr_wG, arr_wR, arL_sV, arL_wF, arL_wG, arL_wR, arR_sV, arR_wF, arR_wG, arR_wR, fI_sV (c := 0), fI_sV (c := 1), fI_sV (c := 2), fI_sV (c := 4), fI_sV (c := 5), fI_sV (c := 7), fI_sV (c := 8), fI_sV (c := 9), fI_sV (c := 10), fI_sV (c := 11), fI_sV (c := 12), fI_sV (c := 6), fL_sV (c := 9), fL_sV (c := 12), fI_sV_k, fL_sV_k, fV_sV_k, fI_wF, fI_wG, fI_wR, fL_wF, fL_wG, fL_wR, fV_wF, fV_wG, fV_wR, aF_sV, aG_sV, aR_sV, aF_wG, aF_wR, aG_wF, aG_wR, aR_wF, aR_wG, gO g]
    · simp (decide := true) only [jgI_ob, jgf_ob, jgL_ob, jpI_ob, jpL_ob, jpR_ob, jpN_ob, jrc_ob, obj_sV, obj_wF, obj_wG, obj_wR, arr_sV, arr_wF, arr_wG, arr_wR, arL_sV, arL_wF, arL_wG, arL_wR, arR_sV, arR_wF, arR_wG, arR_wR, fI_sV (c := 0), fI_sV (c := 1), fI_sV (c := 2), fI_sV (c := 4), fI_sV (c := 5), fI_sV (c := 7), fI_sV (c := 8), fI_sV (c := 9), fI_sV (c := 10), fI_sV (c := 11), fI_sV (c := 12), fI_sV (c := 6), fL_sV (c := 9), fL_sV (c := 12), fI_sV_k, fL_sV_k, fV_sV_k, fI_wF, fI_wG, fI_wR, fL_wF, fL_wG, fL_wR, fV_wF, fV_wG, fV_wR, aF_sV, aG_sV, aR_sV, aF_wG, aF_wR, aG_wF, aG_wR, aR_wF, aR_wG, gO g]
  · have fne : fwl t N k ≠ 0 := fun q => c0 (by rw [q]; rfl)
    refine ⟨fun c2 => ?_, fun c2 => ?_⟩
    · have c2 := J2.1 c2
      rw [jgL_ob (c := 9) (by simp only [gO g]) rfl, tcn c2, jrc_ob (by simp only [gO g])]
      change jex X (d + 3 + 1) 57 [.ref 10, .long (lN (w27 t N (tS t N k)))] _ _
      refine c_nameNumberA g cn (nms_len k ok) c2 (nms_name k) (fun h1 k1 w1 => ?_)
      try dsimp only [jrI, jrN, jrA, jisr, jnul, jcat1]
      have W : hft t N k = 0 → NRA h1 t N (nms t N (k + 1)) := by
        intro o0
        have w := w1 ((hft_0 o0).2.2.1 c2)
        rw [← eqn] at w
        rw [nms_s]
        by_cases e : nnum t N k = (nms t N k).length
        · rw [if_pos ⟨c2, e⟩]; rw [if_pos e] at w; exact w
        · rw [if_neg (fun q => e q.2)]; rw [if_neg e] at w; exact w
      refine ⟨fun q => absurd (J5.1 q) (by omega), fun _ => ⟨fun q => absurd (J7.1 q) (by omega), fun _ => J58 fne h1 _ _ _ _ _ k1 (fun _ => rfl) (fun q => by omega) W ?_⟩⟩
      rw [if_neg (by omega)]
    · have c2 : tK t N k ≠ 2 := fun q => c2 (J2.2 q)
      have en : nms t N (k + 1) = nms t N k := by rw [nms_s, if_neg (fun q => c2 q.1)]
      rw [jgI_ob (c := 9) (by simp only [gO g]) rfl]
      have J := fun (s0 : Int32) (es : s0 = (if tK t N k = 5 ∨ tK t N k = 7 then 1 else 0)) => J58 fne h (fI h 7 6) s0 none 0 0 fr_rfl (fun q => absurd q c2) (fun q => (tcu q).1) (fun _ => by rw [en]; exact cn) es
      refine ⟨fun q => J 1 (by rw [if_pos (Or.inl (J5.1 q))]), fun q => ⟨fun q2 => J 1 (by rw [if_pos (Or.inr (J7.1 q2))]), fun q2 => J 0 (by rw [if_neg (fun w => by rcases w with w | w; exact q (J5.2 w); exact q2 (J7.2 w))])⟩⟩
end CSRA
section CSRB
variable {X : JX} {d : Nat} {Q : JQ} {h : JH} {N k : Nat} {t : Nat → Int}
/-- the tokens read -/
def ARB (h : JH) (t : Nat → Int) (N k : Nat) : Prop := ∀ i, i < k → aF h 18 i = nI (tK t N i) ∧ aF h 19 i = nI (tS t N i) ∧ (tK t N i = 2 → aF h 20 i = nI (nnum t N i)) ∧ (tK t N i = 3 → aF h 20 i = nI (dgs t N (tS t N i)) ∧ aF h 21 i = (if xe t N i = 7 then nI (tur t N (tS t N i)) else zI (dpl t N (tS t N i)))) ∧ (tK t N i = 6 → aF h 21 i = nI (hd0 (xo t N i))) ∧ (cl t N k i ≠ 0 → tK t N i ≠ 4 → aF h 21 i = nI (cl t N k i))
/-- the class's picture of the reading ahead of token k -/
def CPB (h : JH) (t : Nat → Int) (N k : Nat) : Prop := fI h 17 4 = nI k ∧ NRB h t N (nms t N k) ∧ fI h 17 7 = nI (xe t N k) ∧ ORB h (xo t N k) ∧ ARB h t N k
theorem CP_frB {A : List Nat} {F : List (Nat × Nat)} {h1 : JH} (x : CPB h t N k) (a : fr A F h h1) (k1 : offF PFB F = true) (k2 : offA PAB A = true) : CPB h1 t N k := by
  have e := offV (fw_fr a) k1
  have e2 := offR (fw_fr a) k2
  unfold CPB NRB ORB ARB fI at *
  rw [e (17, 4) (by decide), e (17, 6) (by decide), e (17, 7) (by decide), e (17, 9) (by decide), (e2 18 (by decide)).1, (e2 19 (by decide)).1, (e2 20 (by decide)).1, (e2 21 (by decide)).1, (e2 22 (by decide)).2.1, (e2 23 (by decide)).1]
  exact x
theorem c_putB (g : G h) (hk : fI h 17 4 = nI k) (k4 : k < 400) {a b : Int32} {K : JH → Prop} (H : ∀ h1, fr PAB [(17, 4)] h h1 → fI h1 17 4 = nI (k + 1) → aF h1 18 = upd (aF h 18) k a → aF h1 19 = upd (aF h 19) k (fI h 7 4) → aF h1 20 = upd (aF h 20) k b → aF h1 21 = upd (aF h 21) k (fI h 7 7) → aG h1 22 = aG h 22 → aF h1 23 = aF h 23 → K h1) : (jgf h (.ref 17) 5 0 fun v1 => (jgI h (.ref 17) 5 4 fun x2 => (jwI h v1 x2 a fun h3 => (jgf h3 (.ref 17) 5 1 fun v4 => (jgI h3 (.ref 17) 5 4 fun x5 => (jisr (.ref 7) (jgI h3 (.ref 7) 9 4 fun x6 => (jwI h3 v4 x5 x6 fun h7 => (jgf h7 (.ref 17) 5 2 fun v8 => (jgI h7 (.ref 17) 5 4 fun x9 => (jwI h7 v8 x9 b fun h10 => (jgf h10 (.ref 17) 5 3 fun v11 => (jgI h10 (.ref 17) 5 4 fun x12 => (jisr (.ref 7) (jgI h10 (.ref 7) 9 7 fun x13 => (jwI h10 v11 x12 x13 fun h14 => (jgI h14 (.ref 17) 5 4 fun x15 => (jpf h14 (.ref 17) 5 4 (.int (x15 + 1)) fun h16 => K h16)))))))))))))))))) := by
  have iv : vp_in (nI k) 400 := by rw [vp_inI, nI_toInt (by omega)]; omega
  have ic : (nI k).toNatClampNeg = k := nI_clamp (by omega)
  dsimp only [jisr]
  simp (decide := true) only [jgI_ob, jgf_ob, jgL_ob, jpI_ob, jpL_ob, jpR_ob, jpN_ob, jrc_ob, obj_sV, obj_wF, obj_wG, obj_wR, arr_sV, arr_wF, arr_wG, arr_wR, arL_sV, arL_wF, arL_wG, arL_wR, arR_sV, arR_wF, arR_wG, arR_wR, fI_sV (c := 0), fI_sV (c := 1), fI_sV (c := 2), fI_sV (c := 4), fI_sV (c := 5), fI_sV (c := 7), fI_sV (c := 8), fI_sV (c := 9), fI_sV (c := 10), fI_sV (c := 11), fI_sV (c := 12), fI_sV (c := 6), fL_sV (c := 9), fL_sV (c := 12), fI_sV_k, fL_sV_k, fV_sV_k, fI_wF, fI_wG, fI_wR, fL_wF, fL_wG, fL_wR, fV_wF, fV_wG, fV_wR, aF_sV, aG_sV, aR_sV, aF_wG, aF_wR, aG_wF, aG_wR, aR_wF, aR_wG, kC, kM, gO g, gF g, hk, iv, ic, true_and, aF_wF_ne]
  rw [nI_1]
  refine H _ ?_ ?_ ?_ ?_ ?_ ?_ ?_ ?_
  · exact fr_sV (by decide) (fr_wF (by decide) (fr_wF (by decide) (fr_wF (by decide) (fr_wF (by decide) fr_rfl))))
  · simp (decide := true) only [jgI_ob, jgf_ob, jgL_ob, jpI_ob, jpL_ob, jpR_ob, jpN_ob, jrc_ob, obj_sV, obj_wF, obj_wG, obj_wR, arr_sV, arr_wF, arr_wG, arr_wR, arL_sV, arL_wF, arL_wG, arL_wR, arR_sV, arR_wF, arR_wG, arR_wR, fI_sV (c := 0), fI_sV (c := 1), fI_sV (c := 2), fI_sV (c := 4), fI_sV (c := 5), fI_sV (c := 7), fI_sV (c := 8), fI_sV (c := 9), fI_sV (c := 10), fI_sV (c := 11), fI_sV (c := 12), fI_sV (c := 6), fL_sV (c := 9), fL_sV (c := 12), fI_sV_k, fL_sV_k, fV_sV_k, fI_wF, fI_wG, fI_wR, fL_wF, fL_wG, fL_wR, fV_wF, fV_wG, fV_wR, aF_sV, aG_sV, aR_sV, aF_wG, aF_wR, aG_wF, aG_wR, aR_wF, aR_wG, gO g]
  · simp (decide := true) only [jgI_ob, jgf_ob, jgL_ob, jpI_ob, jpL_ob, jpR_ob, jpN_ob, jrc_ob, obj_sV, obj_wF, obj_wG, obj_wR, arr_sV, arr_wF, arr_wG, arr_wR, arL_sV, arL_wF, arL_wG, arL_wR, arR_sV, arR_wF, arR_wG, arR_wR, fI_sV (c := 0), fI_sV (c := 1), fI_sV (c := 2), fI_sV (c := 4), fI_sV (c := 5), fI_sV (c := 7), fI_sV (c := 8), fI_sV (c := 9), fI_sV (c := 10), fI_sV (c := 11), fI_sV (c := 12), fI_sV (c := 6), fL_sV (c := 9), fL_sV (c := 12), fI_sV_k, fL_sV_k, fV_sV_k, fI_wF, fI_wG, fI_wR, fL_wF, fL_wG, fL_wR, fV_wF, fV_wG, fV_wR, aF_sV, aG_sV, aR_sV, aF_wG, aF_wR, aG_wF, aG_wR, aR_wF, aR_wG, kC, kM, gO g, aF_wF_ne]
  · simp (decide := true) only [jgI_ob, jgf_ob, jgL_ob, jpI_ob, jpL_ob, jpR_ob, jpN_ob, jrc_ob, obj_sV, obj_wF, obj_wG, obj_wR, arr_sV, arr_wF, arr_wG, arr_wR, arL_sV, arL_wF, arL_wG, arL_wR, arR_sV, arR_wF, arR_wG, arR_wR, fI_sV (c := 0), fI_sV (c := 1), fI_sV (c := 2), fI_sV (c := 4), fI_sV (c := 5), fI_sV (c := 7), fI_sV (c := 8), fI_sV (c := 9), fI_sV (c := 10), fI_sV (c := 11), fI_sV (c := 12), fI_sV (c := 6), fL_sV (c := 9), fL_sV (c := 12), fI_sV_k, fL_sV_k, fV_sV_k, fI_wF, fI_wG, fI_wR, fL_wF, fL_wG, fL_wR, fV_wF, fV_wG, fV_wR, aF_sV, aG_sV, aR_sV, aF_wG, aF_wR, aG_wF, aG_wR, aR_wF, aR_wG, kC, kM, gO g, aF_wF_ne]
  · simp (decide := true) only [jgI_ob, jgf_ob, jgL_ob, jpI_ob, jpL_ob, jpR_ob, jpN_ob, jrc_ob, obj_sV, obj_wF, obj_wG, obj_wR, arr_sV, arr_wF, arr_wG, arr_wR, arL_sV, arL_wF, arL_wG, arL_wR, arR_sV, arR_wF, arR_wG, arR_wR, fI_sV (c := 0), fI_sV (c := 1), fI_sV (c := 2), fI_sV (c := 4), fI_sV (c := 5), fI_sV (c := 7), fI_sV (c := 8), fI_sV (c := 9), fI_sV (c := 10), fI_sV (c := 11), fI_sV (c := 12), fI_sV (c := 6), fL_sV (c := 9), fL_sV (c := 12), fI_sV_k, fL_sV_k, fV_sV_k, fI_wF, fI_wG, fI_wR, fL_wF, fL_wG, fL_wR, fV_wF, fV_wG, fV_wR, aF_sV, aG_sV, aR_sV, aF_wG, aF_wR, aG_wF, aG_wR, aR_wF, aR_wG, kC, kM, gO g, aF_wF_ne]
  · simp (decide := true) only [jgI_ob, jgf_ob, jgL_ob, jpI_ob, jpL_ob, jpR_ob, jpN_ob, jrc_ob, obj_sV, obj_wF, obj_wG, obj_wR, arr_sV, arr_wF, arr_wG, arr_wR, arL_sV, arL_wF, arL_wG, arL_wR, arR_sV, arR_wF, arR_wG, arR_wR, fI_sV (c := 0), fI_sV (c := 1), fI_sV (c := 2), fI_sV (c := 4), fI_sV (c := 5), fI_sV (c := 7), fI_sV (c := 8), fI_sV (c := 9), fI_sV (c := 10), fI_sV (c := 11), fI_sV (c := 12), fI_sV (c := 6), fL_sV (c := 9), fL_sV (c := 12), fI_sV_k, fL_sV_k, fV_sV_k, fI_wF, fI_wG, fI_wR, fL_wF, fL_wG, fL_wR, fV_wF, fV_wG, fV_wR, aF_sV, aG_sV, aR_sV, aF_wG, aF_wR, aG_wF, aG_wR, aR_wF, aR_wG, kC, kM, gO g, aF_wF_ne]
  · simp (decide := true) only [jgI_ob, jgf_ob, jgL_ob, jpI_ob, jpL_ob, jpR_ob, jpN_ob, jrc_ob, obj_sV, obj_wF, obj_wG, obj_wR, arr_sV, arr_wF, arr_wG, arr_wR, arL_sV, arL_wF, arL_wG, arL_wR, arR_sV, arR_wF, arR_wG, arR_wR, fI_sV (c := 0), fI_sV (c := 1), fI_sV (c := 2), fI_sV (c := 4), fI_sV (c := 5), fI_sV (c := 7), fI_sV (c := 8), fI_sV (c := 9), fI_sV (c := 10), fI_sV (c := 11), fI_sV (c := 12), fI_sV (c := 6), fL_sV (c := 9), fL_sV (c := 12), fI_sV_k, fL_sV_k, fV_sV_k, fI_wF, fI_wG, fI_wR, fL_wF, fL_wG, fL_wR, fV_wF, fV_wG, fV_wR, aF_sV, aG_sV, aR_sV, aF_wG, aF_wR, aG_wF, aG_wR, aR_wF, aR_wG, gO g, aG_wF]
  · simp (decide := true) only [jgI_ob, jgf_ob, jgL_ob, jpI_ob, jpL_ob, jpR_ob, jpN_ob, jrc_ob, obj_sV, obj_wF, obj_wG, obj_wR, arr_sV, arr_wF, arr_wG, arr_wR, arL_sV, arL_wF, arL_wG, arL_wR, arR_sV, arR_wF, arR_wG, arR_wR, fI_sV (c := 0), fI_sV (c := 1), fI_sV (c := 2), fI_sV (c := 4), fI_sV (c := 5), fI_sV (c := 7), fI_sV (c := 8), fI_sV (c := 9), fI_sV (c := 10), fI_sV (c := 11), fI_sV (c := 12), fI_sV (c := 6), fL_sV (c := 9), fL_sV (c := 12), fI_sV_k, fL_sV_k, fV_sV_k, fI_wF, fI_wG, fI_wR, fL_wF, fL_wG, fL_wR, fV_wF, fV_wG, fV_wR, aF_sV, aG_sV, aR_sV, aF_wG, aF_wR, aG_wF, aG_wR, aR_wF, aR_wG, kC, kM, gO g, aF_wF_ne]
/-- one token more -/
theorem c_takeB (g : G h) (cp : CPB h t N k) (ok : OKt t N k) (f11 : fI h 17 10 = 0) (tc : TC h t N (tS t N k)) (H0 : hft t N k = 0 → ∀ h1, fr PAB PFB h h1 → fI h1 17 10 = 0 → fI h1 17 11 = fI h 17 11 → CPB h1 t N (k + 1) → Q none h1) (H1 : hft t N k ≠ 0 → ∀ h1, fr PAB PFB h h1 → fI h1 17 10 = nI (hft t N k) → fI h1 17 11 = nI (tS t N k) → Q none h1) : jex X (d + 5) 50 [.ref 17, .ref 7, .int (nI (tK t N k))] h Q := by
  obtain ⟨c4, cn, c7, co, ca⟩ := id cp
  obtain ⟨tc4, tc3, tcn, tcu⟩ := id tc
  have k4 : k ≤ 400 := by
    refine Classical.byContradiction (fun c => ?_)
    have := hft_0 (ok 400 (by omega))
    omega
  have hq : tK t N k ≤ 20 := tkK_r _
  have fwr := fwl_r (t := t) (N := N) (k := k)
  have l6 := xo_len k ok
  have sN : tS t N k ≤ N := tS_le k
  have J : ∀ c : Nat, c < 100 → (nI (tK t N k) = nI c ↔ tK t N k = c) := fun c hc => nI_eq (by omega) (by omega)
  have J2 : nI (tK t N k) = 2 ↔ tK t N k = 2 := J 2 (by omega)
  have J3 : nI (tK t N k) = 3 ↔ tK t N k = 3 := J 3 (by omega)
  have J5 : nI (tK t N k) = 5 ↔ tK t N k = 5 := J 5 (by omega)
  have J7 : nI (tK t N k) = 7 ↔ tK t N k = 7 := J 7 (by omega)
  have eqn : nnum t N k = nix t N (nms t N k) (tS t N k) := rfl
  -- the last of it
  have JJ : hft t N k = 0 → ∀ (hB : JH), fr PAB PFB h hB → fI hB 17 4 = nI (k + 1) → NRB hB t N (nms t N (k + 1)) → ORB hB (xo t N k) → fI hB 17 10 = 0 → fI hB 17 11 = fI h 17 11 → (∀ i, i ≤ k → aF hB 18 i = nI (tK t N i) ∧ aF hB 19 i = nI (tS t N i) ∧ (tK t N i = 2 → aF hB 20 i = nI (nnum t N i)) ∧ (tK t N i = 3 → aF hB 20 i = nI (dgs t N (tS t N i)) ∧ aF hB 21 i = (if xe t N i = 7 then nI (tur t N (tS t N i)) else zI (dpl t N (tS t N i))))) → (∀ i, i < k → aF hB 21 i = aF h 21 i) → jgI hB (.ref 17) 5 4 (fun x17 => (jrc hB (.ref 17) 5 (jex X (d + 4) 59 [.ref 17, .int (nI (tK t N k)), .int (x17 - 1)] hB fun r19 h18 => (jrN r19 (jpf h18 (.ref 17) 5 7 (.int (nI (fwl t N k))) fun h20 => (Q none h20)))))) := by
    intro o0 hB kB b4 bn bo b11 b12 ba b5
    have gB := G_fr g rfl kB
    have ok1 : OKt t N (k + 1) := fun j hj => by
      by_cases e : j = k
      · rw [e]; exact o0
      · exact ok j (by omega)
    rw [jgI_ob (c := 5) (by simp only [gO gB]) rfl, b4, show nI (k + 1) - 1 = nI k from nI_pred k, jrc_ob (by simp only [gO gB])]
    change jex X (d + 1 + 3) 59 _ _ _
    refine c_joinB gB b4 bo ok o0 (fun hC kC' co' cs => ?_)
    try dsimp only [jrI, jrN, jrA, jisr, jnul, jcat1]
    have gC := G_fr gB rfl kC'
    rw [jpI_ob (c := 5) (by simp only [gO gC]) rfl]
    have kD : fr [] [(17, 7)] hC (sV hC 17 7 (.int (nI (fwl t N k)))) := fr_sV (by decide) fr_rfl
    have hh : fI (sV hC 17 7 (.int (nI (fwl t N k)))) 17 7 = nI (fwl t N k) := by simp (decide := true) only [jgI_ob, jgf_ob, jgL_ob, jpI_ob, jpL_ob, jpR_ob, jpN_ob, jrc_ob, obj_sV, obj_wF, obj_wG, obj_wR, arr_sV, arr_wF, arr_wG, arr_wR, arL_sV, arL_wF, arL_wG, arL_wR, arR_sV, arR_wF, arR_wG, arR_wR, fI_sV (c := 0), fI_sV (c := 1), fI_sV (c := 2), fI_sV (c := 4), fI_sV (c := 5), fI_sV (c := 7), fI_sV (c := 8), fI_sV (c := 9), fI_sV (c := 10), fI_sV (c := 11), fI_sV (c := 12), fI_sV (c := 6), fL_sV (c := 9), fL_sV (c := 12), fI_sV_k, fL_sV_k, fV_sV_k, fI_wF, fI_wG, fI_wR, fL_wF, fL_wG, fL_wR, fV_wF, fV_wG, fV_wR, aF_sV, aG_sV, aR_sV, aF_wG, aF_wR, aG_wF, aG_wR, aR_wF, aR_wG, gO gC]
    generalize sV hC 17 7 (.int (nI (fwl t N k))) = hD at *
    have kCD : fr [21, 23] [(17, 7), (17, 9)] hB hD := fr_trans (fr_mono (fun _ q => q) (by decide) kC') (fr_mono (by decide) (by decide) kD)
    refine H0 o0 hD (fr_trans kB (fr_mono (by decide) (by decide) kCD)) ?_ ?_ ⟨?_, ?_, hh, ?_, fun i hi => ?_⟩
    · rw [frI kCD (by decide) (by decide)]; exact b11
    · rw [frI kCD (by decide) (by decide)]; exact b12
    · rw [frI kCD (by decide) (by decide)]; exact b4
    · exact NR_frB bn kCD (by decide) (by decide)
    · exact OR_frB co' kD (by decide) (by decide)
    · rw [frF kCD (by decide), frF kCD (by decide), frF kCD (by decide), frF kD (by decide)]
      have bi := ba i (by omega)
      have cs := cs i (by omega)
      have ecl : cl t N (k + 1) i = if (tK t N k = 15 ∧ i = la t N k) ∨ ((tK t N k = 6 ∨ tK t N k = 9) ∧ i = hd0 (xo t N k)) then k else cl t N k i := rfl
      have cc := cl_kind (i := i) ok1
      refine ⟨bi.1, bi.2.1, bi.2.2.1, fun e3 => ⟨(bi.2.2.2 e3).1, ?_⟩, fun e6 => ?_, fun ec e4 => ?_⟩
      · rw [cs, if_neg (fun c => by have := cc (Or.inr c); omega)]
        by_cases e : tK t N k = 6 ∧ i = k
        · rw [e.2] at e3; omega
        · rw [if_neg e]
          exact (bi.2.2.2 e3).2
      · rw [cs, if_neg (fun c => by have := cc (Or.inr c); omega)]
        by_cases e : i = k
        · rw [if_pos ⟨by rw [← e]; exact e6, e⟩, e]
        · rw [if_neg (fun c => e c.2), b5 i (by omega)]
          exact (ca i (by omega)).2.2.2.2.1 e6
      · have nl : ¬ (tK t N k = 15 ∧ i = la t N k) := by
          intro w
          obtain ⟨f1, _⟩ := hft_0 o0
          have fi := fwl_inv f1
          have l := la_in k ok (by omega) (by omega)
          rw [w.2] at e4
          exact e4 l.1
        rw [ecl] at ec ⊢
        rw [cs]
        by_cases c : (tK t N k = 6 ∨ tK t N k = 9) ∧ i = hd0 (xo t N k)
        · rw [if_pos c, if_pos (Or.inr c)]
        · have nc : ¬ ((tK t N k = 15 ∧ i = la t N k) ∨ ((tK t N k = 6 ∨ tK t N k = 9) ∧ i = hd0 (xo t N k))) := fun w => w.elim nl c
          rw [if_neg nc] at ec
          have lt := Nat.lt_of_not_le (fun q => ec (cl_ge k i q))
          rw [if_neg c, if_neg nc, if_neg (by omega), b5 i (by omega)]
          exact (ca i (by omega)).2.2.2.2.2 ec e4
  -- behind the names
  have J58 : fwl t N k ≠ 0 → ∀ (h1 : JH) (a4 s0 : Int32) (o5 : Option Value) (c s : Nat), fr [22] [(17, 6)] h h1 → (tK t N k = 2 → a4 = nI (nnum t N k)) → (tK t N k = 3 → a4 = nI (dgs t N (tS t N k))) → (hft t N k = 0 → NRB h1 t N (nms t N (k + 1))) → s0 = (if tK t N k = 5 ∨ tK t N k = 7 then 1 else 0) → jB_X5_takeToken_58 X (d + 4) Q 17 (.ref 7) (nI (tK t N k)) (nI (fwl t N k)) a4 o5 s0 h1 c s := by
    intro fne h1 a4 s0 o5 c s k1 ea4 ea3 enr es0
    have g1 := G_fr g rfl k1
    have e4 : fI h1 17 4 = nI k := by rw [frI k1 (by decide) (by decide)]; exact c4
    have t4 : fI h1 7 4 = nI (tS t N k) := by rw [frI k1 (by decide) (by decide)]; exact tc4
    have e11 : fI h1 17 10 = 0 := by rw [frI k1 (by decide) (by decide)]; exact f11
    have e9 : fI h1 17 9 = nI (xo t N k).length := by rw [frI k1 (by decide) (by decide)]; exact co.1
    have F2 : hft t N k = 2 → jisr (.ref 7) (jgI h1 (.ref 7) 9 4 fun x2 => (jrc h1 (.ref 17) 5 (jex X (d + 4) 56 [.ref 17, .int 2, .int x2] h1 fun r4 h3 => (jrN r4 (Q none h3))))) := by
      intro e2
      dsimp only [jisr]
      rw [jgI_ob (c := 9) (by simp only [gO g1]) rfl, t4, jrc_ob (by simp only [gO g1])]
      change jex X (d + 3 + 1) 56 _ _ _
      refine c_noteB g1 (fun _ => ?_) (fun q => absurd e11 q)
      try dsimp only [jrI, jrN, jrA, jisr, jnul, jcat1]
      refine H1 (by omega) _ (fr_sV (by decide) (fr_sV (by decide) (fr_mono (by decide) (by decide) k1))) ?_ ?_
      · rw [e2]
        simp (decide := true) only [jgI_ob, jgf_ob, jgL_ob, jpI_ob, jpL_ob, jpR_ob, jpN_ob, jrc_ob, obj_sV, obj_wF, obj_wG, obj_wR, arr_sV, arr_wF, arr_wG, arr_wR, arL_sV, arL_wF, arL_wG, arL_wR, arR_sV, arR_wF, arR_wG, arR_wR, fI_sV (c := 0), fI_sV (c := 1), fI_sV (c := 2), fI_sV (c := 4), fI_sV (c := 5), fI_sV (c := 7), fI_sV (c := 8), fI_sV (c := 9), fI_sV (c := 10), fI_sV (c := 11), fI_sV (c := 12), fI_sV (c := 6), fL_sV (c := 9), fL_sV (c := 12), fI_sV_k, fL_sV_k, fV_sV_k, fI_wF, fI_wG, fI_wR, fL_wF, fL_wG, fL_wR, fV_wF, fV_wG, fV_wR, aF_sV, aG_sV, aR_sV, aF_wG, aF_wR, aG_wF, aG_wR, aR_wF, aR_wG, gO g1]
      · simp (decide := true) only [jgI_ob, jgf_ob, jgL_ob, jpI_ob, jpL_ob, jpR_ob, jpN_ob, jrc_ob, obj_sV, obj_wF, obj_wG, obj_wR, arr_sV, arr_wF, arr_wG, arr_wR, arL_sV, arL_wF, arL_wG, arL_wR, arR_sV, arR_wF, arR_wG, arR_wR, fI_sV (c := 0), fI_sV (c := 1), fI_sV (c := 2), fI_sV (c := 4), fI_sV (c := 5), fI_sV (c := 7), fI_sV (c := 8), fI_sV (c := 9), fI_sV (c := 10), fI_sV (c := 11), fI_sV (c := 12), fI_sV (c := 6), fL_sV (c := 9), fL_sV (c := 12), fI_sV_k, fL_sV_k, fV_sV_k, fI_wF, fI_wG, fI_wR, fL_wF, fL_wG, fL_wR, fV_wF, fV_wG, fV_wR, aF_sV, aG_sV, aR_sV, aF_wG, aF_wR, aG_wF, aG_wR, aR_wF, aR_wG, gO g1]
    have J106 : hft t N k = 0 → ∀ (o5 : Option Value) (c s : Nat), jB_X5_takeToken_106 X (d + 4) Q 17 (.ref 7) (nI (tK t N k)) (nI (fwl t N k)) a4 o5 h1 c s := by
      intro o0 o5 c s
      have hf := hft_0 o0
      refine jT_X5_takeToken_106 ?_
      refine c_putB g1 e4 hf.2.1 (fun hA kA a4' p1 p2 p3 p4 p5 p6 => ?_)
      have gA := G_fr g1 rfl kA
      have kA' : fr PAB PFB h hA := fr_trans (fr_mono (by decide) (by decide) k1) (fr_mono (fun _ q => q) (by decide) kA)
      have nA : NRB hA t N (nms t N (k + 1)) := by
        have w := enr o0
        unfold NRB at w ⊢
        rw [frI kA (by decide) (by decide), p5]
        exact w
      have oA : ORB hA (xo t N k) := by
        unfold ORB at co ⊢
        rw [frI kA (by decide) (by decide), frI k1 (by decide) (by decide), p6, frF k1 (by decide)]
        exact co
      have A11 : fI hA 17 10 = 0 := by rw [frI kA (by decide) (by decide)]; exact e11
      have A12 : fI hA 17 11 = fI h 17 11 := by rw [frI kA (by decide) (by decide), frI k1 (by decide) (by decide)]
      have A7 : fI hA 17 7 = nI (xe t N k) := by rw [frI kA (by decide) (by decide), frI k1 (by decide) (by decide)]; exact c7
      have q1 : aF h1 18 = aF h 18 := frF k1 (by decide)
      have q2 : aF h1 19 = aF h 19 := frF k1 (by decide)
      have q3 : aF h1 20 = aF h 20 := frF k1 (by decide)
      have q4 : aF h1 21 = aF h 21 := frF k1 (by decide)
      have t7 : fI h1 7 7 = fI h 7 7 := frI k1 (by decide) (by decide)
      rw [q1] at p1
      rw [q2, t4] at p2
      rw [q3] at p3
      rw [q4, t7] at p4
      -- facts of the arrays, whatever became of seconds at k
      have BA : ∀ (w : Nat → Int32), (∀ i, i < k → w i = aF hA 21 i) → (tK t N k = 3 → w k = (if xe t N k = 7 then nI (tur t N (tS t N k)) else zI (dpl t N (tS t N k)))) → ∀ i, i ≤ k → aF hA 18 i = nI (tK t N i) ∧ aF hA 19 i = nI (tS t N i) ∧ (tK t N i = 2 → aF hA 20 i = nI (nnum t N i)) ∧ (tK t N i = 3 → aF hA 20 i = nI (dgs t N (tS t N i)) ∧ w i = (if xe t N i = 7 then nI (tur t N (tS t N i)) else zI (dpl t N (tS t N i)))) := by
        intro w w1 w2 i hi
        rw [p1, p2, p3]
        unfold upd
        by_cases e : i = k
        · rw [if_pos e, if_pos e, if_pos e, e]
          exact ⟨rfl, rfl, ea4, fun q => ⟨ea3 q, w2 q⟩⟩
        · have a := ca i (by omega)
          rw [if_neg e, if_neg e, if_neg e, w1 i (by omega), p4]
          unfold upd
          rw [if_neg e]
          exact ⟨a.1, a.2.1, a.2.2.1, a.2.2.2.1⟩
      have w4 : ∀ i, i < k → aF hA 21 i = aF h 21 i := fun i hi => by rw [p4]; exact if_neg (by omega)
      refine ⟨fun c3 => ?_, fun c3 => ?_⟩
      · have c3 := J3.1 c3
        have tu := tcu c3
        rw [jgI_ob (c := 5) (by simp only [gO gA]) rfl, A7]
        have xr := xe_1 ok
        refine ⟨fun e7 => ?_, fun e7 => ?_⟩
        · have e7 : xe t N k = 7 := (nI_eq (b := 7) (by omega) (by omega)).1 e7
          have SS : ∀ (w : Int32), w = nI (tur t N (tS t N k)) → jex X (d + 4) 58 [.ref 17, .int (nI k), .int w] hA (fun r30 h29 => (jrN r30 (jgI h29 (.ref 17) 5 4 fun x31 => (jrc h29 (.ref 17) 5 (jex X (d + 4) 59 [.ref 17, .int (nI (tK t N k)), .int (x31 - 1)] h29 fun r33 h32 => (jrN r33 (jpf h32 (.ref 17) 5 7 (.int (nI (fwl t N k))) fun h34 => (Q none h34)))))))) := by
            intro w ew
            change jex X (d + 2 + 2) 58 _ _ _
            refine c_setSecB gA a4' (by omega) (i := k) (by omega) ?_
            try dsimp only [jrI, jrN, jrA, jisr, jnul, jcat1]
            have kB : fr [21] [] hA (wF hA 21 (upd (aF hA 21) k w)) := fr_wF (by decide) fr_rfl
            have r4 : aF (wF hA 21 (upd (aF hA 21) k w)) 21 = upd (aF hA 21) k w := by simp (decide := true) only [kC, kM, gO gA]
            generalize wF hA 21 (upd (aF hA 21) k w) = hB at *
            refine JJ o0 hB (fr_trans kA' (fr_mono (by decide) (by decide) kB)) ?_ (NR_frB nA kB (by decide) (by decide)) (OR_frB oA kB (by decide) (by decide)) ?_ ?_ ?_ ?_
            · rw [frI kB (by decide) (by decide)]; exact a4'
            · rw [frI kB (by decide) (by decide)]; exact A11
            · rw [frI kB (by decide) (by decide)]; exact A12
            · rw [frF kB (by decide), frF kB (by decide), frF kB (by decide), r4]
              exact BA _ (fun i hi => if_neg (by omega)) (fun _ => by rw [if_pos e7, ← ew]; exact if_pos rfl)
            · intro i hi
              rw [r4]
              exact (if_neg (by omega)).trans (w4 i hi)
          rw [jgI_ob (c := 5) (by simp only [gO gA]) rfl, a4', show nI (k + 1) - 1 = nI k from nI_pred k]
          dsimp only [jisr]
          have x9 : fI hA 7 9 = bi (ptd t N (tS t N k)) := by rw [frI kA (by decide) (by decide), frI k1 (by decide) (by decide)]; exact tu.2.2.2
          have x8 : fI hA 7 8 = nI (whl t (tS t N k) (ptE t N (tS t N k) - tS t N k)) := by rw [frI kA (by decide) (by decide), frI k1 (by decide) (by decide)]; exact tu.2.2.1
          rw [jgI_ob (c := 9) (by simp only [gO gA]) rfl, x9]
          cases ep : ptd t N (tS t N k) with
          | true =>
            refine jif_n (by decide) ?_
            rw [jrc_ob (by simp only [gO gA])]
            exact SS 100 (by unfold tur; rw [if_pos ep]; rfl)
          | false =>
            refine jif_t rfl ?_
            rw [jgI_ob (c := 9) (by simp only [gO gA]) rfl, x8, jrc_ob (by simp only [gO gA])]
            exact SS _ (by unfold tur; rw [if_neg (by rw [ep]; decide)])
        · have e7 : xe t N k ≠ 7 := fun q => e7 (by rw [q]; rfl)
          refine JJ o0 hA kA' a4' nA oA A11 A12 (BA _ (fun _ _ => rfl) (fun _ => ?_)) w4
          rw [if_neg e7, p4]
          exact (if_pos rfl).trans tu.2.1
      · exact JJ o0 hA kA' a4' nA oA A11 A12 (BA _ (fun _ _ => rfl) (fun q => absurd (J3.2 q) c3)) w4
    have SPLIT : (tK t N k = 2 → nnum t N k < 12) → k < 400 → ∀ (o : Option Value), jifp (s0 = 0) (jB_X5_takeToken_106 X (d + 4) Q 17 (.ref 7) (nI (tK t N k)) (nI (fwl t N k)) a4 o h1 c s) (jgI h1 (.ref 17) 5 9 fun x5 => (jifp (x5 < 6) (jB_X5_takeToken_106 X (d + 4) Q 17 (.ref 7) (nI (tK t N k)) (nI (fwl t N k)) a4 o h1 c s) (jisr (.ref 7) (jgI h1 (.ref 7) 9 4 fun x2 => (jrc h1 (.ref 17) 5 (jex X (d + 4) 56 [.ref 17, .int 2, .int x2] h1 fun r4 h3 => (jrN r4 (Q none h3)))))))) := by
      intro n12 k400 o
      refine ⟨fun c1 => J106 ?_ _ _ _, fun c1 => ?_⟩
      · have nn : ¬ (tK t N k = 5 ∨ tK t N k = 7) := fun q => by rw [if_pos q] at es0; rw [es0] at c1; exact absurd c1 (by decide)
        unfold hft
        rw [if_neg fne, if_neg]
        rintro (q | q | q)
        · omega
        · have := n12 q.1; omega
        · exact nn q.1
      · have nn : tK t N k = 5 ∨ tK t N k = 7 := Classical.byContradiction (fun q => by rw [if_neg q] at es0; exact c1 es0)
        rw [jgI_ob (c := 5) (by simp only [gO g1]) rfl, e9]
        refine ⟨fun c2 => J106 ?_ _ _ _, fun c2 => F2 ?_⟩
        · have c2 := (nI_ltI (b := 6) (by omega) (by omega)).1 c2
          unfold hft
          rw [if_neg fne, if_neg]
          rintro (q | q | q)
          · omega
          · have := n12 q.1; omega
          · omega
        · have c2 : ¬ (xo t N k).length < 6 := fun q => c2 (nI_lt (b := 6) q (by omega))
          unfold hft
          rw [if_neg fne, if_pos (Or.inr (Or.inr ⟨nn, by omega⟩))]
    refine jT_X5_takeToken_58 ?_
    rw [jgI_ob (c := 5) (by simp only [gO g1]) rfl, e4]
    refine ⟨fun c1 => ?_, fun c1 => F2 ?_⟩
    · have c1 := (nI_ltI (b := 400) (by omega) (by omega)).1 c1
      refine ⟨fun c2 => SPLIT (fun q => ?_) c1 _, fun c2 => ⟨fun c3 => F2 ?_, fun c3 => SPLIT (fun q => absurd (J2.2 q) c3) c1 _⟩⟩
      · have nb : nnum t N k ≤ (nms t N k).length := nix_le
        have nl := nms_len k ok
        rw [ea4 q] at c2
        exact (nI_ltI (b := 12) (by omega) (by omega)).1 c2
      · have c3 := J2.1 c3
        rw [ea4 c3] at c2
        have : 12 ≤ nnum t N k := by
          rcases Nat.lt_or_ge (nnum t N k) 12 with q | q
          · exact absurd (nI_lt (b := 12) q (by omega)) c2
          · exact q
        unfold hft
        rw [if_neg fne, if_pos (Or.inr (Or.inl ⟨c3, this⟩))]
    · have : ¬ k < 400 := fun q => c1 (nI_lt (b := 400) q (by omega))
      unfold hft
      rw [if_neg fne, if_pos (Or.inl (by omega))]
  rw [jE_X5_takeToken]
  refine jT_X5_takeToken_0 ?_
  rw [jrc_ob (by simp only [gO g])]
  refine c_followerB g c4 c7 co ok (fun i hi => (ca i hi).1) ?_
  try dsimp only [jrI, jrN, jrA, jisr, jnul, jcat1]
  refine ⟨fun c0 => ?_, fun c0 => ?_⟩
  · have c0 : fwl t N k = 0 := (nI_eq (b := 0) (by omega) (by omega)).1 c0
    have e1 : hft t N k = 1 := by unfold hft; rw [if_pos c0]
    rw [jgI_ob (c := 9) (by simp only [gO g]) rfl, tc4, jrc_ob (by simp only [gO g])]
    change jex X (d + 3 + 1) 56 _ _ _
    refine c_noteB g (fun _ => ?_) (fun q => absurd f11 q)
    try dsimp only [jrI, jrN, jrA, jisr, jnul, jcat1]
    refine H1 (by omega) _ (fr_sV (by decide) (fr_sV (by decide) fr_rfl)) ?_ ?_
    · rw [e1]
      simp (decide := true) only [jgI_ob, jgf_ob, jgL_ob, jpI_ob, jpL_ob, jpR_ob, jpN_ob, jrc_ob, obj_sV, obj_wF, obj_wG, obj_wR, arr_sV, arr_wF, arr_wG, arr_wR, arL_sV, arL_wF, arL_wG, arL_wR, arR_sV, arR_wF, arR_wG, arR_wR, fI_sV (c := 0), fI_sV (c := 1), fI_sV (c := 2), fI_sV (c := 4), fI_sV (c := 5), fI_sV (c := 7), fI_sV (c := 8), fI_sV (c := 9), fI_sV (c := 10), fI_sV (c := 11), fI_sV (c := 12), fI_sV (c := 6), fL_sV (c := 9), fL_sV (c := 12), fI_sV_k, fL_sV_k, fV_sV_k, fI_wF, fI_wG, fI_wR, fL_wF, fL_wG, fL_wR, fV_wF, fV_wG, fV_wR, aF_sV, aG_sV, aR_sV, aF_wG, aF_wR, aG_wF, aG_wR, aR_wF, aR_wG, gO g]
    · simp (decide := true) only [jgI_ob, jgf_ob, jgL_ob, jpI_ob, jpL_ob, jpR_ob, jpN_ob, jrc_ob, obj_sV, obj_wF, obj_wG, obj_wR, arr_sV, arr_wF, arr_wG, arr_wR, arL_sV, arL_wF, arL_wG, arL_wR, arR_sV, arR_wF, arR_wG, arR_wR, fI_sV (c := 0), fI_sV (c := 1), fI_sV (c := 2), fI_sV (c := 4), fI_sV (c := 5), fI_sV (c := 7), fI_sV (c := 8), fI_sV (c := 9), fI_sV (c := 10), fI_sV (c := 11), fI_sV (c := 12), fI_sV (c := 6), fL_sV (c := 9), fL_sV (c := 12), fI_sV_k, fL_sV_k, fV_sV_k, fI_wF, fI_wG, fI_wR, fL_wF, fL_wG, fL_wR, fV_wF, fV_wG, fV_wR, aF_sV, aG_sV, aR_sV, aF_wG, aF_wR, aG_wF, aG_wR, aR_wF, aR_wG, gO g]
  · have fne : fwl t N k ≠ 0 := fun q => c0 (by rw [q]; rfl)
    refine ⟨fun c2 => ?_, fun c2 => ?_⟩
    · have c2 := J2.1 c2
      rw [jgL_ob (c := 9) (by simp only [gO g]) rfl, tcn c2, jrc_ob (by simp only [gO g])]
      change jex X (d + 3 + 1) 57 [.ref 17, .long (lN (w27 t N (tS t N k)))] _ _
      refine c_nameNumberB g cn (nms_len k ok) c2 (nms_name k) (fun h1 k1 w1 => ?_)
      try dsimp only [jrI, jrN, jrA, jisr, jnul, jcat1]
      have W : hft t N k = 0 → NRB h1 t N (nms t N (k + 1)) := by
        intro o0
        have w := w1 ((hft_0 o0).2.2.1 c2)
        rw [← eqn] at w
        rw [nms_s]
        by_cases e : nnum t N k = (nms t N k).length
        · rw [if_pos ⟨c2, e⟩]; rw [if_pos e] at w; exact w
        · rw [if_neg (fun q => e q.2)]; rw [if_neg e] at w; exact w
      refine ⟨fun q => absurd (J5.1 q) (by omega), fun _ => ⟨fun q => absurd (J7.1 q) (by omega), fun _ => J58 fne h1 _ _ _ _ _ k1 (fun _ => rfl) (fun q => by omega) W ?_⟩⟩
      rw [if_neg (by omega)]
    · have c2 : tK t N k ≠ 2 := fun q => c2 (J2.2 q)
      have en : nms t N (k + 1) = nms t N k := by rw [nms_s, if_neg (fun q => c2 q.1)]
      rw [jgI_ob (c := 9) (by simp only [gO g]) rfl]
      have J := fun (s0 : Int32) (es : s0 = (if tK t N k = 5 ∨ tK t N k = 7 then 1 else 0)) => J58 fne h (fI h 7 6) s0 none 0 0 fr_rfl (fun q => absurd q c2) (fun q => (tcu q).1) (fun _ => by rw [en]; exact cn) es
      refine ⟨fun q => J 1 (by rw [if_pos (Or.inl (J5.1 q))]), fun q => ⟨fun q2 => J 1 (by rw [if_pos (Or.inr (J7.1 q2))]), fun q2 => J 0 (by rw [if_neg (fun w => by rcases w with w | w; exact q (J5.2 w); exact q2 (J7.2 w))])⟩⟩
end CSRB
