/-! THE TABLE OF PLACES: the law's whole-number logarithms -/
def lgS (q : Nat × Nat) : Nat × Nat := if q.1 * q.1 / 100000000 < 1000000000 then (q.1 * q.1 / 100000000, q.2 * 2) else (q.1 * q.1 / 100000000 / 10, q.2 * 2 + 1)
def lgI : Nat → Nat × Nat → Nat × Nat
  | 0, q => q
  | n + 1, q => lgI n (lgS q)
def lg (m : Nat) : Nat := (lgI 12 (m * 1000000, 0)).2
/-- the reach of a mark by its number, 900 to a decade -/
def lgU (i : Nat) : Nat := lg (i % 900 + 100) + 4096 * (i / 900)
theorem lg_tab : ∀ m, m < 900 → lg (m + 100) ≤ 4095 ∧ (m = 899 → 4078 ≤ lg (m + 100)) ∧ (m = 0 → lg (m + 100) = 0) ∧ (m < 899 → lg (m + 100) ≤ lg (m + 101) ∧ lg (m + 101) ≤ lg (m + 100) + 18) := by decide +kernel
theorem lgU_step (i : Nat) : lgU i ≤ lgU (i + 1) ∧ lgU (i + 1) ≤ lgU i + 18 := by
  unfold lgU
  have h1 := lg_tab (i % 900) (Nat.mod_lt _ (by decide))
  have h0 := lg_tab 0 (by decide)
  rcases Nat.lt_or_ge (i % 900) 899 with h | h
  · have e1 : (i + 1) % 900 = i % 900 + 1 := by omega
    have e2 : (i + 1) / 900 = i / 900 := by omega
    rw [e1, e2, show i % 900 + 1 + 100 = i % 900 + 101 from rfl]
    have := h1.2.2.2 h
    omega
  · have e0 : i % 900 = 899 := by omega
    have e1 : (i + 1) % 900 = 0 := by omega
    have e2 : (i + 1) / 900 = i / 900 + 1 := by omega
    rw [e1, e2]
    have a := h1.2.1 e0
    have b := h0.2.2.1 rfl
    have c := h1.1
    omega
theorem lgU_mono {i j : Nat} (h : i ≤ j) : lgU i ≤ lgU j := by
  induction h with
  | refl => exact Nat.le_refl _
  | step _ ih => exact Nat.le_trans ih (lgU_step _).1
theorem lgU_0 : lgU 0 = 0 := by decide +kernel
theorem lgU_900 (k : Nat) : lgU (900 * k) = 4096 * k := by
  unfold lgU
  have e1 : 900 * k % 900 = 0 := by omega
  have e2 : 900 * k / 900 = k := by omega
  rw [e1, e2]
  have b := (lg_tab 0 (by decide)).2.2.1 rfl
  omega
theorem lgU_lt (i : Nat) : lgU i ≤ 4095 + 4096 * (i / 900) := by
  unfold lgU
  have h1 := lg_tab (i % 900) (Nat.mod_lt _ (by decide))
  omega
theorem lgS_ok {x b : Nat} (h1 : 100000000 ≤ x) (h2 : x < 1000000000) : 100000000 ≤ (lgS (x, b)).1 ∧ (lgS (x, b)).1 < 1000000000 := by
  have a1 : 100000000 * 100000000 ≤ x * x := Nat.mul_le_mul h1 h1
  have a2 : x * x ≤ 999999999 * 999999999 := Nat.mul_le_mul (by omega) (by omega)
  unfold lgS
  dsimp only
  generalize x * x = y at a1 a2
  split <;> (dsimp only; omega)
theorem lgS_b {x b k : Nat} (h : b < 2 ^ k) : (lgS (x, b)).2 < 2 ^ (k + 1) := by
  unfold lgS
  rw [Nat.pow_succ]
  split <;> (dsimp only; omega)
theorem l_log {X : JX} {d : Nat} {Q : JQ} {o0 : Option Value} {h : JH} {c s : Nat} : ∀ (n k x b : Nat), k + n = 12 → 100000000 ≤ x → x < 1000000000 → b < 2 ^ k → Q (some (.int (nI (lgI n (x, b)).2))) h → jB_X3_logarithm_12 X d Q o0 (lN x) (nI b) (nI k) h c s
  | 0, k, x, b, hk, h1, h2, hb, H => by
    refine jT_X3_logarithm_12 (jif_n ?_ H)
    have : k = 12 := by omega
    subst this
    decide
  | n + 1, k, x, b, hk, h1, h2, hb, H => by
    have hp : 2 ^ k ≤ 2 ^ 12 := Nat.pow_le_pow_right (by decide) (by omega)
    refine jT_X3_logarithm_12 (jif_t ?_ ⟨by decide, ?_⟩)
    · show nI k < nI 12
      exact nI_lt (by omega) (by decide)
    have a1 : 100000000 * 100000000 ≤ x * x := Nat.mul_le_mul h1 h1
    have a2 : x * x ≤ 999999999 * 999999999 := Nat.mul_le_mul (by omega) (by omega)
    have e1 : lN x * lN x / (100000000 : Int64) = lN (x * x / 100000000) := by
      rw [lN_mul]
      exact pk_lDiv (by omega) (by decide) (by decide)
    have e2 : (nI b * 2 : Int32) = nI (b * 2) := (Int32.ofNat_mul b 2).symm
    have e3 : (nI k + 1 : Int32) = nI (k + 1) := nI_1 k
    have hok := lgS_ok (b := b) h1 h2
    have hbk := lgS_b (x := x) hb
    rw [e1, e2, e3, lg_cmp_lt]
    have e4 : (lN (x * x / 100000000) < (1000000000 : Int64)) = (x * x / 100000000 < 1000000000) := propext (pk_lLT (a := x * x / 100000000) (b := 1000000000) (by omega) (by decide))
    rw [e4]
    rw [lgI] at H
    refine ⟨fun hc => ?_, fun hc => ⟨by decide, ?_⟩⟩
    · have es : lgS (x, b) = (x * x / 100000000, b * 2) := if_pos hc
      rw [es] at H hok hbk
      exact l_log n (k + 1) _ _ (by omega) hok.1 hok.2 hbk H
    · have es : lgS (x, b) = (x * x / 100000000 / 10, b * 2 + 1) := if_neg hc
      rw [es] at H hok hbk
      have e5 : lN (x * x / 100000000) / (10 : Int64) = lN (x * x / 100000000 / 10) := pk_lDiv (by omega) (by decide) (by decide)
      have e6 : (nI (b * 2) + 1 : Int32) = nI (b * 2 + 1) := nI_1 _
      rw [e5, e6]
      exact l_log n (k + 1) _ _ (by omega) hok.1 hok.2 hbk H
theorem c_logarithm {X : JX} {d : Nat} {Q : JQ} {h : JH} {m : Nat} (h1 : 100 ≤ m) (h2 : m < 1000) (H : Q (some (.int (nI (lg m)))) h) : jex X (d + 1) 2 [.int (nI m)] h Q := by
  rw [jE_X3_logarithm]
  refine jT_X3_logarithm_0 ?_
  have e : Int32.toInt64 (nI m) * 1000000 = lN (m * 1000000) := by
    rw [nI_l (by omega)]
    exact lN_mul m 1000000
  rw [e]
  exact l_log 12 0 (m * 1000000) 0 rfl (by omega) (by omega) (by decide) H
/-! APPENDING A CELL -/
theorem get_app {h : JH} {c : JC} {p : Nat} (hp : p < h.length) : (h ++ [c])[p]? = h[p]? := List.getElem?_append_left hp
theorem get_end {h : JH} {c : JC} : (h ++ [c])[h.length]? = some c := by simp
theorem len_app {h : JH} {c : JC} : (h ++ [c]).length = h.length + 1 := by simp
theorem sh_app {h : JH} {c : JC} {p : Nat} (hp : p < h.length) : sh (h ++ [c]) p = sh h p := by unfold sh; rw [get_app hp]
theorem sh_end {h : JH} {c : JC} : sh (h ++ [c]) h.length = some (shp c) := by unfold sh; rw [get_end]; rfl
theorem sh_lt {h : JH} {p : Nat} {q : (FieldType × Nat × Nat) ⊕ (Nat × List Nat)} (e : sh h p = some q) : p < h.length := by
  unfold sh at e
  rcases Nat.lt_or_ge p h.length with hp | hp
  · exact hp
  · rw [List.getElem?_eq_none hp] at e; cases e
theorem obj_app {h : JH} {c : JC} {p k : Nat} (ho : obj h p k) : obj (h ++ [c]) p k := by
  unfold obj at ho ⊢; rw [sh_app (sh_lt ho)]; exact ho
theorem arr_app {h : JH} {c : JC} {p n : Nat} {t : FieldType} (ho : arr h p t n) : arr (h ++ [c]) p t n := by
  unfold arr at ho ⊢; rw [sh_app (sh_lt ho)]; exact ho
theorem arL_app {h : JH} {c : JC} {p n : Nat} (ho : arL h p n) : arL (h ++ [c]) p n := by
  unfold arL at ho ⊢; rw [sh_app (sh_lt ho)]; exact ho
theorem arR_app {h : JH} {c : JC} {p k n : Nat} (ho : arR h p k n) : arR (h ++ [c]) p k n := by
  obtain ⟨q, hq, ho⟩ := ho
  exact ⟨q, hq, by rw [sh_app (sh_lt ho)]; exact ho⟩
theorem fV_app {h : JH} {c : JC} {p k : Nat} (hp : p < h.length) : fV (h ++ [c]) p k = fV h p k := by unfold fV; rw [get_app hp]
theorem fI_app {h : JH} {c : JC} {p k : Nat} (hp : p < h.length) : fI (h ++ [c]) p k = fI h p k := by unfold fI; rw [fV_app hp]
theorem fL_app {h : JH} {c : JC} {p k : Nat} (hp : p < h.length) : fL (h ++ [c]) p k = fL h p k := by unfold fL; rw [fV_app hp]
theorem aF_app {h : JH} {c : JC} {p : Nat} (hp : p < h.length) : aF (h ++ [c]) p = aF h p := by unfold aF; rw [get_app hp]
theorem aG_app {h : JH} {c : JC} {p : Nat} (hp : p < h.length) : aG (h ++ [c]) p = aG h p := by unfold aG; rw [get_app hp]
theorem aR_app {h : JH} {c : JC} {p : Nat} (hp : p < h.length) : aR (h ++ [c]) p = aR h p := by unfold aR; rw [get_app hp]
