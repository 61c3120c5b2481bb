/-! ORDERS: what they keep, and what a factor comes to -/
theorem ends_n {n : Nat} (h1 : 1 ≤ n) (h7 : n ≤ 7) : ends 5040 (List.range n) = true := by
  have := List.all_eq_true.mp ends_all n (List.mem_range.mpr (by omega))
  rcases Bool.or_eq_true _ _ ▸ this with h | h
  · have := beq_iff_eq.mp h; omega
  · exact h
theorem hits_n {n f : Nat} (hf : f < n) (h7 : n ≤ 7) : hits f 5040 (List.range n) = true := by
  have := List.all_eq_true.mp hits_all n (List.mem_range.mpr (by omega))
  exact List.all_eq_true.mp this f (List.mem_range.mpr hf)
/-- an order: so many numbers, each below that many -/
def OK (n : Nat) (L : List Nat) : Prop := L.length = n ∧ ∀ i, gt L i < n
theorem OK_range {n : Nat} (h1 : 1 ≤ n) : OK n (List.range n) := by
  refine ⟨List.length_range, fun i => ?_⟩
  unfold gt
  rw [List.getD_eq_getElem?_getD]
  by_cases c : i < n
  · rw [List.getElem?_range c]; exact c
  · rw [List.getElem?_eq_none (by rw [List.length_range]; omega)]; exact h1
theorem gt_range {n i : Nat} (h : i < n) : gt (List.range n) i = i := by
  unfold gt
  rw [List.getD_eq_getElem?_getD, List.getElem?_range h]
  rfl
theorem gt_swp {L : List Nat} {a b i : Nat} (ha : a < L.length) (hb : b < L.length) : gt (swp L a b) i = if i = b then gt L a else if i = a then gt L b else gt L i := by
  unfold swp gt
  simp only [List.getD_eq_getElem?_getD, List.getElem?_set, List.length_set]
  by_cases c1 : i = b
  · subst c1
    simp [hb]
  · rw [if_neg (fun e => c1 e.symm), if_neg c1]
    by_cases c2 : i = a
    · subst c2
      simp [ha]
    · rw [if_neg (fun e => c2 e.symm), if_neg c2]
theorem swp_len {L : List Nat} {a b : Nat} : (swp L a b).length = L.length := by
  unfold swp
  rw [List.length_set, List.length_set]
theorem OK_swp {n a b : Nat} {L : List Nat} (h : OK n L) (ha : a < n) (hb : b < n) : OK n (swp L a b) := by
  refine ⟨swp_len.trans h.1, fun i => ?_⟩
  rw [gt_swp (by rw [h.1]; exact ha) (by rw [h.1]; exact hb)]
  split
  · exact h.2 a
  · split
    · exact h.2 b
    · exact h.2 i
theorem OK_rvs {n : Nat} : ∀ (j : Nat) (L : List Nat) (a b : Nat), OK n L → b < n → OK n (rvs j L a b)
  | 0, L, a, b, h, _ => h
  | j + 1, L, a, b, h, hb => by
    unfold rvs
    split
    · exact OK_rvs j _ _ _ (OK_swp h (by omega) hb) (by omega)
    · exact h
theorem scnI_lt {L : List Nat} : ∀ (m i : Nat), scnI L m = some i → i < m
  | 0, i, h => by cases h
  | m + 1, i, h => by
    unfold scnI at h
    split at h
    · have := scnI_lt m i h; omega
    · have := Option.some.inj h; omega
theorem scnK_le {L : List Nat} {t : Nat} : ∀ k, scnK L t k ≤ k
  | 0 => Nat.le_refl _
  | k + 1 => by
    unfold scnK
    split
    · have := scnK_le (L := L) (t := t) k; omega
    · exact Nat.le_refl _
theorem OK_nx {n : Nat} {L M : List Nat} (h : OK n L) (h1 : 1 ≤ n) (e : nx L = some M) : OK n M := by
  unfold nx at e
  rw [h.1] at e
  cases hs : scnI L (n - 1) with
  | none => rw [hs] at e; cases e
  | some i =>
    rw [hs] at e
    have := Option.some.inj e
    subst this
    have hi := scnI_lt _ _ hs
    have hk := scnK_le (L := L) (t := i) (n - 1)
    exact OK_rvs 8 _ _ _ (OK_swp h (by omega) (by omega)) (by omega)
/-- an array holds an order -/
def TR (h : JH) (q : Nat) (L : List Nat) : Prop := ∀ i, i < L.length → aF h q i = nI (gt L i)
/-- one factor more: what it comes to with a rule without flaws -/
def tst (x : S7) (p plc : Int) (isOver behind : Bool) : S7 :=
  if isOver then s7 (zh x - p) (if zh x - p < 0 then zh x - p + 4096 else zh x - p) 0 0 (zsl x + 1) (zhm x + 1) (zpl x - (plc + (if zh x - p < 0 then 1 else 0)))
  else
    let s1 := if behind then zs x else zh x
    let sl1 := if behind then zsl x else zsl x + 1
    let pl1 := if behind then zpl x + (if zs x < 0 then 1 else 0) else zpl x
    if 4096 < s1 + p then s7 (s1 - 4096) (s1 - 4096 + p) 0 0 (sl1 + 1) (zhm x + 1) (pl1 + 1 + plc)
    else if s1 + p < 0 then s7 (s1 + 4096) (s1 + 4096 + p) 0 0 (sl1 + 1) (zhm x + 1) (pl1 - 1 + plc)
    else s7 s1 (s1 + p) 0 0 sl1 (zhm x + 1) (pl1 + plc)
def BT (i : Nat) (x : S7) : Prop := -4096 ≤ zs x ∧ zs x ≤ 4096 ∧ 0 ≤ zh x ∧ zh x ≤ 4096 ∧ zu x = 0 ∧ zv x = 0 ∧ 0 ≤ zsl x ∧ zsl x ≤ 2 * i ∧ 0 ≤ zhm x ∧ zhm x ≤ i ∧ -(102 * (i : Int)) ≤ zpl x ∧ zpl x ≤ 102 * i
theorem BT_tst {i : Nat} {x : S7} {p plc : Int} {o bh : Bool} (b : BT i x) (p0 : 0 ≤ p) (p1 : p ≤ 4095) (q0 : -99 ≤ plc) (q1 : plc ≤ 99) : BT (i + 1) (tst x p plc o bh) := by
  unfold BT at *
  unfold tst
  obtain ⟨b1, b2, b3, b4, b5, b6, b7, b8, b9, b10, b11, b12⟩ := b
  cases o
  · cases bh
    · simp only [Bool.false_eq_true, if_false]
      split
      · simp only [zs, zh, zu, zv, zsl, zhm, zpl, s7, true_and, and_true] at *; omega
      · split
        · simp only [zs, zh, zu, zv, zsl, zhm, zpl, s7, true_and, and_true] at *; omega
        · simp only [zs, zh, zu, zv, zsl, zhm, zpl, s7, true_and, and_true] at *; omega
    · simp only [Bool.false_eq_true, if_false, if_true]
      split
      · simp only [zs, zh, zu, zv, zsl, zhm, zpl, s7, true_and, and_true] at *; omega
      · split
        · simp only [zs, zh, zu, zv, zsl, zhm, zpl, s7, true_and, and_true] at *; omega
        · simp only [zs, zh, zu, zv, zsl, zhm, zpl, s7, true_and, and_true] at *; omega
  · simp only [if_true]
    simp only [zs, zh, zu, zv, zsl, zhm, zpl, s7, true_and, and_true] at *
    omega
theorem jd_0 {x : S7} (hu : zu x = 0) (hv : zv x = 0) : jd x = 0 := by
  unfold jd
  rw [if_neg (by omega)]
theorem ideal_div {i : Nat} {x : S7} {p plc : Int} {bh : Bool} (b : BT i x) (p0 : 0 ≤ p) (p1 : p ≤ 4095) : pdiv 0 x p plc 0 = (0, tst x p plc true bh) := by
  obtain ⟨b1, b2, b3, b4, b5, b6, b7, b8, b9, b10, b11, b12⟩ := b
  unfold pdiv pslide
  rw [if_neg (by omega), b6]
  unfold thn
  rw [jd_0 (x := s7 (zh x - p) (zh x) (0 + 0 + 0) 0 (zsl x + 1) (zhm x) (zpl x)) rfl rfl]
  rw [if_pos rfl]
  unfold tst
  simp only [if_true]
  have e1 : zs (s7 (zh x - p) (zh x) (0 + 0 + 0) 0 (zsl x + 1) (zhm x) (zpl x)) = zh x - p := rfl
  rw [e1]
  by_cases c : zh x - p < 0
  · rw [if_pos c, if_pos c, if_pos c]
    unfold phair
    rw [if_neg (by omega)]
    rw [jd_0 rfl rfl]
    refine congrArg (fun z => ((0 : Int), z)) ?_
    unfold addp s7
    simp only [zs, zh, zu, zv, zsl, zhm, zpl, Prod.mk.injEq, true_and]
    omega
  · rw [if_neg c, if_neg c, if_neg c]
    unfold phair
    rw [if_neg (by omega)]
    rw [jd_0 rfl rfl]
    refine congrArg (fun z => ((0 : Int), z)) ?_
    unfold addp s7
    simp only [zs, zh, zu, zv, zsl, zhm, zpl, Prod.mk.injEq, true_and]
    omega
