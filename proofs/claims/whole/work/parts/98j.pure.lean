/-! A RUN, PURE: what lies between a step's first token and its end -/
/-- what was open before what token b began -/
def rst (t : Nat → Int) (N b : Nat) : List Nat := if tK t N b = 9 then (xo t N b).tail else xo t N b
def WNs (t : Nat → Int) (N : Nat) : List Nat → Prop
  | [] => True
  | b :: l => l = rst t N b ∧ WNs t N l
section RUP
variable {t : Nat → Int} {N k : Nat}
theorem WN_tail {l : List Nat} (w : WNs t N l) : WNs t N l.tail := by
  cases l with
  | nil => exact w
  | cons b l => exact w.2
theorem xo_WN : ∀ k, WNs t N (xo t N k)
  | 0 => True.intro
  | k + 1 => by
    have ih := xo_WN k
    rw [xo_s]
    split
    · next c =>
      refine ⟨?_, ih⟩
      unfold rst
      rw [if_neg (by omega)]
    split
    · next c =>
      refine ⟨?_, WN_tail ih⟩
      unfold rst
      rw [if_pos c]
    split
    · exact WN_tail ih
    · exact ih
theorem xo_hd {c b : Nat} (ne : xo t N c ≠ []) (e : hd0 (xo t N c) = b) : xo t N c = b :: rst t N b := by
  have w := xo_WN (t := t) (N := N) c
  cases l : xo t N c with
  | nil => exact absurd l ne
  | cons a l2 =>
    rw [l] at w e
    have e2 : a = b := e
    subst e2
    rw [← w.1]
theorem WN_len : ∀ {l : List Nat} {b : Nat}, WNs t N l → b ∈ l → tK t N b = 5 → (xo t N b).length < l.length
  | [], b, _, m, _ => absurd m List.not_mem_nil
  | a :: l, b, w, m, e => by
    rcases List.mem_cons.mp m with q | q
    · subst q
      have h1 : l = rst t N b := w.1
      unfold rst at h1
      rw [if_neg (by omega)] at h1
      rw [← h1, List.length_cons]; omega
    · have := WN_len w.2 q e
      rw [List.length_cons]; omega
theorem mem_tl {l : List Nat} {i : Nat} (m : i ∈ l) (n : i ≠ hd0 l) : i ∈ l.tail := by
  cases l with
  | nil => exact absurd m List.not_mem_nil
  | cons a l =>
    rcases List.mem_cons.mp m with e | e
    · exact absurd e n
    · exact e
theorem fw69 (h : fwl t N k ≠ 0) (c : tK t N k = 6 ∨ tK t N k = 9) : xe t N k = 1 ∧ fwl t N k = 1 ∧ xo t N k ≠ [] ∧ (tK t N k = 9 → tK t N (hd0 (xo t N k)) = 7) := by
  rcases fwl_inv h with ⟨x1, fi⟩ | fi
  · rcases fi with fi | fi | fi | fi | fi
    · omega
    · omega
    · omega
    · exact ⟨x1, fi.2.1, fi.2.2.1, fun _ => fi.2.2.2⟩
    · exact ⟨x1, fi.2.1, fi.2.2, fun q => by omega⟩
  · omega
theorem cl_s {i : Nat} : cl t N (k + 1) i = if (tK t N k = 15 ∧ i = la t N k) ∨ ((tK t N k = 6 ∨ tK t N k = 9) ∧ i = hd0 (xo t N k)) then k else cl t N k i := rfl
theorem cl_open : ∀ k, OKt t N k → ∀ i, i < k → (tK t N i = 5 ∨ tK t N i = 7 ∨ tK t N i = 9) → i ∈ xo t N k ∨ (i < cl t N k i ∧ cl t N k i < k ∧ (tK t N (cl t N k i) = 6 ∨ tK t N (cl t N k i) = 9) ∧ xo t N (cl t N k i) ≠ [] ∧ hd0 (xo t N (cl t N k i)) = i)
  | 0, _ => fun i hi => absurd hi (Nat.not_lt_zero _)
  | k + 1, o => by
    intro i hi ti
    obtain ⟨o1, o2⟩ := OKt_s o
    have f1 := (hft_0 o2).1
    have fi := fwl_inv f1
    by_cases e : i = k
    · subst e
      left
      rw [xo_s]
      by_cases c : tK t N i = 5 ∨ tK t N i = 7
      · rw [if_pos c]; exact List.mem_cons_self
      · rw [if_neg c, if_pos (by omega)]; exact List.mem_cons_self
    · have ih := cl_open k o1 i (by omega) ti
      rw [cl_s]
      by_cases c : (tK t N k = 15 ∧ i = la t N k) ∨ ((tK t N k = 6 ∨ tK t N k = 9) ∧ i = hd0 (xo t N k))
      · rw [if_pos c]
        have c2 : (tK t N k = 6 ∨ tK t N k = 9) ∧ i = hd0 (xo t N k) := by
          rcases c with c | c
          · have xk : xe t N k = 6 := by omega
            have := (la_in k o1 (by omega) (by omega)).1
            rw [← c.2] at this
            omega
          · exact c
        right
        exact ⟨by omega, by omega, c2.1, (fw69 f1 c2.1).2.2.1, c2.2.symm⟩
      · rw [if_neg c]
        rcases ih with m | m
        · left
          have nh : (tK t N k = 6 ∨ tK t N k = 9) → i ≠ hd0 (xo t N k) := fun q w => c (Or.inr ⟨q, w⟩)
          rw [xo_s]
          split
          · exact List.mem_cons_of_mem _ m
          split
          · next q => exact List.mem_cons_of_mem _ (mem_tl m (nh (Or.inr q)))
          split
          · next q => exact mem_tl m (nh (Or.inl q))
          · exact m
        · right
          exact ⟨m.1, by omega, m.2.2⟩
theorem cl_end (o : OKt t N k) (f : fin t N k) {i : Nat} (hi : i < k) (ti : tK t N i = 5 ∨ tK t N i = 7 ∨ tK t N i = 9) : cl t N k i ≠ 0 ∧ i < cl t N k i ∧ cl t N k i < k ∧ (tK t N (cl t N k i) = 6 ∨ tK t N (cl t N k i) = 9) ∧ xo t N (cl t N k i) = i :: rst t N i ∧ xe t N (cl t N k i + 1) = 1 := by
  rcases cl_open k o i hi ti with m | ⟨m1, m2, m3, m4, m5⟩
  · rw [f.2.2] at m
    exact absurd m List.not_mem_nil
  · exact ⟨by omega, m1, m2, m3, xo_hd m4 m5, (fw69 (hft_0 (o _ m2)).1 m3).2.1⟩
/-- a token within the let that token i began -/
def LTs (t : Nat → Int) (N i j : Nat) : Prop := la t N j = i ∧ 2 ≤ xe t N j ∧ xe t N j ≤ 6 ∧ xo t N j = xo t N i ∧ ns t N j = ns t N i + 1 ∧ i < j ∧ na t N i ≤ na t N j ∧ (xe t N j = 6 → na t N i + 1 ≤ na t N j) ∧ (4 ≤ xe t N j → i + 3 ≤ j) ∧ (xe t N j = 3 → j = i + 2) ∧ (xe t N j = 2 → j = i + 1)
theorem xo_sm (h : ¬ (tK t N k = 5 ∨ tK t N k = 7) ∧ ¬ tK t N k = 9 ∧ ¬ tK t N k = 6) : xo t N (k + 1) = xo t N k := by
  rw [xo_s, if_neg h.1, if_neg h.2.1, if_neg h.2.2]
theorem la_sm (h : ¬ tK t N k = 4) : la t N (k + 1) = la t N k := if_neg h
theorem ns_sm (h : isSt t N k = false) : ns t N (k + 1) = ns t N k := by
  have e : ns t N (k + 1) = ns t N k + (if isSt t N k = true then 1 else 0) := rfl
  rw [e, h]
  rfl
theorem ns_st (h : isSt t N k = true) : ns t N (k + 1) = ns t N k + 1 := by
  have e : ns t N (k + 1) = ns t N k + (if isSt t N k = true then 1 else 0) := rfl
  rw [e, h]
  rfl
theorem na_at (h : isAt t N k = true) : na t N (k + 1) = na t N k + 1 := by
  have e : na t N (k + 1) = na t N k + (if isAt t N k = true then 1 else 0) := rfl
  rw [e, h]
  rfl
theorem na_no (h : isAt t N k = false) : na t N (k + 1) = na t N k := by
  have e : na t N (k + 1) = na t N k + (if isAt t N k = true then 1 else 0) := rfl
  rw [e, h]
  rfl
theorem LT_run {i : Nat} (t4 : tK t N i = 4) : ∀ j, OKt t N j → i < j → (LTs t N i j ∧ ∀ m, i < m → m < j → LTs t N i m) ∨ ((i < cl t N j i ∧ cl t N j i < j ∧ tK t N (cl t N j i) = 15 ∧ ∀ m, i < m → m ≤ cl t N j i → LTs t N i m) ∧ ¬ (la t N j = i ∧ 2 ≤ xe t N j ∧ xe t N j ≤ 6))
  | 0, _, h => absurd h (Nat.not_lt_zero _)
  | j + 1, o, h => by
    obtain ⟨o1, o2⟩ := OKt_s o
    have f1 := (hft_0 o2).1
    have fi := fwl_inv f1
    by_cases e : i = j
    · subst e
      left
      refine ⟨?_, fun m h1 h2 => by omega⟩
      have i1 : la t N (i + 1) = i := if_pos t4
      have i2 : xo t N (i + 1) = xo t N i := xo_sm (by omega)
      have i3 := ns_st (k := i) (t := t) (N := N) (decide_eq_true (by omega))
      have i4 := na_no (k := i) (t := t) (N := N) (decide_eq_false (by omega))
      unfold LTs
      rw [i1, i2, i3, i4, xe_s]
      exact ⟨rfl, by omega, by omega, rfl, rfl, by omega, Nat.le_refl _, by omega, by omega, by omega, by omega⟩
    · have lm := la_in j o1
      rcases LT_run t4 j o1 (by omega) with ⟨m, mm⟩ | ⟨⟨m1, m2, m3, m4⟩, m5⟩
      · have mj := m
        obtain ⟨a1, a2, a3, a4, a5, a6, a7, a8, a9, a10, a11⟩ := m
        have b1 : la t N (j + 1) = la t N j := la_sm (by omega)
        have b2 : xo t N (j + 1) = xo t N j := xo_sm (by omega)
        have b3 := ns_sm (k := j) (t := t) (N := N) (decide_eq_false (by omega))
        by_cases c15 : tK t N j = 15
        · right
          have ec : cl t N (j + 1) i = j := if_pos (Or.inl ⟨c15, a1.symm⟩)
          rw [ec, xe_s]
          refine ⟨⟨by omega, by omega, c15, fun m' h1 h2 => ?_⟩, by omega⟩
          by_cases e2 : m' = j
          · subst e2; exact mj
          · exact mm m' h1 (by omega)
        · left
          refine ⟨?_, fun m h1 h2 => by
            by_cases e2 : m = j
            · subst e2; exact mj
            · exact mm m h1 (by omega)⟩
          unfold LTs
          rw [b1, b2, b3, xe_s]
          by_cases ca : isAt t N j = true
          · rw [na_at ca]
            have ca := of_decide_eq_true ca
            exact ⟨a1, by omega, by omega, a4, a5, by omega, by omega, by omega, by omega, by omega, by omega⟩
          · have ca' : isAt t N j = false := Bool.eq_false_iff.mpr ca
            rw [na_no ca']
            have ca2 : ¬ ((tK t N j = 2 ∨ tK t N j = 3) ∧ xe t N j ≠ 2 ∧ xe t N j ≠ 7) := fun w => ca (decide_eq_true w)
            exact ⟨a1, by omega, by omega, a4, a5, by omega, by omega, by omega, by omega, by omega, by omega⟩
      · right
        have n15 : tK t N j = 15 → ¬ i = la t N j := fun q w => m5 ⟨w.symm, by omega, by omega⟩
        have n69 : (tK t N j = 6 ∨ tK t N j = 9) → ¬ i = hd0 (xo t N j) := fun q w => by
          have ne := (fw69 f1 q).2.2.1
          have := (xo_m j _ (hd0_mem ne)).2
          rw [← w] at this
          omega
        have ec : cl t N (j + 1) i = cl t N j i := if_neg (fun w => by
          rcases w with w | w
          · exact n15 w.1 w.2
          · exact n69 w.1 w.2)
        rw [ec]
        refine ⟨⟨m1, by omega, m3, m4⟩, fun w => ?_⟩
        rw [xe_s] at w
        by_cases z : tK t N j = 4
        · have : la t N (j + 1) = j := if_pos z
          omega
        · rw [la_sm z] at w
          exact m5 ⟨w.1, by omega, by omega⟩
theorem let_end (o : OKt t N k) (f : fin t N k) {i : Nat} (hi : i < k) (t4 : tK t N i = 4) : i < cl t N k i ∧ cl t N k i < k ∧ tK t N (cl t N k i) = 15 ∧ (∀ m, i < m → m ≤ cl t N k i → LTs t N i m) ∧ xe t N (cl t N k i) = 6 ∧ xe t N (cl t N k i + 1) = 1 ∧ xo t N (cl t N k i + 1) = xo t N i ∧ ns t N (cl t N k i + 1) = ns t N i + 1 ∧ na t N i + 1 ≤ na t N (cl t N k i) := by
  rcases LT_run t4 k o hi with ⟨m, _⟩ | ⟨⟨m1, m2, m3, m4⟩, m5⟩
  · have := f.2.1
    have := m.2.1
    omega
  · have l := m4 _ m1 (Nat.le_refl _)
    have fi := fwl_inv (hft_0 (o _ m2)).1
    obtain ⟨a1, a2, a3, a4, a5, a6, a7, a8, a9, a10, a11⟩ := l
    have x6 : xe t N (cl t N k i) = 6 := by omega
    refine ⟨m1, m2, m3, m4, x6, ?_, ?_, ?_, a8 x6⟩
    · rw [xe_s]; omega
    · rw [xo_sm (by omega), a4]
    · rw [ns_sm (decide_eq_false (by omega)), a5]
end RUP
