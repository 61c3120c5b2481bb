/-! A RUN, PURE: atoms, repeats and ifs among the tokens -/
section RUQ
variable {t : Nat → Int} {N k : Nat}
theorem na_inj {i j : Nat} (hi : isAt t N i = true) (hj : isAt t N j = true) (e : na t N i = na t N j) : i = j := by
  rcases Nat.lt_trichotomy i j with c | c | c
  · have := na_lt (t := t) (N := N) c hi; omega
  · exact c
  · have := na_lt (t := t) (N := N) c hj; omega
theorem na_sur : ∀ k, ∀ a, a < na t N k → ∃ i, i < k ∧ isAt t N i = true ∧ na t N i = a
  | 0 => fun a h => absurd h (Nat.not_lt_zero _)
  | k + 1 => by
    intro a h
    by_cases c : isAt t N k = true
    · rw [na_at c] at h
      by_cases e : a = na t N k
      · exact ⟨k, by omega, c, e.symm⟩
      · obtain ⟨i, i1, i2⟩ := na_sur k a (by omega)
        exact ⟨i, by omega, i2⟩
    · rw [na_no (Bool.eq_false_iff.mpr c)] at h
      obtain ⟨i, i1, i2⟩ := na_sur k a h
      exact ⟨i, by omega, i2⟩
/-- the token that is atom a -/
noncomputable def atk (t : Nat → Int) (N a : Nat) : Nat := Classical.epsilon (fun i => isAt t N i = true ∧ na t N i = a)
theorem atk_e {i : Nat} (h : isAt t N i = true) : atk t N (na t N i) = i := by
  have s : isAt t N (atk t N (na t N i)) = true ∧ na t N (atk t N (na t N i)) = na t N i := Classical.epsilon_spec (p := fun j => isAt t N j = true ∧ na t N j = na t N i) ⟨i, h, rfl⟩
  exact na_inj s.1 h s.2
theorem atk_s {a : Nat} (h : a < na t N k) : atk t N a < k ∧ isAt t N (atk t N a) = true ∧ na t N (atk t N a) = a := by
  obtain ⟨i, i1, i2, i3⟩ := na_sur k a h
  have := atk_e i2
  rw [i3] at this
  rw [this]
  exact ⟨i1, i2, i3⟩
theorem sft_z : ∀ k, (sft t N k).1 = 0 → ∀ j, j < k → unt t N j = false ∧ wrg t N j = false
  | 0, _ => fun j hj => absurd hj (Nat.not_lt_zero _)
  | k + 1, h => by
    intro j hj
    have e : sft t N (k + 1) = if (sft t N k).1 ≠ 0 then sft t N k else if unt t N k = true then (4, (tS t N k : Int)) else if wrg t N k = true then (5, (tS t N k : Int)) else sft t N k := rfl
    by_cases c : (sft t N k).1 = 0
    · rw [e, if_neg (by omega)] at h
      by_cases u : unt t N k = true
      · rw [if_pos u] at h; exact absurd h (by show ¬ (4 : Nat) = 0; decide)
      · rw [if_neg u] at h
        by_cases w : wrg t N k = true
        · rw [if_pos w] at h; exact absurd h (by show ¬ (5 : Nat) = 0; decide)
        · by_cases ej : j = k
          · subst ej; exact ⟨Bool.eq_false_iff.mpr u, Bool.eq_false_iff.mpr w⟩
          · exact sft_z k c j (by omega)
    · rw [e, if_pos c] at h
      exact absurd h c
theorem plc_b {b p : Nat} (h1 : b ≤ p) (h2 : p ≤ b + 4) : ∀ n, n ≤ 12 → -12 ≤ plc t b p n ∧ plc t b p n ≤ 12
  | 0, _ => ⟨by show (-12 : Int) ≤ 0; decide, by show (0 : Int) ≤ 12; decide⟩
  | n + 1, hn => by
    have ih := plc_b h1 h2 n (by omega)
    show -12 ≤ (if t (b + n) = 46 then plc t b p n else if mny t b n = 0 ∧ t (b + n) ≠ 48 then (if b + n < p then (p : Int) - 1 - (b + n : Nat) else (p : Int) - (b + n : Nat)) else plc t b p n) ∧ (if t (b + n) = 46 then plc t b p n else if mny t b n = 0 ∧ t (b + n) ≠ 48 then (if b + n < p then (p : Int) - 1 - (b + n : Nat) else (p : Int) - (b + n : Nat)) else plc t b p n) ≤ 12
    by_cases c1 : t (b + n) = 46
    · rw [if_pos c1]; exact ih
    · rw [if_neg c1]
      by_cases c2 : mny t b n = 0 ∧ t (b + n) ≠ 48
      · rw [if_pos c2]
        split <;> omega
      · rw [if_neg c2]; exact ih
/-- a number that is an atom: its digits and place -/
theorem num_b (h3 : tK t N k = 3) (hz : dgs t N (tS t N k) ≠ 0) : 100 ≤ dgs t N (tS t N k) ∧ dgs t N (tS t N k) ≤ 999 ∧ -12 ≤ dpl t N (tS t N k) ∧ dpl t N (tS t N k) ≤ 12 := by
  obtain ⟨q1, q2, q3, q4, q5⟩ := tK_num h3
  obtain ⟨d1, d2, d3⟩ := dgs_lt (t := t) (N := N) (b := tS t N k)
  have p1 := ptE_ge (t := t) (N := N) (b := tS t N k)
  have p2 := nmE_ge (t := t) (N := N) (b := tS t N k)
  have pp := plc_b (t := t) (b := tS t N k) (p := ptE t N (tS t N k)) p1 (by omega) (nmE t N (tS t N k) - tS t N k) (by omega)
  by_cases c : mny t (tS t N k) (nmE t N (tS t N k) - tS t N k) = 0
  · exact absurd (d3 c) hz
  · have := d2 (by omega)
    unfold dpl
    omega
/-- repeat: its number, and what is behind it -/
theorem rep_in (o : OKt t N k) (f : fin t N k) (z : (sft t N k).1 = 0) {i : Nat} (hi : i < k) (t5 : tK t N i = 5) : i + 2 ≤ k ∧ tK t N (i + 1) = 3 ∧ xe t N (i + 1) = 7 ∧ xe t N (i + 2) = 1 ∧ xo t N (i + 2) = i :: xo t N i ∧ ns t N (i + 2) = ns t N i + 1 ∧ ns t N (i + 1) = ns t N i + 1 ∧ ptd t N (tS t N (i + 1)) = false ∧ whl t (tS t N (i + 1)) (ptE t N (tS t N (i + 1)) - tS t N (i + 1)) ≤ 99 ∧ (xo t N i).length < 6 := by
  have h1 := hft_0 (o i hi)
  have f1 := fwl_inv h1.1
  have x1 : xe t N (i + 1) = 7 := by rw [xe_s]; omega
  have hk : i + 1 < k := by
    by_cases c : i + 1 = k
    · have := f.2.1; rw [← c] at this; omega
    · omega
  have f2 := fwl_inv (hft_0 (o (i + 1) hk)).1
  have t3 : tK t N (i + 1) = 3 := by omega
  have x2 : xe t N (i + 2) = 1 := by rw [show i + 2 = (i + 1) + 1 from rfl, xe_s]; omega
  have w := (sft_z k z (i + 1) hk).2
  have w := of_decide_eq_false w
  have o1 : xo t N (i + 1) = i :: xo t N i := by rw [xo_s, if_pos (Or.inl t5)]
  have o2 : xo t N (i + 2) = xo t N (i + 1) := xo_sm (by omega)
  have n1 := ns_st (t := t) (N := N) (k := i) (decide_eq_true (by omega))
  have n2 := ns_sm (t := t) (N := N) (k := i + 1) (decide_eq_false (by omega))
  have w1 : ¬ (ptd t N (tS t N (i + 1)) = true ∨ 99 < whl t (tS t N (i + 1)) (ptE t N (tS t N (i + 1)) - tS t N (i + 1))) := fun q => w ⟨t3, Or.inl ⟨x1, q⟩⟩
  exact ⟨hk, t3, x1, x2, by rw [o2, o1], by rw [show i + 2 = (i + 1) + 1 from rfl, n2, n1], n1, Bool.eq_false_iff.mpr (fun q => w1 (Or.inl q)), Nat.le_of_not_lt (fun q => w1 (Or.inr q)), h1.2.2.2 (Or.inl t5)⟩
/-- how many tokens more an if has that asks surely -/
def sur (t : Nat → Int) (N i : Nat) : Nat := if tK t N (i + 1) = 8 then 1 else 0
theorem if_in (o : OKt t N k) (f : fin t N k) {i : Nat} (hi : i < k) (t7 : tK t N i = 7) : i + 4 + sur t N i ≤ k ∧ isAt t N (i + 1 + sur t N i) = true ∧ na t N (i + 1 + sur t N i) = na t N i ∧ (tK t N (i + 2 + sur t N i) = 17 ∨ tK t N (i + 2 + sur t N i) = 18) ∧ isAt t N (i + 3 + sur t N i) = true ∧ na t N (i + 3 + sur t N i) = na t N i + 1 ∧ xe t N (i + 4 + sur t N i) = 1 ∧ xo t N (i + 4 + sur t N i) = i :: xo t N i ∧ ns t N (i + 4 + sur t N i) = ns t N i + 1 ∧ sur t N i ≤ 1 ∧ (sur t N i = 1 ↔ tK t N (i + 1) = 8) ∧ xe t N (i + 1 + sur t N i) ≠ 7 ∧ xe t N (i + 3 + sur t N i) ≠ 7 := by
  have NX : ∀ j, j ≤ k → xe t N j ≠ 1 → j < k := by
    intro j hj h1
    by_cases c : j = k
    · have := f.2.1; rw [← c] at this; omega
    · omega
  have h1 := hft_0 (o i hi)
  have f1 := fwl_inv h1.1
  have x1 : xe t N (i + 1) = 8 := by rw [xe_s]; omega
  have n1 := ns_st (t := t) (N := N) (k := i) (decide_eq_true (by omega))
  have a1 := na_no (t := t) (N := N) (k := i) (decide_eq_false (by omega))
  have o1 : xo t N (i + 1) = i :: xo t N i := by rw [xo_s, if_pos (Or.inr t7)]
  have k1 := NX (i + 1) (by omega) (by omega)
  have f2 := fwl_inv (hft_0 (o (i + 1) k1)).1
  -- from the first atom on
  have A : ∀ j, j < k → (xe t N j = 8 ∨ xe t N j = 9) → (tK t N j = 2 ∨ tK t N j = 3) → j + 3 ≤ k ∧ isAt t N j = true ∧ (tK t N (j + 1) = 17 ∨ tK t N (j + 1) = 18) ∧ isAt t N (j + 2) = true ∧ na t N (j + 2) = na t N j + 1 ∧ xe t N (j + 3) = 1 ∧ xo t N (j + 3) = xo t N j ∧ ns t N (j + 3) = ns t N j ∧ xe t N j ≠ 7 ∧ xe t N (j + 2) ≠ 7 := by
    intro j hj hx ht
    have g1 := fwl_inv (hft_0 (o j hj)).1
    have y1 : xe t N (j + 1) = 10 := by rw [xe_s]; omega
    have k2 := NX (j + 1) (by omega) (by omega)
    have g2 := fwl_inv (hft_0 (o (j + 1) k2)).1
    have y2 : xe t N (j + 2) = 11 := by rw [show j + 2 = (j + 1) + 1 from rfl, xe_s]; omega
    have k3 := NX (j + 2) (by omega) (by omega)
    have g3 := fwl_inv (hft_0 (o (j + 2) k3)).1
    have y3 : xe t N (j + 3) = 1 := by rw [show j + 3 = (j + 2) + 1 from rfl, xe_s]; omega
    have b1 : isAt t N j = true := decide_eq_true (by omega)
    have b2 : isAt t N (j + 1) = false := decide_eq_false (by omega)
    have b3 : isAt t N (j + 2) = true := decide_eq_true (by omega)
    have c1 := na_at b1
    have c2 := na_no b2
    have p1 : xo t N (j + 1) = xo t N j := xo_sm (by omega)
    have p2 : xo t N (j + 2) = xo t N (j + 1) := xo_sm (k := j + 1) (by omega)
    have p3 : xo t N (j + 3) = xo t N (j + 2) := xo_sm (k := j + 2) (by omega)
    have q1 := ns_sm (t := t) (N := N) (k := j) (decide_eq_false (by omega))
    have q2 := ns_sm (t := t) (N := N) (k := j + 1) (decide_eq_false (by omega))
    have q3 := ns_sm (t := t) (N := N) (k := j + 2) (decide_eq_false (by omega))
    have c2 : na t N (j + 2) = na t N (j + 1) := c2
    have q2 : ns t N (j + 2) = ns t N (j + 1) := q2
    have q3 : ns t N (j + 3) = ns t N (j + 2) := q3
    exact ⟨by omega, b1, by omega, b3, by omega, y3, by rw [p3, p2, p1], by omega, by omega, by omega⟩
  by_cases c8 : tK t N (i + 1) = 8
  · have e : sur t N i = 1 := if_pos c8
    have y2 : xe t N (i + 2) = 9 := by rw [show i + 2 = (i + 1) + 1 from rfl, xe_s]; omega
    have k2 := NX (i + 2) (by omega) (by omega)
    have g2 := fwl_inv (hft_0 (o (i + 2) k2)).1
    have b2 : isAt t N (i + 1) = false := decide_eq_false (by omega)
    have c2 : na t N (i + 2) = na t N (i + 1) := na_no b2
    have p2 : xo t N (i + 2) = xo t N (i + 1) := xo_sm (k := i + 1) (by omega)
    have q2 : ns t N (i + 2) = ns t N (i + 1) := ns_sm (t := t) (N := N) (k := i + 1) (decide_eq_false (by omega))
    obtain ⟨r1, r2, r3, r4, r5, r6, r7, r8, r9, r10⟩ := A (i + 2) k2 (Or.inr y2) (by omega)
    rw [e]
    exact ⟨r1, r2, by show na t N (i + 2) = _; omega, r3, r4, by show na t N (i + 2 + 2) = _; omega, r6, by show xo t N (i + 2 + 3) = _; rw [r7, p2, o1], by show ns t N (i + 2 + 3) = _; omega, by decide, ⟨fun _ => c8, fun _ => rfl⟩, r9, r10⟩
  · have e : sur t N i = 0 := if_neg c8
    obtain ⟨r1, r2, r3, r4, r5, r6, r7, r8, r9, r10⟩ := A (i + 1) k1 (Or.inl x1) (by omega)
    rw [e]
    exact ⟨r1, r2, a1, r3, r4, by show na t N (i + 1 + 2) = _; omega, r6, by show xo t N (i + 1 + 3) = _; rw [r7, o1], by show ns t N (i + 1 + 3) = _; omega, by decide, ⟨fun w => absurd w (by decide), fun w => absurd w c8⟩, r9, r10⟩
theorem kind1 (h : fwl t N k ≠ 0) (x : xe t N k = 1) : tK t N k = 4 ∨ tK t N k = 5 ∨ tK t N k = 7 ∨ tK t N k = 9 ∨ tK t N k = 6 := by
  have fi := fwl_inv h
  omega
/-- a let's first three tokens -/
theorem let_hd (o : OKt t N k) (f : fin t N k) {i : Nat} (hi : i < k) (t4 : tK t N i = 4) : tK t N (i + 1) = 2 ∧ tK t N (i + 2) = 16 ∧ xe t N (i + 3) = 4 ∧ na t N (i + 3) = na t N i ∧ i + 3 ≤ cl t N k i := by
  obtain ⟨w1, w2, w3, wL, w6, wx, wo, wn, wna⟩ := let_end o f hi t4
  have X1 : xe t N (i + 1) = 2 := by
    have fi := fwl_inv (hft_0 (o i hi)).1
    rw [xe_s]; omega
  have t2 : tK t N (i + 1) = 2 ∧ xe t N (i + 2) = 3 := by
    have fi := fwl_inv (hft_0 (o (i + 1) (by omega))).1
    rw [show i + 2 = (i + 1) + 1 from rfl, xe_s]; omega
  have c1 : i + 1 ≠ cl t N k i := fun e => by rw [← e] at w6; omega
  have c2 : i + 2 ≠ cl t N k i := fun e => by rw [← e] at w6; omega
  have t16 : tK t N (i + 2) = 16 ∧ xe t N (i + 3) = 4 := by
    have fi := fwl_inv (hft_0 (o (i + 2) (by omega))).1
    rw [show i + 3 = (i + 2) + 1 from rfl, xe_s]; omega
  have N1 : na t N (i + 1) = na t N i := na_no (decide_eq_false (by omega))
  have N2 : na t N (i + 2) = na t N (i + 1) := na_no (k := i + 1) (decide_eq_false (by omega))
  have N3 : na t N (i + 3) = na t N (i + 2) := na_no (k := i + 2) (decide_eq_false (by omega))
  exact ⟨t2.1, t16.1, t16.2, by omega, by omega⟩
/-- a power within a let -/
theorem pow_in (o : OKt t N k) {i j : Nat} (c : i < k) (x6 : xe t N i = 6) (hj : j ≤ i) (xj : xe t N j = 4) : ∃ tok, j ≤ tok ∧ tok < i ∧ isAt t N tok = true ∧ ((xe t N tok = 5 ∧ tok = j + 1 ∧ 10 ≤ tK t N j ∧ tK t N j ≤ 14) ∨ (xe t N tok = 4 ∧ tok = j)) ∧ (tK t N j = 2 ∨ tK t N j = 3 ∨ (10 ≤ tK t N j ∧ tK t N j ≤ 14)) ∧ xe t N (tok + 1) = 6 ∧ na t N tok = na t N j ∧ na t N (tok + 1) = na t N j + 1 := by
  have jc : j ≠ i := fun e => by rw [e] at xj; omega
  have fj := fwl_inv (hft_0 (o j (by omega))).1
  by_cases c10 : 10 ≤ tK t N j
  · have y1 : xe t N (j + 1) = 5 := by rw [xe_s]; omega
    have t14 : tK t N j ≤ 14 := by omega
    clear fj
    have jc1 : j + 1 ≠ i := fun e => by rw [e] at y1; omega
    have fj1 := fwl_inv (hft_0 (o (j + 1) (by omega))).1
    have t23 : tK t N (j + 1) = 2 ∨ tK t N (j + 1) = 3 := by omega
    have x7 : xe t N (j + 2) = 6 := by rw [show j + 2 = (j + 1) + 1 from rfl, xe_s]; omega
    clear fj1
    have ia : isAt t N (j + 1) = true := decide_eq_true (by omega)
    have na1 : na t N (j + 1) = na t N j := na_no (decide_eq_false (by omega))
    exact ⟨j + 1, by omega, by omega, ia, Or.inl ⟨y1, rfl, c10, t14⟩, by omega, x7, na1, by rw [na_at ia, na1]⟩
  · have t23 : tK t N j = 2 ∨ tK t N j = 3 := by omega
    have x7 : xe t N (j + 1) = 6 := by rw [xe_s]; omega
    clear fj
    have ia : isAt t N j = true := decide_eq_true (by omega)
    exact ⟨j, by omega, by omega, ia, Or.inr ⟨xj, rfl⟩, by omega, x7, rfl, na_at ia⟩
/-- a sign within a let -/
theorem sgn_in (o : OKt t N k) {j : Nat} (hj : j < k) (xj : xe t N j = 6) : (tK t N j = 15 ∧ xe t N (j + 1) = 1) ∨ ((tK t N j = 19 ∨ tK t N j = 20) ∧ xe t N (j + 1) = 4 ∧ na t N (j + 1) = na t N j) := by
  have fj := fwl_inv (hft_0 (o j hj)).1
  by_cases c : tK t N j = 15
  · exact Or.inl ⟨c, by rw [xe_s]; omega⟩
  · have t19 : tK t N j = 19 ∨ tK t N j = 20 := by omega
    have x4 : xe t N (j + 1) = 4 := by rw [xe_s]; omega
    clear fj
    exact Or.inr ⟨t19, x4, na_no (decide_eq_false (by omega))⟩
/-- a let's first power is not behind an over -/
theorem ovr_0 (o : OKt t N k) (f : fin t N k) {i : Nat} (hi : i < k) (t4 : tK t N i = 4) : ovr t N (atk t N (na t N i + 0)) = false := by
  obtain ⟨w1, w2, w3, wL, w6, wx, wo, wn, wna⟩ := let_end o f hi t4
  obtain ⟨l1, l2, l3, l4, l5⟩ := let_hd o f hi t4
  obtain ⟨tok, h1, h2, ia, wd, _, _, nt, _⟩ := pow_in o w2 w6 l5 l3
  have ea : atk t N (na t N i + 0) = tok := by
    have := atk_e ia
    rw [nt, l4] at this
    exact this
  rw [ea]
  unfold ovr
  rcases wd with ⟨a1, a2, _⟩ | ⟨a1, a2⟩
  · rw [if_pos a1, a2]
    exact decide_eq_false (by show ¬ tK t N (i + 2) = 20; omega)
  · rw [if_neg (by omega), a2]
    exact decide_eq_false (by show ¬ tK t N (i + 2) = 20; omega)
end RUQ
