/-! JAVA'S SMALL MATHEMATICS -/
theorem neg_msb (x : Int32) : (x < 0) ↔ x.toBitVec.msb = true := by
  rw [Int32.lt_iff_toInt_lt, BitVec.msb_eq_toInt, decide_eq_true_eq]
  exact Iff.rfl
theorem xor_neg (x y : Int32) : ((x ^^^ y) < 0) ↔ ¬ (x < 0 ↔ y < 0) := by
  rw [neg_msb, neg_msb, neg_msb, Int32.toBitVec_xor, BitVec.msb_xor]
  cases x.toBitVec.msb <;> cases y.toBitVec.msb <;> decide
theorem c_max {X : JX} {d : Nat} {Q : JQ} {h : JH} {a b : Int32} (H : Q (some (.int (zI (max a.toInt b.toInt)))) h) : jex X (d + 1) 4 [.int a, .int b] h Q := by
  rw [jE_J9_max]
  refine jT_J9_max_0 ⟨fun hc => ?_, fun hc => ?_⟩
  · rw [ti_lt] at hc
    rw [zI_of (x := b) (z := max a.toInt b.toInt) (by omega)]; exact H
  · rw [ti_lt] at hc
    rw [zI_of (x := a) (z := max a.toInt b.toInt) (by omega)]; exact H
theorem c_min {X : JX} {d : Nat} {Q : JQ} {h : JH} {a b : Int32} (H : Q (some (.int (zI (min a.toInt b.toInt)))) h) : jex X (d + 1) 180 [.int a, .int b] h Q := by
  rw [jE_J9_min]
  refine jT_J9_min_0 ⟨fun hc => ?_, fun hc => ?_⟩
  · rw [ti_lt] at hc
    rw [zI_of (x := b) (z := min a.toInt b.toInt) (by omega)]; exact H
  · rw [ti_lt] at hc
    rw [zI_of (x := a) (z := min a.toInt b.toInt) (by omega)]; exact H
theorem c_abs {X : JX} {d : Nat} {Q : JQ} {h : JH} {a : Int32} (ha : a.toInt ≠ -2147483648) (H : Q (some (.int (zI (max a.toInt (-a.toInt))))) h) : jex X (d + 1) 125 [.int a] h Q := by
  rw [jE_J9_abs]
  refine jT_J9_abs_0 ⟨fun hc => ?_, fun hc => ?_⟩
  · rw [ti_lt] at hc
    have h0 : (0 : Int32).toInt = 0 := rfl
    rw [zI_of (x := -a) (z := max a.toInt (-a.toInt)) (by rw [ti_neg ha]; omega)]; exact H
  · rw [ti_lt] at hc
    have h0 : (0 : Int32).toInt = 0 := rfl
    rw [zI_of (x := a) (z := max a.toInt (-a.toInt)) (by omega)]; exact H
theorem c_apart {X : JX} {d : Nat} {Q : JQ} {h : JH} {a b : Int32} (h1 : -2147483648 < a.toInt - b.toInt) (h2 : a.toInt - b.toInt < 2147483648) (H : Q (some (.int (zI (max (a.toInt - b.toInt) (b.toInt - a.toInt))))) h) : jex X (d + 1) 133 [.int a, .int b] h Q := by
  rw [jE_X12_apart]
  refine jT_X12_apart_0 ⟨fun hc => ?_, fun hc => ?_⟩
  · rw [ti_lt] at hc
    rw [zI_of (x := b - a) (z := max (a.toInt - b.toInt) (b.toInt - a.toInt)) (by rw [ti_sub (by omega) (by omega)]; omega)]; exact H
  · rw [ti_lt] at hc
    rw [zI_of (x := a - b) (z := max (a.toInt - b.toInt) (b.toInt - a.toInt)) (by rw [ti_sub (by omega) (by omega)]; omega)]; exact H
theorem tdiv_nn {x y : Int} (hx : x < 0) : x.tdiv y = -((-x) / y) := by
  rw [show x.tdiv y = -((-x).tdiv y) from by rw [Int.neg_tdiv, Int.neg_neg], Int.tdiv_eq_ediv_of_nonneg (by omega)]
theorem ediv_nn {x y : Int} (hx : x < 0) (hy : 0 < y) : ((-x) % y = 0 → x / y = -((-x) / y) ∧ x % y = 0) ∧ (¬ (-x) % y = 0 → x / y = -((-x) / y) - 1 ∧ x % y = y - (-x) % y) := by
  have e := Int.mul_ediv_add_emod (-x) y
  have m0 := Int.emod_nonneg (-x) (show y ≠ 0 by omega)
  have m1 := Int.emod_lt_of_pos (-x) hy
  generalize (-x) / y = c at e ⊢
  generalize (-x) % y = m at e m0 m1 ⊢
  constructor
  · intro hm
    have ex : x = y * (-c) := by rw [Int.mul_neg]; omega
    rw [ex]
    exact ⟨Int.mul_ediv_cancel_left _ (by omega), Int.mul_emod_right _ _⟩
  · intro hm
    have ex : x = (y - m) + y * (-c - 1) := by rw [Int.mul_sub, Int.mul_neg]; omega
    rw [ex]
    refine ⟨?_, ?_⟩
    · rw [Int.add_mul_ediv_left _ _ (by omega), Int.ediv_eq_zero_of_lt (by omega) (by omega)]; omega
    · rw [Int.add_mul_emod_self_left, Int.emod_eq_of_lt (by omega) (by omega)]
/-- a division cut off, and what is left, by a number above nothing -/
theorem ti_dv {x y : Int32} (hy : 0 < y.toInt) : (0 ≤ x.toInt → (x / y).toInt = x.toInt / y.toInt ∧ (x - x / y * y).toInt = x.toInt % y.toInt) ∧ (x.toInt < 0 → (x / y).toInt = -((-x.toInt) / y.toInt) ∧ (x - x / y * y).toInt = -((-x.toInt) % y.toInt)) := by
  have hlo := ti_lo x
  have hhi := ti_hi x
  refine ⟨fun h => ⟨ti_divp h hy, ti_remp h hy⟩, fun h => ?_⟩
  have e1 : (x / y).toInt = -((-x.toInt) / y.toInt) := by rw [ti_div (by omega), tdiv_nn h]
  have e := Int.mul_ediv_add_emod (-x.toInt) y.toInt
  have m0 := Int.emod_nonneg (-x.toInt) (show y.toInt ≠ 0 by omega)
  have m1 := Int.emod_lt_of_pos (-x.toInt) hy
  have d0 : 0 ≤ (-x.toInt) / y.toInt := Int.ediv_nonneg (by omega) (by omega)
  have p0 : 0 ≤ y.toInt * ((-x.toInt) / y.toInt) := Int.mul_nonneg (by omega) d0
  have e2 : (x / y).toInt * y.toInt = -(y.toInt * ((-x.toInt) / y.toInt)) := by rw [e1, Int.neg_mul, Int.mul_comm]
  have e3 : (x / y * y).toInt = -(y.toInt * ((-x.toInt) / y.toInt)) := by rw [ti_mul (by rw [e2]; omega) (by rw [e2]; omega), e2]
  refine ⟨e1, ?_⟩
  rw [ti_sub (by rw [e3]; omega) (by rw [e3]; omega), e3]
  omega
theorem c_floored {X : JX} {d : Nat} {Q : JQ} {h : JH} {a b : Int32} (hb : 0 < b.toInt) (H : Q (some (.int (zI (a.toInt / b.toInt)))) h) : jex X (d + 1) 210 [.int a, .int b] h Q := by
  have hv := ti_dv (x := a) hb
  have hb0 : ¬ b = 0 := fun e => by rw [e] at hb; exact absurd hb (by decide)
  have hlo := ti_lo a
  have z0 : (0 : Int32).toInt = 0 := rfl
  have z1 : (1 : Int32).toInt = 1 := rfl
  rw [jE_X12_floored]
  refine jT_X12_floored_0 ⟨hb0, hb0, fun hc => ?_, fun hc => ?_⟩
  · rw [ti_lt, z0] at hc
    by_cases hx : 0 ≤ a.toInt
    · rw [(hv.1 hx).2] at hc
      exact absurd hc (by have := Int.emod_nonneg a.toInt (show b.toInt ≠ 0 by omega); omega)
    · have h1 := hv.2 (by omega)
      rw [h1.2] at hc
      have h2 := (ediv_nn (x := a.toInt) (by omega) hb).2 (by omega)
      have d0 : (-a.toInt) / b.toInt ≤ -a.toInt := Int.ediv_le_self _ (by omega)
      have d1 : 0 ≤ (-a.toInt) / b.toInt := Int.ediv_nonneg (by omega) (by omega)
      have h3 := ti_hi (a / b)
      have m1 : (a / b - 1).toInt = a.toInt / b.toInt := by
        have m2 : (-a.toInt) / b.toInt < 2147483648 := by
          by_cases hb1 : b.toInt = 1
          · rw [hb1] at hc; omega
          · have := Int.ediv_lt_self_of_pos_of_ne_one (x := -a.toInt) (y := b.toInt) (by omega) (by omega)
            omega
        rw [ti_sub (by omega) (by omega), h1.1, h2.1, z1]
      rw [zI_of m1]
      exact H
  · rw [ti_lt, z0] at hc
    by_cases hx : 0 ≤ a.toInt
    · rw [zI_of (hv.1 hx).1]; exact H
    · have h1 := hv.2 (by omega)
      rw [h1.2] at hc
      have h2 := (ediv_nn (x := a.toInt) (by omega) hb).1 (by have := Int.emod_nonneg (-a.toInt) (show b.toInt ≠ 0 by omega); omega)
      rw [zI_of (h1.1.trans h2.1.symm)]; exact H
theorem c_decade {X : JX} {d : Nat} {Q : JQ} {h : JH} {a b : Int32} (hb : 0 < b.toInt) (H : Q (some (.int (zI (a.toInt % b.toInt)))) h) : jex X (d + 1) 147 [.int a, .int b] h Q := by
  have hv := ti_dv (x := a) hb
  have hb0 : ¬ b = 0 := fun e => by rw [e] at hb; exact absurd hb (by decide)
  have hlo := ti_lo a
  have hbh := ti_hi b
  have z0 : (0 : Int32).toInt = 0 := rfl
  have mm := Int.emod_nonneg (-a.toInt) (show b.toInt ≠ 0 by omega)
  have mp := Int.emod_lt_of_pos (-a.toInt) hb
  rw [jE_X12_decade]
  refine jT_X12_decade_0 ⟨hb0, fun hc => ?_, fun hc => ?_⟩
  · rw [ti_lt, z0] at hc
    by_cases hx : 0 ≤ a.toInt
    · rw [(hv.1 hx).2] at hc
      exact absurd hc (by have := Int.emod_nonneg a.toInt (show b.toInt ≠ 0 by omega); omega)
    · have h1 := hv.2 (by omega)
      rw [h1.2] at hc
      have h2 := (ediv_nn (x := a.toInt) (by omega) hb).2 (by omega)
      have m1 : (a - a / b * b + b).toInt = a.toInt % b.toInt := by
        rw [ti_add (by rw [h1.2]; omega) (by rw [h1.2]; omega), h1.2, h2.2]
        omega
      rw [zI_of m1]
      exact H
  · rw [ti_lt, z0] at hc
    by_cases hx : 0 ≤ a.toInt
    · rw [zI_of (hv.1 hx).2]; exact H
    · have h1 := hv.2 (by omega)
      rw [h1.2] at hc
      have h2 := (ediv_nn (x := a.toInt) (by omega) hb).1 (by omega)
      rw [zI_of (show (a - a / b * b).toInt = a.toInt % b.toInt by rw [h1.2, h2.2]; omega)]; exact H
theorem xor_pos {a b : Int32} (hb : 0 < b.toInt) : ((a ^^^ b) < 0) ↔ a.toInt < 0 := by
  rw [xor_neg, ti_lt, ti_lt, show (0 : Int32).toInt = 0 from rfl]
  omega
theorem dv_exact {a b : Int32} (hb : 0 < b.toInt) (ha : a.toInt < 0) : (a / b * b = a ↔ (-a.toInt) % b.toInt = 0) ∧ (a - a / b * b = 0 ↔ (-a.toInt) % b.toInt = 0) := by
  have h1 := (ti_dv (x := a) hb).2 ha
  have z0 : (0 : Int32).toInt = 0 := rfl
  have k1 : a - a / b * b = 0 ↔ (-a.toInt) % b.toInt = 0 := by
    rw [ti_eq, h1.2, z0]; omega
  refine ⟨?_, k1⟩
  rw [← k1]
  constructor
  · intro e; rw [e, Int32.sub_self]
  · intro e
    have := congrArg (fun t => t + a / b * b) e
    simpa [Int32.sub_add_cancel] using this.symm
theorem c_floorDiv {X : JX} {d : Nat} {Q : JQ} {h : JH} {a b : Int32} (hb : 0 < b.toInt) (H : Q (some (.int (zI (a.toInt / b.toInt)))) h) : jex X (d + 1) 192 [.int a, .int b] h Q := by
  have hv := ti_dv (x := a) hb
  have hb0 : ¬ b = 0 := fun e => by rw [e] at hb; exact absurd hb (by decide)
  have hlo := ti_lo a
  have z1 : (1 : Int32).toInt = 1 := rfl
  rw [jE_J9_floorDiv_7cf53]
  refine jT_J9_floorDiv_7cf53_0 ⟨hb0, fun hc => ⟨fun he => ?_, fun he => ?_⟩, fun hc => ?_⟩
  · have hx := (xor_pos hb).mp hc
    have h1 := hv.2 hx
    have h2 := (ediv_nn (x := a.toInt) hx hb).1 ((dv_exact hb hx).1.mp he)
    rw [zI_of (h1.1.trans h2.1.symm)]; exact H
  · have hx := (xor_pos hb).mp hc
    have h1 := hv.2 hx
    have hn : ¬ (-a.toInt) % b.toInt = 0 := fun e => he ((dv_exact hb hx).1.mpr e)
    have h2 := (ediv_nn (x := a.toInt) hx hb).2 hn
    have d0 : (-a.toInt) / b.toInt ≤ -a.toInt := Int.ediv_le_self _ (by omega)
    have d1 : 0 ≤ (-a.toInt) / b.toInt := Int.ediv_nonneg (by omega) (by omega)
    have m1 : (a / b - 1).toInt = a.toInt / b.toInt := by
      have m2 : (-a.toInt) / b.toInt < 2147483648 := by
        by_cases hb1 : b.toInt = 1
        · rw [hb1, Int.emod_one] at hn; exact absurd rfl hn
        · have := Int.ediv_lt_self_of_pos_of_ne_one (x := -a.toInt) (y := b.toInt) (by omega) (by omega)
          omega
      rw [ti_sub (by omega) (by omega), h1.1, h2.1, z1]
    rw [zI_of m1]
    exact H
  · have hx : 0 ≤ a.toInt := by
      rcases Int.lt_or_le a.toInt 0 with q | q
      · exact absurd ((xor_pos hb).mpr q) hc
      · exact q
    rw [zI_of (hv.1 hx).1]; exact H
theorem c_floorMod {X : JX} {d : Nat} {Q : JQ} {h : JH} {a b : Int32} (hb : 0 < b.toInt) (H : Q (some (.int (zI (a.toInt % b.toInt)))) h) : jex X (d + 1) 142 [.int a, .int b] h Q := by
  have hv := ti_dv (x := a) hb
  have hb0 : ¬ b = 0 := fun e => by rw [e] at hb; exact absurd hb (by decide)
  have hlo := ti_lo a
  have hbh := ti_hi b
  have mm := Int.emod_nonneg (-a.toInt) (show b.toInt ≠ 0 by omega)
  have mp := Int.emod_lt_of_pos (-a.toInt) hb
  rw [jE_J9_floorMod_7cf53]
  refine jT_J9_floorMod_7cf53_0 ⟨hb0, fun hc => ⟨fun he => ?_, fun he => ?_⟩, fun hc => ?_⟩
  · have hx := (xor_pos hb).mp hc
    have h1 := hv.2 hx
    have hm := (dv_exact hb hx).2.mp he
    have h2 := (ediv_nn (x := a.toInt) hx hb).1 hm
    rw [zI_of (show (a - a / b * b).toInt = a.toInt % b.toInt by rw [h1.2, h2.2]; omega)]; exact H
  · have hx := (xor_pos hb).mp hc
    have h1 := hv.2 hx
    have hn : ¬ (-a.toInt) % b.toInt = 0 := fun e => he ((dv_exact hb hx).2.mpr e)
    have h2 := (ediv_nn (x := a.toInt) hx hb).2 hn
    have m1 : (a - a / b * b + b).toInt = a.toInt % b.toInt := by
      rw [ti_add (by rw [h1.2]; omega) (by rw [h1.2]; omega), h1.2, h2.2]
      omega
    rw [zI_of m1]
    exact H
  · have hx : 0 ≤ a.toInt := by
      rcases Int.lt_or_le a.toInt 0 with q | q
      · exact absurd ((xor_pos hb).mpr q) hc
      · exact q
    rw [zI_of (hv.1 hx).2]; exact H
