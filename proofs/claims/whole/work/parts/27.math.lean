/-! JAVA'S SMALL MATHEMATICS -/
theorem neg_msb (x : Int32) : (x < 0) ↔ x.toBitVec.msb = true := by
  rw [Int32.lt_iff_toInt_lt, BitVec.msb_eq_toInt, decide_eq_true_eq]
  exact Iff.rfl
theorem xor_neg (x y : Int32) : ((x ^^^ y) < 0) ↔ ¬ (x < 0 ↔ y < 0) := by
  rw [neg_msb, neg_msb, neg_msb, Int32.toBitVec_xor, BitVec.msb_xor]
  cases x.toBitVec.msb <;> cases y.toBitVec.msb <;> decide
theorem c_max {X : JX} {d : Nat} {Q : JQ} {h : JH} {a b : Int32} (H : Q (some (.int (zI (max a.toInt b.toInt)))) h) : jex X (d + 1) 124 [.int a, .int b] h Q := by
  rw [jE_J9_max]
  refine jT_J9_max_0 ⟨fun hc => ?_, fun hc => ?_⟩
  · rw [ti_lt] at hc
    rw [zI_of (x := b) (z := max a.toInt b.toInt) (by omega)]; exact H
  · rw [ti_lt] at hc
    rw [zI_of (x := a) (z := max a.toInt b.toInt) (by omega)]; exact H
theorem c_min {X : JX} {d : Nat} {Q : JQ} {h : JH} {a b : Int32} (H : Q (some (.int (zI (min a.toInt b.toInt)))) h) : jex X (d + 1) 180 [.int a, .int b] h Q := by
  rw [jE_J9_min]
  refine jT_J9_min_0 ⟨fun hc => ?_, fun hc => ?_⟩
  · rw [ti_lt] at hc
    rw [zI_of (x := b) (z := min a.toInt b.toInt) (by omega)]; exact H
  · rw [ti_lt] at hc
    rw [zI_of (x := a) (z := min a.toInt b.toInt) (by omega)]; exact H
theorem c_abs {X : JX} {d : Nat} {Q : JQ} {h : JH} {a : Int32} (ha : a.toInt ≠ -2147483648) (H : Q (some (.int (zI (max a.toInt (-a.toInt))))) h) : jex X (d + 1) 125 [.int a] h Q := by
  rw [jE_J9_abs]
  refine jT_J9_abs_0 ⟨fun hc => ?_, fun hc => ?_⟩
  · rw [ti_lt] at hc
    have h0 : (0 : Int32).toInt = 0 := rfl
    rw [zI_of (x := -a) (z := max a.toInt (-a.toInt)) (by rw [ti_neg ha]; omega)]; exact H
  · rw [ti_lt] at hc
    have h0 : (0 : Int32).toInt = 0 := rfl
    rw [zI_of (x := a) (z := max a.toInt (-a.toInt)) (by omega)]; exact H
theorem c_apart {X : JX} {d : Nat} {Q : JQ} {h : JH} {a b : Int32} (h1 : -2147483648 < a.toInt - b.toInt) (h2 : a.toInt - b.toInt < 2147483648) (H : Q (some (.int (zI (max (a.toInt - b.toInt) (b.toInt - a.toInt))))) h) : jex X (d + 1) 133 [.int a, .int b] h Q := by
  rw [jE_X12_apart]
  refine jT_X12_apart_0 ⟨fun hc => ?_, fun hc => ?_⟩
  · rw [ti_lt] at hc
    rw [zI_of (x := b - a) (z := max (a.toInt - b.toInt) (b.toInt - a.toInt)) (by rw [ti_sub (by omega) (by omega)]; omega)]; exact H
  · rw [ti_lt] at hc
    rw [zI_of (x := a - b) (z := max (a.toInt - b.toInt) (b.toInt - a.toInt)) (by rw [ti_sub (by omega) (by omega)]; omega)]; exact H
