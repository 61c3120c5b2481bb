/-! NUMBERS, and the setters by kind -/
theorem ti_add {x y : Int32} (h1 : -2147483648 ≤ x.toInt + y.toInt) (h2 : x.toInt + y.toInt < 2147483648) : (x + y).toInt = x.toInt + y.toInt := by
  rw [Int32.toInt_add, Int.bmod_def]; omega
theorem ti_sub {x y : Int32} (h1 : -2147483648 ≤ x.toInt - y.toInt) (h2 : x.toInt - y.toInt < 2147483648) : (x - y).toInt = x.toInt - y.toInt := by
  rw [Int32.toInt_sub, Int.bmod_def]; omega
theorem ti_mul {x y : Int32} (h1 : -2147483648 ≤ x.toInt * y.toInt) (h2 : x.toInt * y.toInt < 2147483648) : (x * y).toInt = x.toInt * y.toInt := by
  rw [Int32.toInt_mul, Int.bmod_def]; omega
theorem ti_neg {x : Int32} (h : x.toInt ≠ -2147483648) : (-x).toInt = -x.toInt := by
  have a := x.toInt_lt; have b := x.le_toInt
  rw [Int32.toInt_neg, Int.bmod_def]; omega
theorem ti_lo (x : Int32) : -2147483648 ≤ x.toInt := x.le_toInt
theorem ti_hi (x : Int32) : x.toInt < 2147483648 := x.toInt_lt
theorem ti_lt {x y : Int32} : x < y ↔ x.toInt < y.toInt := Int32.lt_iff_toInt_lt
theorem ti_eq {x y : Int32} : x = y ↔ x.toInt = y.toInt := Int32.toInt_inj.symm
theorem ti_div {x y : Int32} (h : y.toInt ≠ -1) : (x / y).toInt = x.toInt.tdiv y.toInt := by
  have a := x.toInt_lt; have b := x.le_toInt
  rw [Int32.toInt_div]
  by_cases hy0 : y.toInt = 0
  · rw [hy0, Int.tdiv_zero]; rfl
  · have hab : (x.toInt.tdiv y.toInt).natAbs ≤ x.toInt.natAbs := by rw [Int.natAbs_tdiv]; exact Nat.div_le_self _ _
    by_cases h1 : y.toInt = 1
    · rw [h1, Int.tdiv_one, Int.bmod_def]; omega
    · have h2 : 2 ≤ y.toInt.natAbs := by omega
      have h3 : (x.toInt.tdiv y.toInt).natAbs ≤ x.toInt.natAbs / 2 := by rw [Int.natAbs_tdiv]; exact Nat.div_le_div_left h2 (by decide)
      rw [Int.bmod_def]; omega
/-- of a number not below nothing, a division by a number above nothing -/
theorem ti_divp {x y : Int32} (hx : 0 ≤ x.toInt) (hy : 0 < y.toInt) : (x / y).toInt = x.toInt / y.toInt := by
  rw [ti_div (by omega), Int.tdiv_eq_ediv_of_nonneg hx]
theorem ti_remp {x y : Int32} (hx : 0 ≤ x.toInt) (hy : 0 < y.toInt) : (x - x / y * y).toInt = x.toInt % y.toInt := by
  have a := x.toInt_lt
  have e := ti_divp hx hy
  have h1 : 0 ≤ x.toInt / y.toInt := Int.ediv_nonneg hx (by omega)
  have h2 : x.toInt / y.toInt * y.toInt ≤ x.toInt := Int.ediv_mul_le _ (by omega)
  have h3 : 0 ≤ x.toInt / y.toInt * y.toInt := Int.mul_nonneg h1 (by omega)
  have h4 : (x / y * y).toInt = x.toInt / y.toInt * y.toInt := by rw [ti_mul (by rw [e]; omega) (by rw [e]; omega), e]
  rw [ti_sub (by rw [h4]; omega) (by rw [h4]; omega), h4, Int.emod_def, Int.mul_comm]
theorem ti_shr8 (x : Int32) : (x >>> ((8 : Int32) &&& 31)).toInt = x.toInt / 256 := by
  have e : (x >>> ((8 : Int32) &&& 31)).toInt = (x.toBitVec.sshiftRight' ((((8 : Int32) &&& 31).toBitVec).smod 32)).toInt := rfl
  rw [e, BitVec.toInt_sshiftRight', show ((((8 : Int32) &&& 31).toBitVec).smod 32).toNat = 8 from by decide, Int.shiftRight_eq_div_pow]
  rfl
theorem ti_clamp (x : Int32) : x.toNatClampNeg = x.toInt.toNat := rfl
theorem vp_inI {x : Int32} {n : Nat} : vp_in x n ↔ 0 ≤ x.toInt ∧ x.toInt < n := vp_in_iff
def zI (z : Int) : Int32 := Int32.ofInt z
theorem zt {z : Int} (h1 : -2147483648 ≤ z) (h2 : z < 2147483648) : (zI z).toInt = z := Int32.toInt_ofInt_of_le h1 h2
theorem zI_t (x : Int32) : zI x.toInt = x := Int32.ofInt_toInt x
theorem zI_of {x : Int32} {z : Int} (h : x.toInt = z) : x = zI z := by rw [← h, zI_t]
theorem zN {n : Nat} (h : n < 2147483648) : (Int32.ofNat n).toInt = n := Int32.toInt_ofNat_of_lt h
/-- a truth value -/
def bi (b : Bool) : Int32 := if b then 1 else 0
theorem bi_and (b : Bool) : bi b &&& 1 = bi b := by cases b <;> decide
theorem bi_eq0 (b : Bool) : bi b = 0 ↔ b = false := by cases b <;> decide
theorem bi_t : bi true = 1 := rfl
theorem bi_f : bi false = 0 := rfl
theorem jpI_ob {h : JH} {p c k : Nat} {x : Int32} {K : JH → Prop} (ho : obj h p c) (hk : (jks c)[k]? = some 0) : jpf h (.ref p) c k (.int x) K = K (sV h p k (.int x)) := jpf_ob ho hk
theorem jpL_ob {h : JH} {p c k : Nat} {x : Int64} {K : JH → Prop} (ho : obj h p c) (hk : (jks c)[k]? = some 1) : jpf h (.ref p) c k (.long x) K = K (sV h p k (.long x)) := jpf_ob ho hk
theorem jpR_ob {h : JH} {p c k a : Nat} {K : JH → Prop} (ho : obj h p c) (hk : (jks c)[k]? = some 2) : jpf h (.ref p) c k (.ref a) K = K (sV h p k (.ref a)) := jpf_ob ho hk
theorem jpN_ob {h : JH} {p c k : Nat} {K : JH → Prop} (ho : obj h p c) (hk : (jks c)[k]? = some 2) : jpf h (.ref p) c k .null K = K (sV h p k .null) := jpf_ob ho hk
theorem jif_t {c A B : Prop} (hc : c) (H : A) : jifp c A B := ⟨fun _ => H, fun h => absurd hc h⟩
theorem jif_n {c A B : Prop} (hc : ¬ c) (H : B) : jifp c A B := ⟨fun h => absurd h hc, fun _ => H⟩
theorem jifp_t {c A B : Prop} (hc : c) : jifp c A B = A := propext ⟨fun h => h.1 hc, jif_t hc⟩
theorem jifp_n {c A B : Prop} (hc : ¬ c) : jifp c A B = B := propext ⟨fun h => h.2 hc, jif_n hc⟩
