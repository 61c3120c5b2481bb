/-! TOLD NAMES AS BITS; MORE OF THE PURE READER -/
theorem or_nI (a b : Nat) : nI a ||| nI b = nI (a ||| b) := by
  apply Int32.toBitVec_inj.1
  show BitVec.ofNat 32 a ||| BitVec.ofNat 32 b = BitVec.ofNat 32 (a ||| b)
  apply BitVec.eq_of_getLsbD_eq
  intro i hi
  simp [hi]
theorem sm_nI : ∀ j, j < 32 → (((nI j &&& 31).toBitVec).smod 32).toNat = j := by decide +kernel
theorem bit_at {m j : Nat} (hm : m < 4096) (hj : j < 32) : ((nI m >>> (nI j &&& 31)) &&& 1 = 0) ↔ m.testBit j = false := by
  have e1 : nI m >>> (nI j &&& 31) = nI (m / 2 ^ j) := by
    have e : (nI m >>> (nI j &&& 31)).toInt = ((nI m).toBitVec.sshiftRight' (((nI j &&& 31).toBitVec).smod 32)).toInt := rfl
    have b : m / 2 ^ j ≤ m := Nat.div_le_self _ _
    rw [ti_eq, e, BitVec.toInt_sshiftRight', sm_nI j hj, Int.shiftRight_eq_div_pow, nI_toInt (by omega), show (nI m).toBitVec.toInt = (nI m).toInt from rfl, nI_toInt (by omega)]
    push_cast
    rfl
  rw [e1, show (nI (m / 2 ^ j) &&& 1 : Int32) = nI (m / 2 ^ j % 2) from pk_andN (k := 1) (by have : m / 2 ^ j ≤ m := Nat.div_le_self _ _; omega) rfl, ← nI_0, nI_eq (by omega) (by omega), Nat.testBit_eq_decide_div_mod_eq, decide_eq_false_iff_not]
  omega
theorem bit_set {m j : Nat} (hj : j < 12) (hm : m < 4096) : ∃ m', m' < 4096 ∧ nI m ||| (1 <<< (nI j &&& 31)) = nI m' ∧ ∀ i, m'.testBit i = (m.testBit i || decide (j = i)) := by
  refine ⟨m ||| 2 ^ j, Nat.or_lt_two_pow (n := 12) hm (Nat.pow_lt_pow_right (by decide) hj), ?_, fun i => ?_⟩
  · have p : (2 : Nat) ^ j < 2 ^ 12 := Nat.pow_lt_pow_right (by decide) hj
    have e : nI 1 <<< (nI j &&& 31) = nI (1 * 2 ^ j) := pk_shlN _ j (sm_nI j (by omega)) (by omega)
    rw [Nat.one_mul] at e
    rw [← or_nI, ← e]
    rfl
  · rw [Nat.testBit_or, Nat.testBit_two_pow]
section PRS4
variable {t : Nat → Int} {N k : Nat}
theorem cl_ge : ∀ k i, k ≤ i → cl t N k i = 0
  | 0, _, _ => rfl
  | k + 1, i, h => by
    have e : cl t N (k + 1) i = if (tK t N k = 15 ∧ i = la t N k) ∨ ((tK t N k = 6 ∨ tK t N k = 9) ∧ i = hd0 (xo t N k)) then k else cl t N k i := rfl
    have l := la_le (t := t) (N := N) k
    have hh : hd0 (xo t N k) ≤ k := by
      by_cases c : xo t N k = []
      · rw [c]; exact Nat.zero_le _
      · have := (xo_m k _ (hd0_mem c)).1; omega
    rw [e, if_neg (by omega)]
    exact cl_ge k i (by omega)
theorem cl_lt : ∀ k i, cl t N k i ≠ 0 → cl t N k i < k
  | 0, _, h => absurd rfl h
  | k + 1, i, h => by
    have e : cl t N (k + 1) i = if (tK t N k = 15 ∧ i = la t N k) ∨ ((tK t N k = 6 ∨ tK t N k = 9) ∧ i = hd0 (xo t N k)) then k else cl t N k i := rfl
    rw [e] at h ⊢
    split
    · omega
    · next c =>
      rw [if_neg c] at h
      have := cl_lt k i h
      omega
/-- what closes closes a let, a repeat, an if or an else -/
theorem cl_kind (o : OKt t N (k + 1)) {i : Nat} (c : (tK t N k = 15 ∧ i = la t N k) ∨ ((tK t N k = 6 ∨ tK t N k = 9) ∧ i = hd0 (xo t N k))) : i < k ∧ (tK t N i = 4 ∨ tK t N i = 5 ∨ tK t N i = 7 ∨ tK t N i = 9) := by
  obtain ⟨o1, o2⟩ := OKt_s o
  have fi := fwl_inv (hft_0 o2).1
  rcases c with ⟨c, e⟩ | ⟨c, e⟩
  · have := la_in k o1 (by omega) (by omega)
    rw [e]
    exact ⟨this.2.1, Or.inl this.1⟩
  · have ne : xo t N k ≠ [] := by
      rcases fi with ⟨_, fi⟩ | fi
      · rcases fi with fi | fi | fi | fi | fi
        · omega
        · omega
        · omega
        · exact fi.2.2.1
        · exact fi.2.2
      · omega
    have := xo_m k _ (hd0_mem ne)
    rw [e]
    omega
theorem sft_st {i : Nat} (h : (sft t N i).1 ≠ 0) : ∀ m, sft t N (i + m) = sft t N i
  | 0 => rfl
  | m + 1 => by
    have ih := sft_st h m
    have e : sft t N (i + (m + 1)) = if (sft t N (i + m)).1 ≠ 0 then sft t N (i + m) else if unt t N (i + m) = true then (4, (tS t N (i + m) : Int)) else if wrg t N (i + m) = true then (5, (tS t N (i + m) : Int)) else sft t N (i + m) := rfl
    rw [e, if_pos (by rw [ih]; exact h)]
    exact ih
theorem sft_0 : ∀ k, (sft t N k).1 = 0 → sft t N k = (0, -1)
  | 0, _ => rfl
  | k + 1, h => by
    have e : sft t N (k + 1) = if (sft t N k).1 ≠ 0 then sft t N k else if unt t N k = true then (4, (tS t N k : Int)) else if wrg t N k = true then (5, (tS t N k : Int)) else sft t N k := rfl
    rw [e] at h ⊢
    by_cases c : (sft t N k).1 = 0
    · rw [if_neg (fun q => q c)] at h ⊢
      split at h
      · exact absurd h (show ¬ (4 : Nat) = 0 by decide)
      · next c1 =>
        split at h
        · exact absurd h (show ¬ (5 : Nat) = 0 by decide)
        · next c2 =>
          rw [if_neg c1, if_neg c2]
          exact sft_0 k c
    · rw [if_pos c] at h
      exact absurd h c
theorem sft_s : sft t N (k + 1) = if (sft t N k).1 ≠ 0 then sft t N k else if unt t N k = true then (4, (tS t N k : Int)) else if wrg t N k = true then (5, (tS t N k : Int)) else sft t N k := rfl
theorem tld_lt : ∀ k j, OKt t N k → tld t N k j = true → j < 12
  | 0, _, _, h => by cases h
  | k + 1, j, o, h => by
    obtain ⟨o1, o2⟩ := OKt_s o
    have e : tld t N (k + 1) j = if tK t N k = 15 ∧ j = nnum t N (la t N k + 1) then true else tld t N k j := rfl
    rw [e] at h
    split at h
    · next c =>
      have fi := fwl_inv (hft_0 o2).1
      have l := la_in k o1 (by omega) (by omega)
      have l2 := l.2.2.2.1 (by omega)
      rw [c.2]
      exact (hft_0 (o1 (la t N k + 1) l2.1)).2.2.1 l2.2
    · exact tld_lt k j o1 h
def tur (t : Nat → Int) (N b : Nat) : Nat := if ptd t N b = true then 100 else whl t b (ptE t N b - b)
theorem tur_lt (h : tkK t N k = 3) : tur t N k < 10000 := by
  have q := tK_num h
  unfold tur
  split
  · omega
  · have w := whl_lt (t := t) (b := k) (ptE t N k - k) (fun i hi => tkD_of (tkE_in (N := N) (i := k) (by omega) (by have : ptE t N k = tkE tkD t N k := rfl; omega)))
    have : (10 : Nat) ^ (ptE t N k - k) ≤ 10 ^ 4 := Nat.pow_le_pow_right (by decide) q.2.2.2.1
    omega
end PRS4
