/-! TOKENS, PURE -/
def tkB (x : Int) : Bool := decide (x = 9 ∨ x = 10 ∨ x = 13 ∨ x = 32)
def tkL (x : Int) : Bool := decide (97 ≤ x ∧ x ≤ 122)
def tkD (x : Int) : Bool := decide (48 ≤ x ∧ x ≤ 57)
def tkr (P : Int → Bool) (t : Nat → Int) : Nat → Nat → Nat
  | 0, i => i
  | n + 1, i => if P (t i) = true then tkr P t n (i + 1) else i
/-- the first place from i on, before N, where P fails -/
def tkE (P : Int → Bool) (t : Nat → Int) (N i : Nat) : Nat := tkr P t (N - i) i
def c27 (t : Nat → Int) (b : Nat) : Nat → Nat
  | 0 => 0
  | n + 1 => 27 * c27 t b n + (t (b + n) - 96).toNat
def c08 (t : Nat → Int) (b : Nat) : Nat → Nat
  | 0 => 0
  | n + 1 => 256 * c08 t b n + (t (b + n)).toNat
section TK
variable {P : Int → Bool} {t t' : Nat → Int} {N a b i : Nat}
theorem tkE_go (h : i < N) (hp : P (t i) = true) : tkE P t N i = tkE P t N (i + 1) := by
  unfold tkE
  rw [show N - i = (N - (i + 1)) + 1 by omega]
  show (if P (t i) = true then _ else _) = _
  rw [if_pos hp]
theorem tkE_st (h : i < N → P (t i) = false) : tkE P t N i = i := by
  unfold tkE
  cases e : N - i with
  | zero => rfl
  | succ n =>
    show (if P (t i) = true then _ else _) = _
    rw [if_neg (by rw [h (by omega)]; decide)]
theorem tkr_b : ∀ n i, i ≤ tkr P t n i ∧ tkr P t n i ≤ i + n ∧ (∀ j, i ≤ j → j < tkr P t n i → P (t j) = true) ∧ (tkr P t n i < i + n → P (t (tkr P t n i)) = false) := by
  intro n
  induction n with
  | zero => intro i; exact ⟨Nat.le_refl _, Nat.le_refl _, fun j h1 h2 => absurd h2 (by show ¬ j < i; omega), fun h => absurd h (by show ¬ i < i; omega)⟩
  | succ n ih =>
    intro i
    show i ≤ (if P (t i) = true then tkr P t n (i + 1) else i) ∧ (if P (t i) = true then tkr P t n (i + 1) else i) ≤ _ ∧ (∀ j, i ≤ j → j < (if P (t i) = true then tkr P t n (i + 1) else i) → _) ∧ ((if P (t i) = true then tkr P t n (i + 1) else i) < _ → P (t (if P (t i) = true then tkr P t n (i + 1) else i)) = false)
    by_cases c : P (t i) = true
    · rw [if_pos c]
      obtain ⟨h1, h2, h3, h4⟩ := ih (i + 1)
      refine ⟨by omega, by omega, fun j j1 j2 => ?_, fun q => h4 (by omega)⟩
      by_cases e : j = i
      · rw [e]; exact c
      · exact h3 j (by omega) j2
    · rw [if_neg c]
      refine ⟨by omega, by omega, fun j j1 j2 => by omega, fun _ => ?_⟩
      cases e : P (t i) with
      | true => exact absurd e c
      | false => rfl
theorem tkE_ge : i ≤ tkE P t N i := (tkr_b _ _).1
theorem tkE_le (h : i ≤ N) : tkE P t N i ≤ N := by
  have := (tkr_b (P := P) (t := t) (N - i) i).2.1
  unfold tkE
  omega
theorem tkE_in {j : Nat} (h1 : i ≤ j) (h2 : j < tkE P t N i) : P (t j) = true := (tkr_b _ _).2.2.1 j h1 h2
theorem tkE_out (h : tkE P t N i < N) : P (t (tkE P t N i)) = false := by
  have a := (tkr_b (P := P) (t := t) (N - i) i).1
  unfold tkE at *
  exact (tkr_b _ _).2.2.2 (by omega)
theorem tkE_cap (h : N ≤ i) : tkE P t N i = i := tkE_st (fun c => by omega)
theorem tkL_of {x : Int} (h : tkL x = true) : 97 ≤ x ∧ x ≤ 122 := of_decide_eq_true h
theorem tkD_of {x : Int} (h : tkD x = true) : 48 ≤ x ∧ x ≤ 57 := of_decide_eq_true h
theorem c27_lt : ∀ n, (∀ i, i < n → 97 ≤ t (b + i) ∧ t (b + i) ≤ 122) → c27 t b n < 27 ^ n
  | 0, _ => by show 0 < 1; decide
  | n + 1, h => by
    have := c27_lt n (fun i hi => h i (by omega))
    have := h n (by omega)
    rw [Nat.pow_succ]
    show 27 * c27 t b n + (t (b + n) - 96).toNat < _
    omega
theorem c08_lt : ∀ n, (∀ i, i < n → 97 ≤ t (b + i) ∧ t (b + i) ≤ 122) → 2 * c08 t b n < 256 ^ n
  | 0, _ => by show 2 * 0 < 1; decide
  | n + 1, h => by
    have := c08_lt n (fun i hi => h i (by omega))
    have := h n (by omega)
    rw [Nat.pow_succ]
    show 2 * (256 * c08 t b n + (t (b + n)).toNat) < _
    omega
theorem c_inj : ∀ n n', (∀ i, i < n → 97 ≤ t (a + i) ∧ t (a + i) ≤ 122) → (∀ i, i < n' → 97 ≤ t' (b + i) ∧ t' (b + i) ≤ 122) → (c27 t a n = c27 t' b n' ↔ c08 t a n = c08 t' b n') := by
  intro n
  induction n with
  | zero =>
    intro n' h h'
    cases n' with
    | zero => exact ⟨fun _ => rfl, fun _ => rfl⟩
    | succ m =>
      have := h' m (by omega)
      show 0 = 27 * c27 t' b m + (t' (b + m) - 96).toNat ↔ 0 = 256 * c08 t' b m + (t' (b + m)).toNat
      omega
  | succ n ih =>
    intro n' h h'
    have x := h n (by omega)
    cases n' with
    | zero =>
      show 27 * c27 t a n + (t (a + n) - 96).toNat = 0 ↔ 256 * c08 t a n + (t (a + n)).toNat = 0
      omega
    | succ m =>
      have y := h' m (by omega)
      have q := ih m (fun i hi => h i (by omega)) (fun i hi => h' i (by omega))
      show 27 * c27 t a n + (t (a + n) - 96).toNat = 27 * c27 t' b m + (t' (b + m) - 96).toNat ↔ 256 * c08 t a n + (t (a + n)).toNat = 256 * c08 t' b m + (t' (b + m)).toNat
      constructor
      · intro e
        have e1 : c27 t a n = c27 t' b m := by omega
        have e2 := q.1 e1
        omega
      · intro e
        have e1 : c08 t a n = c08 t' b m := by omega
        have e2 := q.2 e1
        omega
end TK
/-- a word of the text as a tape of its own -/
def wdT (l : List Nat) (i : Nat) : Int := ((l.getD i 0 : Nat) : Int)
theorem c_word {t : Nat → Int} {b n : Nat} (l : List Nat) (hl : ∀ i, i < l.length → 97 ≤ wdT l (0 + i) ∧ wdT l (0 + i) ≤ 122) (h : ∀ i, i < n → 97 ≤ t (b + i) ∧ t (b + i) ≤ 122) : c27 t b n = c27 (wdT l) 0 l.length ↔ c08 t b n = c08 (wdT l) 0 l.length := c_inj n l.length h hl
/-- kinds of words by their codes: as the class numbers them -/
def kwK (c : Nat) : Nat := if c = 8903 then 4 else if c = 261256151 then 5 else if c = 4027 then 6 else if c = 249 then 7 else if c = 284147782 then 8 else if c = 107681 then 9 else if c = 282078293 then 10 else if c = 74417 then 11 else if c = 365654 then 12 else if c = 10793335 then 13 else if c = 311436 then 14 else 2
/-- the model's number of a word -/
def kwM (k : Nat) : Int32 := if k = 4 then 0 else if k = 5 then 1 else if k = 6 then 4 else if k = 7 then 2 else if k = 8 then 5 else if k = 9 then 3 else if k = 10 then 6 else if k = 11 then 7 else if k = 12 then 8 else if k = 13 then 9 else if k = 14 then 10 else -1
def kw8 (c : Nat) : Int32 := if c = 7103860 then 0 else if c = 125780002955636 then 1 else if c = 26982 then 2 else if c = 1701606245 then 3 else if c = 6647396 then 4 else if c = 126948267617401 then 5 else if c = 126931137819237 then 6 else if c = 1668637285 then 7 else if c = 1919905652 then 8 else if c = 499967947364 then 9 else if c = 1870030194 then 10 else -1
theorem kw_8 {t : Nat → Int} {b n : Nat} (h : ∀ i, i < n → 97 ≤ t (b + i) ∧ t (b + i) ≤ 122) : kw8 (c08 t b n) = kwM (kwK (c27 t b n)) := by
  have w0 : c27 t b n = 8903 ↔ c08 t b n = 7103860 := c_word [108, 101, 116] (by decide) h
  have w1 : c27 t b n = 261256151 ↔ c08 t b n = 125780002955636 := c_word [114, 101, 112, 101, 97, 116] (by decide) h
  have w2 : c27 t b n = 4027 ↔ c08 t b n = 6647396 := c_word [101, 110, 100] (by decide) h
  have w3 : c27 t b n = 249 ↔ c08 t b n = 26982 := c_word [105, 102] (by decide) h
  have w4 : c27 t b n = 284147782 ↔ c08 t b n = 126948267617401 := c_word [115, 117, 114, 101, 108, 121] (by decide) h
  have w5 : c27 t b n = 107681 ↔ c08 t b n = 1701606245 := c_word [101, 108, 115, 101] (by decide) h
  have w6 : c27 t b n = 282078293 ↔ c08 t b n = 126931137819237 := c_word [115, 113, 117, 97, 114, 101] (by decide) h
  have w7 : c27 t b n = 74417 ↔ c08 t b n = 1668637285 := c_word [99, 117, 98, 101] (by decide) h
  have w8 : c27 t b n = 365654 ↔ c08 t b n = 1919905652 := c_word [114, 111, 111, 116] (by decide) h
  have w9 : c27 t b n = 10793335 ↔ c08 t b n = 499967947364 := c_word [116, 104, 105, 114, 100] (by decide) h
  have w10 : c27 t b n = 311436 ↔ c08 t b n = 1870030194 := c_word [111, 118, 101, 114] (by decide) h
  generalize c27 t b n = x at *
  generalize c08 t b n = y at *
  unfold kw8 kwK
  by_cases c0 : x = 8903
  · rw [if_pos c0, if_pos (w0.1 c0)]; rfl
  rw [if_neg c0, if_neg (fun e => c0 (w0.2 e))]
  by_cases c1 : x = 261256151
  · rw [if_pos c1, if_pos (w1.1 c1)]; rfl
  rw [if_neg c1, if_neg (fun e => c1 (w1.2 e))]
  by_cases c3 : x = 249
  · rw [if_neg (show ¬ x = 4027 by omega), if_pos c3, if_pos (w3.1 c3)]; rfl
  rw [if_neg (fun e => c3 (w3.2 e) : ¬ y = 26982)]
  by_cases c5 : x = 107681
  · rw [if_neg (show ¬ x = 4027 by omega), if_neg c3, if_neg (show ¬ x = 284147782 by omega), if_pos c5, if_pos (w5.1 c5)]; rfl
  rw [if_neg (fun e => c5 (w5.2 e) : ¬ y = 1701606245)]
  by_cases c2 : x = 4027
  · rw [if_pos c2, if_pos (w2.1 c2)]; rfl
  rw [if_neg c2, if_neg c3, if_neg (fun e => c2 (w2.2 e) : ¬ y = 6647396)]
  by_cases c4 : x = 284147782
  · rw [if_pos c4, if_pos (w4.1 c4)]; rfl
  rw [if_neg c4, if_neg c5, if_neg (fun e => c4 (w4.2 e) : ¬ y = 126948267617401)]
  by_cases c6 : x = 282078293
  · rw [if_pos c6, if_pos (w6.1 c6)]; rfl
  rw [if_neg c6, if_neg (fun e => c6 (w6.2 e) : ¬ y = 126931137819237)]
  by_cases c7 : x = 74417
  · rw [if_pos c7, if_pos (w7.1 c7)]; rfl
  rw [if_neg c7, if_neg (fun e => c7 (w7.2 e) : ¬ y = 1668637285)]
  by_cases c8 : x = 365654
  · rw [if_pos c8, if_pos (w8.1 c8)]; rfl
  rw [if_neg c8, if_neg (fun e => c8 (w8.2 e) : ¬ y = 1919905652)]
  by_cases c9 : x = 10793335
  · rw [if_pos c9, if_pos (w9.1 c9)]; rfl
  rw [if_neg c9, if_neg (fun e => c9 (w9.2 e) : ¬ y = 499967947364)]
  by_cases c10 : x = 311436
  · rw [if_pos c10, if_pos (w10.1 c10)]; rfl
  rw [if_neg c10, if_neg (fun e => c10 (w10.2 e) : ¬ y = 1870030194)]
  rfl
theorem kwK_r (c : Nat) : kwK c = 2 ∨ (4 ≤ kwK c ∧ kwK c ≤ 14) := by
  unfold kwK
  repeat (first | (split; omega) | omega)
theorem kwM_neg {k : Nat} (h : k = 2 ∨ (4 ≤ k ∧ k ≤ 14)) : ((kwM k) < 0 ↔ k = 2) := by
  rcases (show k = 2 ∨ k = 4 ∨ k = 5 ∨ k = 6 ∨ k = 7 ∨ k = 8 ∨ k = 9 ∨ k = 10 ∨ k = 11 ∨ k = 12 ∨ k = 13 ∨ k = 14 by omega) with e | e | e | e | e | e | e | e | e | e | e | e <;> subst e <;> decide
/-- the point of a number: where its first digits end; whether there are more behind it; its end -/
def ptE (t : Nat → Int) (N b : Nat) : Nat := tkE tkD t N b
def ptd (t : Nat → Int) (N b : Nat) : Bool := decide (ptE t N b < N ∧ t (ptE t N b) = 46 ∧ ptE t N b + 1 < N ∧ tkD (t (ptE t N b + 1)) = true)
def nmE (t : Nat → Int) (N b : Nat) : Nat := if ptd t N b = true then tkE tkD t N (ptE t N b + 1) else ptE t N b
def sgD (t : Nat → Int) (N b : Nat) : Bool := decide (t b = 61 ∧ b + 1 < N ∧ t (b + 1) = 61)
def sgK (t : Nat → Int) (N b : Nat) : Nat := if t b = 59 then 15 else if t b = 60 then 18 else if t b = 42 then 19 else if t b = 47 then 20 else if t b = 61 then (if sgD t N b = true then 17 else 16) else 0
/-- where the next token begins, its kind, its end -/
def tkb (t : Nat → Int) (N a : Nat) : Nat := tkE tkB t N a
def tkK (t : Nat → Int) (N b : Nat) : Nat := if N ≤ b then 1 else if tkL (t b) = true then (if 8 < tkE tkL t N b - b then 0 else kwK (c27 t b (tkE tkL t N b - b))) else if tkD (t b) = true then (if 4 < ptE t N b - b ∨ 4 < nmE t N b - ptE t N b - 1 then 0 else 3) else sgK t N b
def tkZ (t : Nat → Int) (N b : Nat) : Nat := if N ≤ b then b else if tkL (t b) = true then tkE tkL t N b else if tkD (t b) = true then nmE t N b else if sgD t N b = true then b + 2 else b + 1
/-- a number's value: digits counted from the first that is not 0, of these the first three, its place -/
def mny (t : Nat → Int) (b : Nat) : Nat → Nat
  | 0 => 0
  | n + 1 => if t (b + n) = 46 then mny t b n else if 0 < mny t b n ∨ t (b + n) ≠ 48 then mny t b n + 1 else 0
def mdg (t : Nat → Int) (b : Nat) : Nat → Nat
  | 0 => 0
  | n + 1 => if t (b + n) = 46 then mdg t b n else if (0 < mny t b n ∨ t (b + n) ≠ 48) ∧ mny t b n < 3 then 10 * mdg t b n + (t (b + n) - 48).toNat else mdg t b n
def plc (t : Nat → Int) (b p : Nat) : Nat → Int
  | 0 => 0
  | n + 1 => if t (b + n) = 46 then plc t b p n else if mny t b n = 0 ∧ t (b + n) ≠ 48 then (if b + n < p then (p : Int) - 1 - (b + n : Nat) else (p : Int) - (b + n : Nat)) else plc t b p n
def whl (t : Nat → Int) (b : Nat) : Nat → Nat
  | 0 => 0
  | n + 1 => 10 * whl t b n + (t (b + n) - 48).toNat
def dgs (t : Nat → Int) (N b : Nat) : Nat := mdg t b (nmE t N b - b) * 10 ^ (3 - mny t b (nmE t N b - b))
def dpl (t : Nat → Int) (N b : Nat) : Int := plc t b (ptE t N b) (nmE t N b - b)
section TK2
variable {t : Nat → Int} {N b : Nat}
theorem ptE_ge : b ≤ ptE t N b := tkE_ge
theorem nmE_ge : ptE t N b ≤ nmE t N b := by
  unfold nmE
  split
  · have := tkE_ge (P := tkD) (t := t) (N := N) (i := ptE t N b + 1)
    omega
  · exact Nat.le_refl _
theorem ptE_lt (hb : b < N) (hd : tkD (t b) = true) : b < ptE t N b := by
  unfold ptE
  rw [tkE_go hb hd]
  exact tkE_ge
theorem nmE_le (hb : b ≤ N) : nmE t N b ≤ N := by
  unfold nmE
  split
  · next c => exact tkE_le (by have := of_decide_eq_true c; omega)
  · exact tkE_le hb
theorem nm_dig {j : Nat} (h1 : b ≤ j) (h2 : j < nmE t N b) (h3 : j ≠ ptE t N b) : 48 ≤ t j ∧ t j ≤ 57 := by
  by_cases c : j < ptE t N b
  · exact tkD_of (tkE_in h1 c)
  · unfold nmE at h2
    split at h2
    · exact tkD_of (tkE_in (i := ptE t N b + 1) (by omega) h2)
    · omega
theorem nm_pt (h2 : ptE t N b < nmE t N b) : t (ptE t N b) = 46 := by
  unfold nmE at h2
  split at h2
  · next c => exact (of_decide_eq_true c).2.1
  · omega
theorem nm_46 {j : Nat} (h1 : b ≤ j) (h2 : j < nmE t N b) : t j = 46 ↔ j = ptE t N b := by
  constructor
  · intro e
    by_cases c : j = ptE t N b
    · exact c
    · have := nm_dig h1 h2 c
      omega
  · intro e
    rw [e]
    rw [e] at h2
    exact nm_pt h2
theorem mdg_lt : ∀ n, (∀ i, i < n → t (b + i) ≠ 46 → 48 ≤ t (b + i) ∧ t (b + i) ≤ 57) → mdg t b n < 10 ^ (min (mny t b n) 3) ∧ (0 < mny t b n → 10 ^ (min (mny t b n) 3) ≤ 10 * mdg t b n) ∧ (mny t b n = 0 → mdg t b n = 0)
  | 0, _ => ⟨by show 0 < 1; decide, fun h => absurd h (by show ¬ 0 < 0; decide), fun _ => rfl⟩
  | n + 1, h => by
    have q := mdg_lt n (fun i hi => h i (by omega))
    have w := h n (by omega)
    show (if t (b + n) = 46 then mdg t b n else _) < 10 ^ (min (if t (b + n) = 46 then mny t b n else _) 3) ∧ (0 < (if t (b + n) = 46 then mny t b n else _) → 10 ^ (min (if t (b + n) = 46 then mny t b n else _) 3) ≤ 10 * (if t (b + n) = 46 then mdg t b n else _)) ∧ ((if t (b + n) = 46 then mny t b n else _) = 0 → (if t (b + n) = 46 then mdg t b n else _) = 0)
    by_cases c : t (b + n) = 46
    · rw [if_pos c, if_pos c]; exact q
    · rw [if_neg c, if_neg c]
      have w := w c
      by_cases c2 : 0 < mny t b n ∨ t (b + n) ≠ 48
      · rw [if_pos c2]
        by_cases c3 : mny t b n < 3
        · rw [if_pos ⟨c2, c3⟩]
          rcases (show mny t b n = 0 ∨ mny t b n = 1 ∨ mny t b n = 2 by omega) with e | e | e <;> rw [e] at q ⊢ <;> simp at q ⊢ <;> omega
        · rw [if_neg (fun x => c3 x.2)]
          have e1 : min (mny t b n) 3 = 3 := by omega
          have e2 : min (mny t b n + 1) 3 = 3 := by omega
          rw [e1] at q
          rw [e2]
          exact ⟨q.1, fun _ => q.2.1 (by omega), fun x => by omega⟩
      · rw [if_neg c2, if_neg (fun x => c2 x.1)]
        have e : mny t b n = 0 := by omega
        rw [q.2.2 e]
        exact ⟨by decide, fun x => by omega, fun _ => rfl⟩
theorem num_stable {n : Nat} {p : Nat} (h3 : 3 ≤ mny t b n) : ∀ m, 3 ≤ mny t b (n + m) ∧ mdg t b (n + m) = mdg t b n ∧ plc t b p (n + m) = plc t b p n
  | 0 => ⟨h3, rfl, rfl⟩
  | m + 1 => by
    obtain ⟨q1, q2, q3⟩ := num_stable h3 m
    show 3 ≤ (if t (b + (n + m)) = 46 then mny t b (n + m) else if 0 < mny t b (n + m) ∨ t (b + (n + m)) ≠ 48 then mny t b (n + m) + 1 else 0) ∧ (if t (b + (n + m)) = 46 then mdg t b (n + m) else if (0 < mny t b (n + m) ∨ t (b + (n + m)) ≠ 48) ∧ mny t b (n + m) < 3 then 10 * mdg t b (n + m) + (t (b + (n + m)) - 48).toNat else mdg t b (n + m)) = _ ∧ (if t (b + (n + m)) = 46 then plc t b p (n + m) else if mny t b (n + m) = 0 ∧ t (b + (n + m)) ≠ 48 then (if b + (n + m) < p then (p : Int) - 1 - (b + (n + m) : Nat) else (p : Int) - (b + (n + m) : Nat)) else plc t b p (n + m)) = _
    rw [if_pos (show 0 < mny t b (n + m) ∨ t (b + (n + m)) ≠ 48 by omega), if_neg (show ¬ ((0 < mny t b (n + m) ∨ t (b + (n + m)) ≠ 48) ∧ mny t b (n + m) < 3) by omega), if_neg (show ¬ (mny t b (n + m) = 0 ∧ t (b + (n + m)) ≠ 48) by omega)]
    refine ⟨?_, ?_, ?_⟩
    · split <;> omega
    · split <;> exact q2
    · split <;> exact q3
theorem whl_lt : ∀ n, (∀ i, i < n → 48 ≤ t (b + i) ∧ t (b + i) ≤ 57) → whl t b n < 10 ^ n
  | 0, _ => by show 0 < 1; decide
  | n + 1, h => by
    have := whl_lt n (fun i hi => h i (by omega))
    have := h n (by omega)
    rw [Nat.pow_succ]
    show 10 * whl t b n + (t (b + n) - 48).toNat < _
    omega
end TK2
theorem t4 : (35 : Int32).toInt = 35 ∧ (36 : Int32).toInt = 36 ∧ (42 : Int32).toInt = 42 ∧ (43 : Int32).toInt = 43 ∧ (44 : Int32).toInt = 44 ∧ (45 : Int32).toInt = 45 ∧ (46 : Int32).toInt = 46 ∧ (47 : Int32).toInt = 47 ∧ (48 : Int32).toInt = 48 ∧ (49 : Int32).toInt = 49 ∧ (52 : Int32).toInt = 52 ∧ (53 : Int32).toInt = 53 ∧ (56 : Int32).toInt = 56 ∧ (58 : Int32).toInt = 58 ∧ (59 : Int32).toInt = 59 ∧ (62 : Int32).toInt = 62 ∧ (63 : Int32).toInt = 63 ∧ (64 : Int32).toInt = 64 ∧ (122 : Int32).toInt = 122 := ⟨rfl, rfl, rfl, rfl, rfl, rfl, rfl, rfl, rfl, rfl, rfl, rfl, rfl, rfl, rfl, rfl, rfl, rfl, rfl⟩
