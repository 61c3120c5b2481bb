/-! READING, PURE: what class and model make of the tokens -/
section PRS
variable (t : Nat → Int) (N : Nat)
def tpo : Nat → Nat
  | 0 => 0
  | k + 1 => tkZ t N (tkb t N (tpo k))
/-- where token k begins, and its kind -/
def tS (k : Nat) : Nat := tkb t N (tpo t N k)
def tK (k : Nat) : Nat := tkK t N (tS t N k)
/-- what comes next behind a kind, where e is expected: el, an if is open; de, something is -/
def fol (e : Nat) (el de : Bool) (k : Nat) : Nat :=
  if e = 1 then (if k = 4 then 2 else if k = 5 then 7 else if k = 7 then 8 else if k = 9 then (if el = true then 1 else 0) else if k = 6 then (if de = true then 1 else 0) else 0)
  else if e = 2 then (if k = 2 then 3 else 0)
  else if e = 3 then (if k = 16 then 4 else 0)
  else if e = 4 then (if 10 ≤ k ∧ k ≤ 14 then 5 else if k = 2 ∨ k = 3 then 6 else 0)
  else if e = 5 then (if k = 2 ∨ k = 3 then 6 else 0)
  else if e = 6 then (if k = 19 ∨ k = 20 then 4 else if k = 15 then 1 else 0)
  else if e = 7 then (if k = 3 then 1 else 0)
  else if e = 8 then (if k = 8 then 9 else if k = 2 ∨ k = 3 then 10 else 0)
  else if e = 9 then (if k = 2 ∨ k = 3 then 10 else 0)
  else if e = 10 then (if k = 17 ∨ k = 18 then 11 else 0)
  else if e = 11 then (if k = 2 ∨ k = 3 then 1 else 0)
  else 0
def hd0 (l : List Nat) : Nat := l.getD 0 0
/-- what is expected at token k, and the tokens of what is open, the innermost first -/
def xs : Nat → Nat × List Nat
  | 0 => (1, [])
  | k + 1 => (fol (xs k).1 (decide ((xs k).2 ≠ [] ∧ tK t N (hd0 (xs k).2) = 7)) (decide ((xs k).2 ≠ [])) (tK t N k), if tK t N k = 5 ∨ tK t N k = 7 then k :: (xs k).2 else if tK t N k = 9 then k :: (xs k).2.tail else if tK t N k = 6 then (xs k).2.tail else (xs k).2)
def xe (k : Nat) : Nat := (xs t N k).1
def xo (k : Nat) : List Nat := (xs t N k).2
/-- the code of the word that begins at b -/
def wlen (b : Nat) : Nat := tkE tkL t N b - b
def w27 (b : Nat) : Nat := c27 t b (wlen t N b)
def w08 (b : Nat) : Nat := c08 t b (wlen t N b)
def nix (l : List Nat) (b : Nat) : Nat := l.findIdx (fun a => w27 t N a == w27 t N b)
/-- the names seen before token k, by where each first begins -/
def nms : Nat → List Nat
  | 0 => []
  | k + 1 => if tK t N k = 2 ∧ nix t N (nms k) (tS t N k) = (nms k).length then nms k ++ [tS t N k] else nms k
/-- the number of the name that is token k -/
def nnum (k : Nat) : Nat := nix t N (nms t N k) (tS t N k)
def isAt (k : Nat) : Bool := decide ((tK t N k = 2 ∨ tK t N k = 3) ∧ xe t N k ≠ 2 ∧ xe t N k ≠ 7)
/-- atoms, steps before token k -/
def na : Nat → Nat
  | 0 => 0
  | k + 1 => na k + (if isAt t N k = true then 1 else 0)
def isSt (k : Nat) : Bool := decide (tK t N k = 4 ∨ tK t N k = 5 ∨ tK t N k = 7 ∨ tK t N k = 9 ∨ (tK t N k = 6 ∧ tK t N (hd0 (xo t N k)) = 5))
def ns : Nat → Nat
  | 0 => 0
  | k + 1 => ns k + (if isSt t N k = true then 1 else 0)
/-- the latest let before token k -/
def la : Nat → Nat
  | 0 => 0
  | k + 1 => if tK t N k = 4 then k else la k
/-- the token at which what token i began ends (an if's: its else, or its end), as known before token k -/
def cl : Nat → Nat → Nat
  | 0, _ => 0
  | k + 1, i => if (tK t N k = 15 ∧ i = la t N k) ∨ ((tK t N k = 6 ∨ tK t N k = 9) ∧ i = hd0 (xo t N k)) then k else cl k i
/-- the names told by lets that end before token k -/
def tld : Nat → Nat → Bool
  | 0, _ => false
  | k + 1, j => if tK t N k = 15 ∧ j = nnum t N (la t N k + 1) then true else tld k j
def wrg (k : Nat) : Bool := decide (tK t N k = 3 ∧ ((xe t N k = 7 ∧ (ptd t N (tS t N k) = true ∨ 99 < whl t (tS t N k) (ptE t N (tS t N k) - tS t N k))) ∨ (xe t N k ≠ 7 ∧ dgs t N (tS t N k) = 0)))
def unt (k : Nat) : Bool := decide (tK t N k = 2 ∧ xe t N k ≠ 2 ∧ tld t N k (nnum t N k) = false)
/-- the first fault of names and numbers before token k -/
def sft : Nat → Nat × Int
  | 0 => (0, -1)
  | k + 1 => if (sft k).1 ≠ 0 then sft k else if unt t N k = true then (4, (tS t N k : Int)) else if wrg t N k = true then (5, (tS t N k : Int)) else sft k
def fwl (k : Nat) : Nat := fol (xe t N k) (decide (xo t N k ≠ [] ∧ tK t N (hd0 (xo t N k)) = 7)) (decide (xo t N k ≠ [])) (tK t N k)
/-- the fault at token k that ends the reading: 0, 1 or 2 -/
def hft (k : Nat) : Nat := if fwl t N k = 0 then 1 else if 400 ≤ k ∨ (tK t N k = 2 ∧ 12 ≤ nnum t N k) ∨ ((tK t N k = 5 ∨ tK t N k = 7) ∧ 6 ≤ (xo t N k).length) then 2 else 0
def fin (k : Nat) : Prop := tK t N k = 1 ∧ xe t N k = 1 ∧ xo t N k = []
/-- the reading stops at token k -/
def Spt (k : Nat) : Prop := (∀ j, j < k → hft t N j = 0) ∧ (fin t N k ∨ hft t N k ≠ 0)
/-- what comes of it -/
def rsl (k : Nat) : Nat × Int := if tK t N k = 1 ∧ xe t N k = 1 ∧ xo t N k = [] then sft t N k else (hft t N k, (tS t N k : Int))
end PRS
section PRS2
variable {t : Nat → Int} {N k : Nat}
theorem tkZ_r {b : Nat} (hb : b ≤ N) : b ≤ tkZ t N b ∧ tkZ t N b ≤ N := by
  unfold tkZ
  by_cases c : N ≤ b
  · rw [if_pos c]; omega
  rw [if_neg c]
  split
  · exact ⟨tkE_ge, tkE_le hb⟩
  split
  · exact ⟨Nat.le_trans ptE_ge nmE_ge, nmE_le hb⟩
  split
  · next c2 => have := of_decide_eq_true c2; omega
  · omega
theorem tkb_r {a : Nat} (ha : a ≤ N) : a ≤ tkb t N a ∧ tkb t N a ≤ N := ⟨tkE_ge, tkE_le ha⟩
theorem tpo_le : ∀ k, tpo t N k ≤ N
  | 0 => Nat.zero_le _
  | k + 1 => (tkZ_r (tkb_r (tpo_le k)).2).2
theorem tS_le (k : Nat) : tS t N k ≤ N := (tkb_r (tpo_le k)).2
theorem tpo_s (k : Nat) : tpo t N (k + 1) = tkZ t N (tS t N k) := rfl
theorem tK_end (h : tK t N k = 1) : tS t N k = N := by
  have a := tS_le (t := t) (N := N) k
  unfold tK tkK at h
  by_cases c : N ≤ tS t N k
  · omega
  · rw [if_neg c] at h
    split at h
    · split at h
      · omega
      · have := kwK_r (c27 t (tS t N k) (tkE tkL t N (tS t N k) - tS t N k)); omega
    split at h
    · split at h <;> omega
    · unfold sgK at h
      repeat (first | (split at h) | omega)
theorem sgK_r (b : Nat) : sgK t N b = 0 ∨ (15 ≤ sgK t N b ∧ sgK t N b ≤ 20) := by
  unfold sgK
  repeat (first | (split; omega) | (split) | omega)
theorem tkK_r (b : Nat) : tkK t N b ≤ 20 := by
  unfold tkK
  split
  · omega
  split
  · split
    · omega
    · have := kwK_r (c27 t b (tkE tkL t N b - b)); omega
  split
  · split <;> omega
  · have := sgK_r (t := t) (N := N) b; omega
/-- a name: its letters -/
theorem tK_name {b : Nat} (h : tkK t N b = 2) : b < N ∧ wlen t N b ≤ 8 ∧ ∀ i, i < wlen t N b → 97 ≤ t (b + i) ∧ t (b + i) ≤ 122 := by
  have hb : b < N := by
    unfold tkK at h
    split at h
    · omega
    · omega
  have hl : tkL (t b) = true := by
    unfold tkK at h
    rw [if_neg (by omega)] at h
    split at h
    · assumption
    · split at h
      · split at h <;> omega
      · have := sgK_r (t := t) (N := N) b; omega
  unfold tkK at h
  rw [if_neg (by omega), if_pos hl] at h
  unfold wlen
  refine ⟨hb, ?_, fun i hi => tkL_of (tkE_in (N := N) (i := b) (by omega) (by omega))⟩
  split at h
  · omega
  · omega
theorem tK_num {b : Nat} (h : tkK t N b = 3) : b < N ∧ tkL (t b) = false ∧ tkD (t b) = true ∧ ptE t N b - b ≤ 4 ∧ nmE t N b - ptE t N b - 1 ≤ 4 := by
  have hb : b < N := by
    unfold tkK at h
    split at h
    · omega
    · omega
  unfold tkK at h
  rw [if_neg (by omega)] at h
  cases hl : tkL (t b) with
  | true =>
    rw [hl, if_pos rfl] at h
    split at h
    · omega
    · have := kwK_r (c27 t b (tkE tkL t N b - b)); omega
  | false =>
    rw [hl, if_neg (by decide)] at h
    cases hd : tkD (t b) with
    | true =>
      rw [hd, if_pos rfl] at h
      split at h
      · omega
      · exact ⟨hb, rfl, rfl, by omega, by omega⟩
    | false =>
      rw [hd, if_neg (by decide)] at h
      have := sgK_r (t := t) (N := N) b; omega
/-- codes by either base tell names alike -/
theorem w_inj {a b : Nat} (ha : tkK t N a = 2) (hb : tkK t N b = 2) : w27 t N a = w27 t N b ↔ w08 t N a = w08 t N b := c_inj _ _ (tK_name ha).2.2 (tK_name hb).2.2
theorem w27_lt {b : Nat} (hb : tkK t N b = 2) : w27 t N b < 9223372036854775808 := by
  have q := tK_name hb
  have := c27_lt _ q.2.2
  have : (27 : Nat) ^ wlen t N b ≤ 27 ^ 8 := Nat.pow_le_pow_right (by decide) q.2.1
  unfold w27
  omega
theorem w08_lt {b : Nat} (hb : tkK t N b = 2) : w08 t N b < 9223372036854775808 := by
  have q := tK_name hb
  have := c08_lt _ q.2.2
  have : (256 : Nat) ^ wlen t N b ≤ 256 ^ 8 := Nat.pow_le_pow_right (by decide) q.2.1
  unfold w08
  omega
theorem nix_le {l : List Nat} {b : Nat} : nix t N l b ≤ l.length := List.findIdx_le_length
theorem nms_name : ∀ k, ∀ j, j < (nms t N k).length → tkK t N ((nms t N k).getD j 0) = 2
  | 0 => fun j hj => absurd hj (Nat.not_lt_zero _)
  | k + 1 => by
    intro j hj
    have ih := nms_name k j
    show tkK t N ((if tK t N k = 2 ∧ nix t N (nms t N k) (tS t N k) = (nms t N k).length then nms t N k ++ [tS t N k] else nms t N k).getD j 0) = 2
    change j < (if tK t N k = 2 ∧ nix t N (nms t N k) (tS t N k) = (nms t N k).length then nms t N k ++ [tS t N k] else nms t N k).length at hj
    split
    · next c =>
      rw [if_pos c, List.length_append, List.length_singleton] at hj
      by_cases e : j < (nms t N k).length
      · have := ih e
        rw [List.getD_eq_getElem?_getD] at this ⊢
        rw [List.getElem?_append_left e]
        exact this
      · rw [List.getD_eq_getElem?_getD, List.getElem?_append_right (by omega), show j - (nms t N k).length = 0 by omega]
        exact c.1
    · next c =>
      rw [if_neg c] at hj
      exact ih hj
theorem hft_0 (h : hft t N k = 0) : fwl t N k ≠ 0 ∧ k < 400 ∧ (tK t N k = 2 → nnum t N k < 12) ∧ ((tK t N k = 5 ∨ tK t N k = 7) → (xo t N k).length < 6) := by
  unfold hft at h
  split at h
  · omega
  · next c =>
    split at h
    · omega
    · next c2 =>
      refine ⟨c, by omega, fun e => ?_, fun e => ?_⟩
      · refine Classical.byContradiction (fun q => c2 (Or.inr (Or.inl ⟨e, by omega⟩)))
      · refine Classical.byContradiction (fun q => c2 (Or.inr (Or.inr ⟨e, by omega⟩)))
theorem Spt_400 (h : Spt t N k) : k ≤ 400 := by
  refine Classical.byContradiction (fun c => ?_)
  have := hft_0 (h.1 400 (by omega))
  omega
theorem Spt_ex : ∃ k, Spt t N k := by
  refine Classical.byContradiction (fun c => ?_)
  have A : ∀ n, ∀ j, j < n → hft t N j = 0 := by
    intro n
    induction n with
    | zero => intro j hj; omega
    | succ n ih =>
      intro j hj
      by_cases e : j = n
      · subst e
        refine Classical.byContradiction (fun q => c ⟨j, ih, Or.inr q⟩)
      · exact ih j (by omega)
  have := hft_0 (A 401 400 (by omega))
  omega
theorem xe_s : xe t N (k + 1) = fwl t N k := rfl
theorem xo_s : xo t N (k + 1) = (if tK t N k = 5 ∨ tK t N k = 7 then k :: xo t N k else if tK t N k = 9 then k :: (xo t N k).tail else if tK t N k = 6 then (xo t N k).tail else xo t N k) := rfl
end PRS2
