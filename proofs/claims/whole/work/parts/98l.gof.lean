/-! A RUN, PURE: the whole of it -/
def numV (D E : Int) : V6 := fun w => if w % 2 = 0 then D else E
def upg {α : Type} (f : Nat → α) (i : Nat) (v : α) : Nat → α := fun j => if j = i then v else f j
theorem upg_s {α : Type} {f : Nat → α} {i : Nat} {v : α} : upg f i v i = v := if_pos rfl
theorem upg_n {α : Type} {f : Nat → α} {i j : Nat} {v : α} (h : j ≠ i) : upg f i v j = f j := if_neg h
/-- what token i is worth, where such names are told and have such values -/
def ato (t : Nat → Int) (N : Nat) (td : Nat → Bool) (vl : Nat → V6) (i : Nat) : Option V6 := if tK t N i = 2 then (if td (nnum t N i) = true then some (vl (nnum t N i)) else none) else some (numV ((dgs t N (tS t N i) : Nat) : Int) (dpl t N (tS t N i)))
/-- a repeat's turns -/
def trn (t : Nat → Int) (N k : Nat) : Nat := whl t (tS t N (k + 1)) (ptE t N (tS t N (k + 1)) - tS t N (k + 1))
/-- a let's atoms -/
def lmy (t : Nat → Int) (N K k : Nat) : Nat := na t N (cl t N K k) - na t N k
noncomputable def lW (t : Nat → Int) (N k : Nat) : Nat → Int32 := fun j => wrd t N (atk t N (na t N k + j))
noncomputable def lO (t : Nat → Int) (N : Nat) (td : Nat → Bool) (vl : Nat → V6) (k : Nat) : Nat → Option V6 := fun j => ato t N td vl (atk t N (na t N k + j))
noncomputable def lV (t : Nat → Int) (N k : Nat) : Nat → Bool := fun j => ovr t N (atk t N (na t N k + j))
noncomputable def ltT (hs ey : Int) (sl : SL) (t : Nat → Int) (N K k s : Nat) (x : S7) (td : Nat → Bool) (vl : Nat → V6) : Int × S7 × V6 := ltR hs ey sl (lW t N k) (lO t N td vl k) (lV t N k) (s + 1) x (lmy t N K k)
def ifT (t : Nat → Int) (N k s : Nat) (td : Nat → Bool) (vl : Nat → V6) : Int × Bool := ifR s (ato t N td vl (k + 1 + sur t N k)) (ato t N td vl (k + 3 + sur t N k)) (ifA t N k)
/-- a run from token k on: why it broke (0: it didn't), at which token, the hand, the values told -/
noncomputable def gof (hs ey : Int) (sl : SL) (t : Nat → Int) (N K : Nat) : Nat → Nat → Nat → S7 → (Nat → Bool) → (Nat → V6) → (Nat → Nat) → Int × Nat × S7 × (Nat → Bool) × (Nat → V6)
  | 0, k, _, x, td, vl, _ => (0, k, x, td, vl)
  | n + 1, k, s, x, td, vl, tu =>
    if K ≤ k then (0, k, x, td, vl)
    else if tK t N k = 4 then (if s = 200 then (1, k, x, td, vl) else if (ltT hs ey sl t N K k s x td vl).1 = 0 then gof hs ey sl t N K n (cl t N K k + 1) (s + 1 + lmy t N K k) (ltT hs ey sl t N K k s x td vl).2.1 (upg td (nnum t N (k + 1)) true) (upg vl (nnum t N (k + 1)) (ltT hs ey sl t N K k s x td vl).2.2) tu else ((ltT hs ey sl t N K k s x td vl).1, k, x, td, vl))
    else if tK t N k = 5 then (if s = 200 then (1, k, x, td, vl) else if trn t N k = 0 then gof hs ey sl t N K n (cl t N K k + 1) (s + 1) x td vl tu else gof hs ey sl t N K n (k + 2) (s + 1) x td vl (upg tu k (trn t N k)))
    else if tK t N k = 7 then (if (ifT t N k s td vl).1 = 0 then (if (ifT t N k s td vl).2 = true then gof hs ey sl t N K n (k + 4 + sur t N k) (s + 1) x td vl tu else gof hs ey sl t N K n (cl t N K k + 1) (s + 1) x td vl tu) else ((ifT t N k s td vl).1, k, x, td, vl))
    else if tK t N k = 9 then gof hs ey sl t N K n (cl t N K k + 1) s x td vl tu
    else if tK t N (hd0 (xo t N k)) = 5 ∧ 1 < tu (hd0 (xo t N k)) then (if s = 200 then (1, hd0 (xo t N k), x, td, vl) else gof hs ey sl t N K n (hd0 (xo t N k) + 2) (s + 1) x td vl (upg tu (hd0 (xo t N k)) (tu (hd0 (xo t N k)) - 1)))
    else gof hs ey sl t N K n (k + 1) s x td vl tu
def J9 (q : Int × S7) : Prop := q.1 = 0 → zu q.2 ≤ 999 ∧ zv q.2 ≤ 999
/-- the hand's bounds after s steps -/
def BXs (B : Int) (s : Nat) (x : S7) : Prop := BUn x ∧ zsl x ≤ 4 * s ∧ zhm x ≤ 4 * s ∧ zu x ≤ B ∧ zv x ≤ B
section GOB
variable {hs ey : Int} {sl : SL} {x y : S7} {W : Nat → Int32} {O : Nat → Option V6} {ov : Nat → Bool} {vs : Nat → V6} {s N : Nat} {B p : Int} {v : V6}
theorem J9_thn {r : Int × S7} {f : S7 → Int × S7} (h : ∀ y, J9 (f y)) : J9 (thn r f) := by
  unfold thn
  by_cases c : r.1 = 0
  · rw [if_pos c]; exact h r.2
  · rw [if_neg c]; exact fun w => absurd w c
theorem J9_pset {C lo : Int} {b : Bool} : J9 (pset hs x C b lo) := by
  intro w
  have := pset_b w
  omega
theorem J9_phair {a e : Int} : J9 (phair hs x a e) := by
  intro w
  have := phair_b w
  omega
theorem J9_ltc (j : Nat) : J9 (ltc hs sl ov vs x j) := by
  cases j with
  | zero =>
    unfold ltc
    cases sl true 1 false with
    | none => exact fun w => absurd w (by show ¬ (2 : Int) = 0; decide)
    | some fl => exact J9_pset
  | succ j =>
    unfold ltc
    refine J9_thn (fun y => ?_)
    cases ov (j + 1) with
    | true =>
      show J9 (pdC hs (sl false 1 false) (vs (j + 1)) y)
      unfold pdC
      cases sl false 1 false with
      | none => exact fun w => absurd w (by show ¬ (2 : Int) = 0; decide)
      | some fl =>
        show J9 (pdiv hs y (ct 1 false fl (vmk (vs (j + 1)) 1)) (vs (j + 1) 1) (lse (vs (j + 1)) 1))
        unfold pdiv
        refine J9_thn (fun z => ?_)
        by_cases c : zs z < 0
        · simp only [if_pos c]; exact J9_phair
        · simp only [if_neg c]; exact J9_phair
    | false =>
      show J9 (pmC hs (sl false 1 false) (vs (j + 1)) (decide (1 < j + 1) && ov j) y)
      unfold pmC
      refine J9_thn (fun z => ?_)
      cases sl false 1 false with
      | none => exact fun w => absurd w (by show ¬ (2 : Int) = 0; decide)
      | some fl =>
        show J9 (pmul2 hs z (ct 1 false fl (vmk (vs (j + 1)) 1)) (vs (j + 1) 1) (lse (vs (j + 1)) 1))
        unfold pmul2
        exact J9_thn (fun z => J9_pset)
theorem ltR_b (gvo : ∀ j, j < N → ∀ v, O j = some v → GV v) (h1 : 1 ≤ N) (hN : N ≤ 210) (bx : BXs B s x) (b9 : 999 ≤ B) (h0 : 0 ≤ hs) (s2 : s + 1 ≤ 200) (w : (ltR hs ey sl W O ov (s + 1) x N).1 = 0) : BXs B (s + 1 + N) (ltR hs ey sl W O ov (s + 1) x N).2.1 ∧ GV (ltR hs ey sl W O ov (s + 1) x N).2.2 ∧ s + 1 + N ≤ 200 ∧ -100000 ≤ zpl (ltR hs ey sl W O ov (s + 1) x N).2.1 ∧ zpl (ltR hs ey sl W O ov (s + 1) x N).2.1 ≤ 100000 := by
  obtain ⟨be, b1, b2, b3, b4⟩ := bx
  unfold ltR at w ⊢
  by_cases c : (ltp hs ey sl W O (s + 1) x N).1 = 0
  · rw [if_pos c] at w ⊢
    obtain ⟨l1, l2, l3⟩ := ltp_b gvo be (by omega) (by omega) h0 hN s2 N (Nat.le_refl _) c
    have by1 : BUn (ltp hs ey sl W O (s + 1) x N).2.1 := BUn_L be (by omega) (by omega) (by omega) l1
    by_cases c2 : (ltc hs sl ov (ltp hs ey sl W O (s + 1) x N).2.2 (ltp hs ey sl W O (s + 1) x N).2.1 (N - 1)).1 = 0
    · rw [if_pos c2] at w ⊢
      have m1 : zsl (ltp hs ey sl W O (s + 1) x N).2.1 ≤ 950000 ∧ zhm (ltp hs ey sl W O (s + 1) x N).2.1 ≤ 950000 := by
        unfold LV at l1; omega
      obtain ⟨k1, k2, k3⟩ := ltc_b (ov := ov) (sl := sl) l2 by1 m1.1 m1.2 h0 hN (N - 1) (by omega) c2
      have j9 := J9_ltc (hs := hs) (sl := sl) (ov := ov) (vs := (ltp hs ey sl W O (s + 1) x N).2.2) (x := (ltp hs ey sl W O (s + 1) x N).2.1) (N - 1) c2
      obtain ⟨p1, p2⟩ := pwT_b w
      rw [p1]
      refine ⟨?_, p2, l3, by omega, by omega⟩
      generalize (ltc hs sl ov (ltp hs ey sl W O (s + 1) x N).2.2 (ltp hs ey sl W O (s + 1) x N).2.1 (N - 1)).2 = z at *
      generalize (ltp hs ey sl W O (s + 1) x N).2.1 = y at *
      unfold BXs
      unfold BUn LV at *
      omega
    · rw [if_neg c2] at w
      exact absurd w c2
  · rw [if_neg c] at w
    exact absurd w c
/-- the place before a let is of no account -/
theorem pset_sp {C lo : Int} {b : Bool} : pset hs (setp x p) C b lo = ((pset hs x C b lo).1, setp (pset hs x C b lo).2 p) := by
  unfold pset phair
  show (if C + (if b then 0 else zs x) < 0 ∨ 4096 < C + (if b then 0 else zs x) then ((5 : Int), setp x p) else _) = _
  by_cases c : C + (if b then 0 else zs x) < 0 ∨ 4096 < C + (if b then 0 else zs x)
  · rw [if_pos c, if_pos c]
  · rw [if_neg c, if_neg c]; rfl
theorem pwT_sp {pl : Int} {c : Option (Nat → Int)} {b : Bool} {f : Nat} {t : Bool} : pwT ey pl c b f t v (setp x p) = ((pwT ey pl c b f t v x).1, setp (pwT ey pl c b f t v x).2.1 p, (pwT ey pl c b f t v x).2.2) := by
  unfold pwT
  cases c with
  | none => rfl
  | some fl =>
    show (if lkW ey x b f t fl pl = 0 then ((0 : Int), setp x p, lkV ey x b f t fl pl) else (lkW ey x b f t fl pl, setp x p, v)) = _
    by_cases c : lkW ey x b f t fl pl = 0
    · simp only [if_pos c]
    · simp only [if_neg c]
theorem pw2_sp {pl : Int} {c1 c2 : Option (Nat → Int)} {b1 b2 t2 : Bool} {f1 f2 : Nat} : pw2 hs ey pl c1 c2 b1 f1 b2 f2 t2 v (setp x p) = ((pw2 hs ey pl c1 c2 b1 f1 b2 f2 t2 v x).1, setp (pw2 hs ey pl c1 c2 b1 f1 b2 f2 t2 v x).2.1 p, (pw2 hs ey pl c1 c2 b1 f1 b2 f2 t2 v x).2.2) := by
  unfold pw2
  cases c1 with
  | none => rfl
  | some fl =>
    simp only [pset_sp]
    by_cases c : (pset hs x (ct f1 false fl (vmk v f1)) b1 (lse v f1)).1 = 0
    · simp only [if_pos c, pwT_sp]
    · simp only [if_neg c]
theorem pwR_sp {w : Int32} : pwR hs ey sl w v (setp x p) = ((pwR hs ey sl w v x).1, setp (pwR hs ey sl w v x).2.1 p, (pwR hs ey sl w v x).2.2) := by
  unfold pwR
  by_cases n6 : w = 6
  · simp only [if_pos n6, pw2_sp]
  by_cases n7 : w = 7
  · simp only [if_neg n6, if_pos n7, pw2_sp]
  by_cases n8 : w = 8
  · simp only [if_neg n6, if_neg n7, if_pos n8, pw2_sp]
  by_cases n9 : w = 9
  · simp only [if_neg n6, if_neg n7, if_neg n8, if_pos n9, pw2_sp]
  by_cases n10 : w = 10
  · simp only [if_neg n6, if_neg n7, if_neg n8, if_neg n9, if_pos n10, pw2_sp]
  · simp only [if_neg n6, if_neg n7, if_neg n8, if_neg n9, if_neg n10]
theorem pwS_sp {w : Int32} {o : Option V6} : pwS hs ey sl w s o (setp x p) = ((pwS hs ey sl w s o x).1, setp (pwS hs ey sl w s o x).2.1 p, (pwS hs ey sl w s o x).2.2) := by
  unfold pwS
  by_cases c : s = 200
  · simp only [if_pos c]
  · simp only [if_neg c]
    cases o with
    | none => rfl
    | some v => exact pwR_sp
theorem ltp_sp (j : Nat) : ltp hs ey sl W O s (setp x p) j = ((ltp hs ey sl W O s x j).1, setp (ltp hs ey sl W O s x j).2.1 p, (ltp hs ey sl W O s x j).2.2) := by
  induction j with
  | zero => rfl
  | succ j ih =>
    have e1 : ltp hs ey sl W O s (setp x p) (j + 1) = if (ltp hs ey sl W O s (setp x p) j).1 = 0 then ((pwS hs ey sl (W j) (s + j) (O j) (ltp hs ey sl W O s (setp x p) j).2.1).1, (pwS hs ey sl (W j) (s + j) (O j) (ltp hs ey sl W O s (setp x p) j).2.1).2.1, fun k => if k = j then (pwS hs ey sl (W j) (s + j) (O j) (ltp hs ey sl W O s (setp x p) j).2.1).2.2 else (ltp hs ey sl W O s (setp x p) j).2.2 k) else ltp hs ey sl W O s (setp x p) j := rfl
    have e2 : ltp hs ey sl W O s x (j + 1) = if (ltp hs ey sl W O s x j).1 = 0 then ((pwS hs ey sl (W j) (s + j) (O j) (ltp hs ey sl W O s x j).2.1).1, (pwS hs ey sl (W j) (s + j) (O j) (ltp hs ey sl W O s x j).2.1).2.1, fun k => if k = j then (pwS hs ey sl (W j) (s + j) (O j) (ltp hs ey sl W O s x j).2.1).2.2 else (ltp hs ey sl W O s x j).2.2 k) else ltp hs ey sl W O s x j := rfl
    rw [e1, e2, ih]
    by_cases c : (ltp hs ey sl W O s x j).1 = 0
    · simp only [if_pos c, pwS_sp]
    · simp only [if_neg c]
theorem ltc_sp (j : Nat) : ltc hs sl ov vs (setp x p) j = ltc hs sl ov vs x j ∨ ((ltc hs sl ov vs (setp x p) j).1 = (ltc hs sl ov vs x j).1 ∧ (ltc hs sl ov vs x j).1 ≠ 0) := by
  induction j with
  | zero =>
    unfold ltc
    cases sl true 1 false with
    | none => exact Or.inr ⟨rfl, by show ¬ (2 : Int) = 0; decide⟩
    | some fl => exact Or.inl rfl
  | succ j ih =>
    unfold ltc thn
    rcases ih with e | ⟨e1, e2⟩
    · rw [e]; exact Or.inl rfl
    · right
      rw [if_neg e2, if_neg (by rw [e1]; exact e2)]
      exact ⟨e1, e2⟩
theorem ltR_sp : (ltR hs ey sl W O ov s (setp x p) N).1 = (ltR hs ey sl W O ov s x N).1 ∧ ((ltR hs ey sl W O ov s x N).1 = 0 → (ltR hs ey sl W O ov s (setp x p) N).2 = (ltR hs ey sl W O ov s x N).2) := by
  unfold ltR
  rw [ltp_sp]
  by_cases c : (ltp hs ey sl W O s x N).1 = 0
  · simp only [if_pos c]
    rcases ltc_sp (hs := hs) (sl := sl) (ov := ov) (vs := (ltp hs ey sl W O s x N).2.2) (x := (ltp hs ey sl W O s x N).2.1) (p := p) (N - 1) with e | ⟨e1, e2⟩
    · rw [e]
      by_cases c2 : (ltc hs sl ov (ltp hs ey sl W O s x N).2.2 (ltp hs ey sl W O s x N).2.1 (N - 1)).1 = 0
      · simp only [if_pos c2]
        exact ⟨trivial, fun _ => trivial⟩
      · simp only [if_neg c2]
        exact ⟨trivial, fun w => absurd w c2⟩
    · rw [if_neg e2, if_neg (by rw [e1]; exact e2)]
      exact ⟨e1, fun w => absurd w e2⟩
  · simp only [if_neg c]
    exact ⟨trivial, fun w => absurd w c⟩
end GOB
