/-! ORDERS: an order's worth, and the best of all -/
theorem phair_0 {x : S7} {stand more : Int} (c : ¬ (stand < 0 ∨ 4096 < stand)) (hu : zu x = 0) (hv : 0 + more = 0) : phair 0 x stand more = (0, s7 (zs x) stand (zu x) (0 + more) (zsl x) (zhm x + 1) (zpl x)) := by
  unfold phair
  rw [if_neg c, jd_0 (x := s7 (zs x) stand (zu x) (0 + more) (zsl x) (zhm x + 1) (zpl x)) hu hv]
theorem pslide_0 {x : S7} {stand doubt : Int} (c : ¬ (stand < -4096 ∨ 4096 < stand)) (hu : doubt = 0) (hv : zv x = 0) : pslide x stand doubt = (0, s7 stand (zh x) doubt (zv x) (zsl x + 1) (zhm x) (zpl x)) := by
  unfold pslide
  rw [if_neg c, jd_0 (x := s7 stand (zh x) doubt (zv x) (zsl x + 1) (zhm x) (zpl x)) hu hv]
theorem pset_0 {x : S7} {c : Int} (h : ¬ (c + zs x < 0 ∨ 4096 < c + zs x)) (hu : zu x = 0) : pset 0 x c false 0 = (0, s7 (zs x) (c + zs x) (zu x) (0 + (zu x + 0)) (zsl x) (zhm x + 1) (zpl x)) := by
  show phair 0 x (c + zs x) (zu x + 0) = _
  exact phair_0 h hu (by omega)
theorem pm2 {y : S7} {p plc : Int} (p0 : 0 ≤ p) (p1 : p ≤ 4095) (s0 : -4096 ≤ zs y) (s1 : zs y ≤ 4096) (hu : zu y = 0) (hv : zv y = 0) : pmul2 0 y p plc 0 = (0, if 4096 < zs y + p then s7 (zs y - 4096) (zs y - 4096 + p) 0 0 (zsl y + 1) (zhm y + 1) (zpl y + 1 + plc) else if zs y + p < 0 then s7 (zs y + 4096) (zs y + 4096 + p) 0 0 (zsl y + 1) (zhm y + 1) (zpl y - 1 + plc) else s7 (zs y) (zs y + p) 0 0 (zsl y) (zhm y + 1) (zpl y + plc)) := by
  unfold pmul2
  by_cases c1 : 4096 < zs y + p
  · rw [if_pos (show 4096 < p + zs y by omega), if_pos c1]
    rw [pslide_0 (x := addp y 1) (by omega) (show zu y + 0 = 0 by omega) hv]
    unfold thn
    rw [if_pos rfl]
    refine (pset_0 (x := (addp (s7 (zs y - 4096) (zh (addp y 1)) (zu y + 0) (zv (addp y 1)) (zsl (addp y 1) + 1) (zhm (addp y 1)) (zpl (addp y 1))) plc)) (by show ¬ (p + (zs y - 4096) < 0 ∨ 4096 < p + (zs y - 4096)); omega) (show zu y + 0 = 0 by omega)).trans ?_
    refine congrArg (fun z => ((0 : Int), z)) ?_
    unfold addp s7
    simp only [zs, zh, zu, zv, zsl, zhm, zpl, Prod.mk.injEq, true_and, and_true] at *
    omega
  · rw [if_neg (show ¬ 4096 < p + zs y by omega), if_neg c1]
    by_cases c2 : zs y + p < 0
    · rw [if_pos (show p + zs y < 0 by omega), if_pos c2]
      rw [pslide_0 (x := addp y (-1)) (by omega) (show zu y + 0 = 0 by omega) hv]
      unfold thn
      rw [if_pos rfl]
      refine (pset_0 (x := (addp (s7 (zs y + 4096) (zh (addp y (-1))) (zu y + 0) (zv (addp y (-1))) (zsl (addp y (-1)) + 1) (zhm (addp y (-1))) (zpl (addp y (-1)))) plc)) (by show ¬ (p + (zs y + 4096) < 0 ∨ 4096 < p + (zs y + 4096)); omega) (show zu y + 0 = 0 by omega)).trans ?_
      refine congrArg (fun z => ((0 : Int), z)) ?_
      unfold addp s7
      simp only [zs, zh, zu, zv, zsl, zhm, zpl, Prod.mk.injEq, true_and, and_true] at *
      omega
    · rw [if_neg (show ¬ p + zs y < 0 by omega), if_neg c2]
      unfold thn
      rw [if_pos rfl]
      refine (pset_0 (x := addp y plc) (by show ¬ (p + zs y < 0 ∨ 4096 < p + zs y); omega) hu).trans ?_
      refine congrArg (fun z => ((0 : Int), z)) ?_
      unfold addp s7
      simp only [zs, zh, zu, zv, zsl, zhm, zpl, Prod.mk.injEq, true_and, and_true] at *
      omega
theorem ideal_mul {i : Nat} {x : S7} {p plc : Int} {bh : Bool} (b : BT i x) (p0 : 0 ≤ p) (p1 : p ≤ 4095) : thn (pmul1 0 x bh) (fun y => pmul2 0 y p plc 0) = (0, tst x p plc false bh) := by
  obtain ⟨b1, b2, b3, b4, b5, b6, b7, b8, b9, b10, b11, b12⟩ := b
  cases bh
  · have e : pmul1 0 x false = (0, s7 (zh x) (zh x) (zv x + 0) (zv x) (zsl x + 1) (zhm x) (zpl x)) := by
      show pslide x (zh x) (zv x + 0) = _
      exact pslide_0 (by omega) (by omega) b6
    rw [e]
    unfold thn
    rw [if_pos rfl]
    refine (pm2 (y := s7 (zh x) (zh x) (zv x + 0) (zv x) (zsl x + 1) (zhm x) (zpl x)) p0 p1 (by show -4096 ≤ zh x; omega) (by show zh x ≤ 4096; omega) (by show zv x + 0 = 0; omega) b6).trans ?_
    unfold tst
    simp only [Bool.false_eq_true, if_false]
    rfl
  · have e : pmul1 0 x true = (0, if zs x < 0 then addp x 1 else x) := rfl
    rw [e]
    unfold thn
    rw [if_pos rfl]
    unfold tst
    simp only [Bool.false_eq_true, if_false, if_true]
    by_cases c : zs x < 0
    · rw [if_pos c, if_pos c]
      exact pm2 (y := addp x 1) p0 p1 b1 (by show zs x ≤ 4096; omega) b5 b6
    · rw [if_neg c, if_neg c]
      refine (pm2 (y := x) p0 p1 b1 (by omega) b5 b6).trans ?_
      rw [Int.add_zero]
/-- an order from the i-th factor on -/
def tgo (U P : Nat → Int) (O : Nat → Bool) (L : List Nat) : Nat → Nat → S7 → S7
  | 0, _, x => x
  | j + 1, i, x => tgo U P O L j (i + 1) (tst x (U (gt L i)) (P (gt L i)) (O (gt L i)) (decide (0 < i) && O (gt L (i - 1))))
def TT (U P : Nat → Int) (O : Nat → Bool) (any : Bool) (n : Nat) (L : List Nat) : S7 := if any then tgo U P O L (n - 1) 1 (s7 0 (U (gt L 0)) 0 0 0 1 (P (gt L 0))) else tgo U P O L n 0 (s7 0 0 0 0 0 0 0)
abbrev Acc : Type := Option (Int × Int × Int × List Nat)
def upB (a : Acc) (y : S7) (L : List Nat) : Acc := match a with
  | none => some (zsl y, zhm y, zpl y, L)
  | some q => if zsl y < q.1 ∨ (zsl y = q.1 ∧ zhm y < q.2.1) then some (zsl y, zhm y, zpl y, L) else some q
def one (U P : Nat → Int) (O : Nat → Bool) (any : Bool) (n : Nat) (L : List Nat) (a : Acc) : Acc := if any = false ∨ O (gt L 0) = false then upB a (TT U P O any n L) L else a
def fo (U P : Nat → Int) (O : Nat → Bool) (any : Bool) (n : Nat) : Nat → List Nat → Acc → Acc
  | 0, _, a => a
  | j + 1, L, a => match nx L with
    | none => one U P O any n L a
    | some M => fo U P O any n j M (one U P O any n L a)
theorem upB_some {a : Acc} {y : S7} {L : List Nat} : (upB a y L).isSome = true := by
  unfold upB
  cases a with
  | none => rfl
  | some q =>
    dsimp only
    split <;> rfl
theorem fo_some {U P : Nat → Int} {O : Nat → Bool} {any : Bool} {n : Nat} : ∀ (j : Nat) (L : List Nat) (a : Acc), a.isSome = true → (fo U P O any n j L a).isSome = true
  | 0, L, a, h => h
  | j + 1, L, a, h => by
    have h2 : (one U P O any n L a).isSome = true := by
      unfold one
      split
      · exact upB_some
      · exact h
    unfold fo
    cases nx L with
    | none => exact h2
    | some M => exact fo_some j M _ h2
theorem fo_hits {U P : Nat → Int} {O : Nat → Bool} {any : Bool} {n f : Nat} (hf : any = false ∨ O f = false) : ∀ (j : Nat) (L : List Nat) (a : Acc), hits f j L = true → (fo U P O any n j L a).isSome = true
  | 0, L, a, h => by cases h
  | j + 1, L, a, h => by
    unfold hits at h
    unfold fo
    by_cases c : gt L 0 = f
    · have h2 : (one U P O any n L a).isSome = true := by
        unfold one
        rw [if_pos (by rw [c]; exact hf)]
        exact upB_some
      cases nx L with
      | none => exact h2
      | some M => exact fo_some j M _ h2
    · have e : (gt L 0 == f) = false := by simpa using c
      rw [e, Bool.false_or] at h
      cases hn : nx L with
      | none => rw [hn] at h; cases h
      | some M =>
        rw [hn] at h
        exact fo_hits hf j M _ h
theorem fo_best {U P : Nat → Int} {O : Nat → Bool} {any : Bool} {n : Nat} (h1 : 1 ≤ n) (h7 : n ≤ 7) (hany : any = true → ∃ f, f < n ∧ O f = false) : (fo U P O any n 5040 (List.range n) none).isSome = true := by
  cases any with
  | false => exact fo_hits (f := 0) (Or.inl rfl) 5040 _ _ (hits_n (by omega) h7)
  | true =>
    obtain ⟨f, hf, ho⟩ := hany rfl
    exact fo_hits (Or.inr ho) 5040 _ _ (hits_n hf h7)
theorem BT_tgo {U P : Nat → Int} {O : Nat → Bool} {L : List Nat} {n : Nat} (hL : OK n L) (hU : ∀ k, k < n → 0 ≤ U k ∧ U k ≤ 4095) (hP : ∀ k, k < n → -99 ≤ P k ∧ P k ≤ 99) : ∀ (j i : Nat) (x : S7), BT i x → BT (i + j) (tgo U P O L j i x)
  | 0, i, x, h => h
  | j + 1, i, x, h => by
    have k := hL.2 i
    unfold tgo
    rw [show i + (j + 1) = i + 1 + j by omega]
    exact BT_tgo hL hU hP j (i + 1) _ (BT_tst h (hU _ k).1 (hU _ k).2 (hP _ k).1 (hP _ k).2)
