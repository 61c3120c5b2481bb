/-! READING, PURE: laws of the reader -/
section PRS3
variable {t : Nat → Int} {N k : Nat}
def OKt (t : Nat → Int) (N k : Nat) : Prop := ∀ j, j < k → hft t N j = 0
theorem OKt_s (o : OKt t N (k + 1)) : OKt t N k ∧ hft t N k = 0 := ⟨fun j hj => o j (by omega), o k (by omega)⟩
theorem OKt_m {j : Nat} (o : OKt t N k) (h : j ≤ k) : OKt t N j := fun i hi => o i (by omega)
theorem hd0_mem {l : List Nat} (h : l ≠ []) : hd0 l ∈ l := by
  cases l with
  | nil => exact absurd rfl h
  | cons a l => exact List.mem_cons_self
theorem xo_m : ∀ k, ∀ x, x ∈ xo t N k → x < k ∧ (tK t N x = 5 ∨ tK t N x = 7 ∨ tK t N x = 9)
  | 0 => fun x hx => absurd hx (List.not_mem_nil)
  | k + 1 => by
    intro x hx
    rw [xo_s] at hx
    have ih := xo_m k x
    split at hx
    · rcases List.mem_cons.mp hx with e | e
      · subst e; exact ⟨by omega, by omega⟩
      · have := ih e; exact ⟨by omega, this.2⟩
    split at hx
    · rcases List.mem_cons.mp hx with e | e
      · subst e; exact ⟨by omega, by omega⟩
      · have := ih (List.mem_of_mem_tail e); exact ⟨by omega, this.2⟩
    split at hx
    · have := ih (List.mem_of_mem_tail hx); exact ⟨by omega, this.2⟩
    · have := ih hx; exact ⟨by omega, this.2⟩
theorem xo_g {j : Nat} (h : j < (xo t N k).length) : (xo t N k).getD j 0 < k ∧ (tK t N ((xo t N k).getD j 0) = 5 ∨ tK t N ((xo t N k).getD j 0) = 7 ∨ tK t N ((xo t N k).getD j 0) = 9) := by
  refine xo_m k _ ?_
  rw [List.getD_eq_getElem?_getD, List.getElem?_eq_getElem h, Option.getD_some]
  exact List.getElem_mem h
/-- all that may come -/
theorem fwl_inv (h : fwl t N k ≠ 0) :
    (xe t N k = 1 ∧ ((tK t N k = 4 ∧ fwl t N k = 2) ∨ (tK t N k = 5 ∧ fwl t N k = 7) ∨ (tK t N k = 7 ∧ fwl t N k = 8) ∨ (tK t N k = 9 ∧ fwl t N k = 1 ∧ xo t N k ≠ [] ∧ tK t N (hd0 (xo t N k)) = 7) ∨ (tK t N k = 6 ∧ fwl t N k = 1 ∧ xo t N k ≠ [])))
    ∨ (xe t N k = 2 ∧ tK t N k = 2 ∧ fwl t N k = 3)
    ∨ (xe t N k = 3 ∧ tK t N k = 16 ∧ fwl t N k = 4)
    ∨ (xe t N k = 4 ∧ 10 ≤ tK t N k ∧ tK t N k ≤ 14 ∧ fwl t N k = 5)
    ∨ ((xe t N k = 4 ∨ xe t N k = 5) ∧ (tK t N k = 2 ∨ tK t N k = 3) ∧ fwl t N k = 6)
    ∨ (xe t N k = 6 ∧ (tK t N k = 19 ∨ tK t N k = 20) ∧ fwl t N k = 4)
    ∨ (xe t N k = 6 ∧ tK t N k = 15 ∧ fwl t N k = 1)
    ∨ (xe t N k = 7 ∧ tK t N k = 3 ∧ fwl t N k = 1)
    ∨ (xe t N k = 8 ∧ tK t N k = 8 ∧ fwl t N k = 9)
    ∨ ((xe t N k = 8 ∨ xe t N k = 9) ∧ (tK t N k = 2 ∨ tK t N k = 3) ∧ fwl t N k = 10)
    ∨ (xe t N k = 10 ∧ (tK t N k = 17 ∨ tK t N k = 18) ∧ fwl t N k = 11)
    ∨ (xe t N k = 11 ∧ (tK t N k = 2 ∨ tK t N k = 3) ∧ fwl t N k = 1) := by
  unfold fwl at *
  generalize xe t N k = e at *
  generalize tK t N k = q at *
  unfold fol at *
  by_cases c1 : e = 1
  · subst c1
    rw [if_pos rfl] at h ⊢
    refine Or.inl ⟨rfl, ?_⟩
    by_cases d1 : q = 4
    · subst d1; exact Or.inl ⟨rfl, rfl⟩
    rw [if_neg d1] at h ⊢
    by_cases d2 : q = 5
    · subst d2; exact Or.inr (Or.inl ⟨rfl, rfl⟩)
    rw [if_neg d2] at h ⊢
    by_cases d3 : q = 7
    · subst d3; exact Or.inr (Or.inr (Or.inl ⟨rfl, rfl⟩))
    rw [if_neg d3] at h ⊢
    by_cases d4 : q = 9
    · rw [if_pos d4] at h ⊢
      refine Or.inr (Or.inr (Or.inr (Or.inl ?_)))
      split at h
      · next c =>
        rw [if_pos c]
        have := of_decide_eq_true c
        exact ⟨d4, rfl, this.1, this.2⟩
      · exact absurd rfl h
    rw [if_neg d4] at h ⊢
    by_cases d5 : q = 6
    · rw [if_pos d5] at h ⊢
      refine Or.inr (Or.inr (Or.inr (Or.inr ?_)))
      split at h
      · next c =>
        rw [if_pos c]
        exact ⟨d5, rfl, of_decide_eq_true c⟩
      · exact absurd rfl h
    · rw [if_neg d5] at h; exact absurd rfl h
  rw [if_neg c1] at h ⊢
  by_cases c2 : e = 2
  · rw [if_pos c2] at h ⊢
    split at h
    · next c => rw [if_pos c]; exact Or.inr (Or.inl ⟨c2, c, rfl⟩)
    · exact absurd rfl h
  rw [if_neg c2] at h ⊢
  by_cases c3 : e = 3
  · rw [if_pos c3] at h ⊢
    split at h
    · next c => rw [if_pos c]; exact Or.inr (Or.inr (Or.inl ⟨c3, c, rfl⟩))
    · exact absurd rfl h
  rw [if_neg c3] at h ⊢
  by_cases c4 : e = 4
  · rw [if_pos c4] at h ⊢
    split at h
    · next c => rw [if_pos c]; exact Or.inr (Or.inr (Or.inr (Or.inl ⟨c4, c.1, c.2, rfl⟩)))
    · next c =>
      split at h
      · next c' => rw [if_neg c, if_pos c']; exact Or.inr (Or.inr (Or.inr (Or.inr (Or.inl ⟨Or.inl c4, c', rfl⟩))))
      · exact absurd rfl h
  rw [if_neg c4] at h ⊢
  by_cases c5 : e = 5
  · rw [if_pos c5] at h ⊢
    split at h
    · next c' => rw [if_pos c']; exact Or.inr (Or.inr (Or.inr (Or.inr (Or.inl ⟨Or.inr c5, c', rfl⟩))))
    · exact absurd rfl h
  rw [if_neg c5] at h ⊢
  by_cases c6 : e = 6
  · rw [if_pos c6] at h ⊢
    split at h
    · next c => rw [if_pos c]; exact Or.inr (Or.inr (Or.inr (Or.inr (Or.inr (Or.inl ⟨c6, c, rfl⟩)))))
    · next c =>
      split at h
      · next c' => rw [if_neg c, if_pos c']; exact Or.inr (Or.inr (Or.inr (Or.inr (Or.inr (Or.inr (Or.inl ⟨c6, c', rfl⟩))))))
      · exact absurd rfl h
  rw [if_neg c6] at h ⊢
  by_cases c7 : e = 7
  · rw [if_pos c7] at h ⊢
    split at h
    · next c => rw [if_pos c]; exact Or.inr (Or.inr (Or.inr (Or.inr (Or.inr (Or.inr (Or.inr (Or.inl ⟨c7, c, rfl⟩)))))))
    · exact absurd rfl h
  rw [if_neg c7] at h ⊢
  by_cases c8 : e = 8
  · rw [if_pos c8] at h ⊢
    split at h
    · next c => rw [if_pos c]; exact Or.inr (Or.inr (Or.inr (Or.inr (Or.inr (Or.inr (Or.inr (Or.inr (Or.inl ⟨c8, c, rfl⟩))))))))
    · next c =>
      split at h
      · next c' => rw [if_neg c, if_pos c']; exact Or.inr (Or.inr (Or.inr (Or.inr (Or.inr (Or.inr (Or.inr (Or.inr (Or.inr (Or.inl ⟨Or.inl c8, c', rfl⟩)))))))))
      · exact absurd rfl h
  rw [if_neg c8] at h ⊢
  by_cases c9 : e = 9
  · rw [if_pos c9] at h ⊢
    split at h
    · next c' => rw [if_pos c']; exact Or.inr (Or.inr (Or.inr (Or.inr (Or.inr (Or.inr (Or.inr (Or.inr (Or.inr (Or.inl ⟨Or.inr c9, c', rfl⟩)))))))))
    · exact absurd rfl h
  rw [if_neg c9] at h ⊢
  by_cases c10 : e = 10
  · rw [if_pos c10] at h ⊢
    split at h
    · next c' => rw [if_pos c']; exact Or.inr (Or.inr (Or.inr (Or.inr (Or.inr (Or.inr (Or.inr (Or.inr (Or.inr (Or.inr (Or.inl ⟨c10, c', rfl⟩))))))))))
    · exact absurd rfl h
  rw [if_neg c10] at h ⊢
  by_cases c11 : e = 11
  · rw [if_pos c11] at h ⊢
    split at h
    · next c' => rw [if_pos c']; exact Or.inr (Or.inr (Or.inr (Or.inr (Or.inr (Or.inr (Or.inr (Or.inr (Or.inr (Or.inr (Or.inr ⟨c11, c', rfl⟩))))))))))
    · exact absurd rfl h
  rw [if_neg c11] at h
  exact absurd rfl h
theorem fwl_r : fwl t N k ≤ 11 := by
  by_cases c : fwl t N k = 0
  · omega
  · have fi := fwl_inv c
    omega
theorem hft_end (h : tK t N k = 1) : hft t N k = 1 := by
  have e : fwl t N k = 0 := by
    refine Classical.byContradiction (fun c => ?_)
    have fi := fwl_inv c
    omega
  unfold hft
  rw [if_pos e]
theorem xo_len : ∀ k, OKt t N k → (xo t N k).length ≤ 6
  | 0, _ => Nat.zero_le _
  | k + 1, o => by
    obtain ⟨o1, o2⟩ := OKt_s o
    have ih := xo_len k o1
    obtain ⟨f1, f2, f3, f4⟩ := hft_0 o2
    have fi := fwl_inv f1
    rw [xo_s]
    split
    · next c => rw [List.length_cons]; have := f4 c; omega
    split
    · next c =>
      have ne : xo t N k ≠ [] := by
        rcases fi with ⟨_, fi⟩ | fi
        · rcases fi with fi | fi | fi | fi | fi
          · omega
          · omega
          · omega
          · exact fi.2.2.1
          · omega
        · omega
      have := List.length_pos_iff.mpr ne
      rw [List.length_cons, List.length_tail]
      omega
    split
    · rw [List.length_tail]; omega
    · exact ih
theorem xe_1 (o : OKt t N k) : 1 ≤ xe t N k ∧ xe t N k ≤ 11 := by
  cases k with
  | zero => exact ⟨Nat.le_refl _, by show 1 ≤ 11; decide⟩
  | succ k =>
    have f1 := (hft_0 (OKt_s o).2).1
    have := fwl_r (t := t) (N := N) (k := k)
    rw [xe_s]
    omega
theorem la_le : ∀ k, la t N k ≤ k
  | 0 => Nat.le_refl _
  | k + 1 => by
    have := la_le k
    show (if tK t N k = 4 then k else la t N k) ≤ _
    split <;> omega
/-- within a let -/
theorem la_in : ∀ k, OKt t N k → 2 ≤ xe t N k → xe t N k ≤ 6 → tK t N (la t N k) = 4 ∧ la t N k < k ∧ xe t N (la t N k) = 1 ∧ (3 ≤ xe t N k → la t N k + 1 < k ∧ tK t N (la t N k + 1) = 2) ∧ (4 ≤ xe t N k → la t N k + 2 < k)
  | 0, _, h2, _ => by
    have : xe t N 0 = 1 := rfl
    omega
  | k + 1, o, h2, h6 => by
    obtain ⟨o1, o2⟩ := OKt_s o
    have ih := la_in k o1
    have fi := fwl_inv (hft_0 o2).1
    rw [xe_s] at h2 h6 ⊢
    show tK t N (if tK t N k = 4 then k else la t N k) = 4 ∧ (if tK t N k = 4 then k else la t N k) < k + 1 ∧ xe t N (if tK t N k = 4 then k else la t N k) = 1 ∧ (3 ≤ fwl t N k → (if tK t N k = 4 then k else la t N k) + 1 < k + 1 ∧ tK t N ((if tK t N k = 4 then k else la t N k) + 1) = 2) ∧ (4 ≤ fwl t N k → (if tK t N k = 4 then k else la t N k) + 2 < k + 1)
    by_cases c : tK t N k = 4
    · rw [if_pos c]
      have e2 : fwl t N k = 2 ∧ xe t N k = 1 := by omega
      exact ⟨c, by omega, e2.2, by omega, by omega⟩
    · rw [if_neg c]
      have e3 : 2 ≤ xe t N k ∧ xe t N k ≤ 6 := by omega
      obtain ⟨a1, a2, a3, a4, a5⟩ := ih e3.1 e3.2
      refine ⟨a1, by omega, a3, fun q => ?_, fun q => ?_⟩
      · by_cases q3 : 3 ≤ xe t N k
        · have := a4 q3; exact ⟨by omega, this.2⟩
        · have q2 : tK t N k = 2 ∧ xe t N k = 2 := by omega
          have ek : la t N k + 1 = k := by
            cases k with
            | zero => have : xe t N 0 = 1 := rfl; omega
            | succ j =>
              have fj := fwl_inv (hft_0 (OKt_s o1).2).1
              have e4 : tK t N j = 4 := by rw [xe_s] at q2; omega
              show (if tK t N j = 4 then j else la t N j) + 1 = j + 1
              rw [if_pos e4]
          rw [ek]
          exact ⟨by omega, q2.1⟩
      · by_cases q3 : 4 ≤ xe t N k
        · have := a5 q3; omega
        · have q2 : 3 ≤ xe t N k := by omega
          have := a4 q2
          omega
/-- behind let a name is told, behind repeat a number -/
theorem xe_2 (o : OKt t N (k + 1)) : (xe t N (k + 1) = 2 ↔ tK t N k = 4) ∧ (xe t N (k + 1) = 7 ↔ tK t N k = 5) := by
  have fi := fwl_inv (hft_0 (OKt_s o).2).1
  rw [xe_s]
  omega
theorem nix_at : ∀ (l : List Nat) (i b : Nat), i < l.length → (∀ j, j < i → w27 t N (l.getD j 0) ≠ w27 t N b) → w27 t N (l.getD i 0) = w27 t N b → nix t N l b = i
  | [], i, b, h, _, _ => absurd h (Nat.not_lt_zero _)
  | a :: l, 0, b, _, _, e => by
    unfold nix
    rw [List.findIdx_cons]
    have : (w27 t N a == w27 t N b) = true := beq_iff_eq.mpr e
    rw [this]
    rfl
  | a :: l, i + 1, b, h, n, e => by
    have ih := nix_at l i b (by rw [List.length_cons] at h; omega) (fun j hj => n (j + 1) (by omega)) e
    unfold nix at *
    rw [List.findIdx_cons]
    have : (w27 t N a == w27 t N b) = false := by
      have := n 0 (by omega)
      exact beq_eq_false_iff_ne.mpr this
    rw [this]
    show List.findIdx _ l + 1 = _
    rw [ih]
theorem nix_none : ∀ (l : List Nat) (b : Nat), (∀ j, j < l.length → w27 t N (l.getD j 0) ≠ w27 t N b) → nix t N l b = l.length
  | [], b, _ => rfl
  | a :: l, b, n => by
    have ih := nix_none l b (fun j hj => n (j + 1) (by rw [List.length_cons]; omega))
    unfold nix at *
    rw [List.findIdx_cons]
    have : (w27 t N a == w27 t N b) = false := by
      have := n 0 (by rw [List.length_cons]; omega)
      exact beq_eq_false_iff_ne.mpr this
    rw [this]
    show List.findIdx _ l + 1 = _
    rw [ih]
    rfl
theorem nms_s : nms t N (k + 1) = (if tK t N k = 2 ∧ nnum t N k = (nms t N k).length then nms t N k ++ [tS t N k] else nms t N k) := rfl
theorem nms_len : ∀ k, OKt t N k → (nms t N k).length ≤ 12
  | 0, _ => Nat.zero_le _
  | k + 1, o => by
    obtain ⟨o1, o2⟩ := OKt_s o
    have ih := nms_len k o1
    have f := (hft_0 o2).2.2.1
    rw [nms_s]
    split
    · next c => rw [List.length_append, List.length_singleton]; have := f c.1; omega
    · exact ih
end PRS3
