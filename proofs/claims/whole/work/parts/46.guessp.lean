/-! GUESSES, PURE -/
def cnt (p : Nat → Bool) : Nat → Nat
  | 0 => 0
  | k + 1 => cnt p k + (if p k = true then 1 else 0)
def smm (p : Nat → Bool) : Nat → Nat
  | 0 => 0
  | k + 1 => smm p k + (if p k = true then k else 0)
theorem cnt_le (p : Nat → Bool) : ∀ k, cnt p k ≤ k
  | 0 => Nat.le_refl _
  | k + 1 => by
    have := cnt_le p k
    unfold cnt
    split <;> omega
theorem smm_le (p : Nat → Bool) : ∀ k, smm p k ≤ k * 80 ∨ 80 < k
  | 0 => Or.inl (Nat.le_refl _)
  | k + 1 => by
    rcases smm_le p k with h | h
    · by_cases c : k + 1 ≤ 80
      · left
        unfold smm
        split <;> omega
      · right; omega
    · right; omega
theorem cnt_cg {p q : Nat → Bool} : ∀ k, (∀ j, j < k → p j = q j) → cnt p k = cnt q k
  | 0, _ => rfl
  | k + 1, h => by
    unfold cnt
    rw [cnt_cg k (fun j hj => h j (by omega)), h k (by omega)]
theorem smm_cg {p q : Nat → Bool} : ∀ k, (∀ j, j < k → p j = q j) → smm p k = smm q k
  | 0, _ => rfl
  | k + 1, h => by
    unfold smm
    rw [smm_cg k (fun j hj => h j (by omega)), h k (by omega)]
theorem cnt_up {p q : Nat → Bool} {F : Nat} : ∀ k, F < k → (∀ j, j < k → j ≠ F → p j = q j) → cnt q k + (if p F = true then 1 else 0) = cnt p k + (if q F = true then 1 else 0) ∧ smm q k + (if p F = true then F else 0) = smm p k + (if q F = true then F else 0)
  | 0, h, _ => by omega
  | k + 1, hk, h => by
    unfold cnt smm
    by_cases c : F = k
    · subst c
      rw [cnt_cg F (fun j hj => h j (by omega) (by omega)), smm_cg F (fun j hj => h j (by omega) (by omega))]
      omega
    · have ih := cnt_up (p := p) (q := q) k (by omega) (fun j hj hn => h j (by omega) hn)
      rw [h k (by omega) (fun e => c e.symm)]
      omega
theorem cnt_0 {p : Nat → Bool} : ∀ k, cnt p k = 0 ↔ ∀ j, j < k → p j = false
  | 0 => ⟨fun _ j hj => by omega, fun _ => rfl⟩
  | k + 1 => by
    have ih := cnt_0 (p := p) k
    unfold cnt
    constructor
    · intro h j hj
      by_cases c : p k = true
      · rw [if_pos c] at h; omega
      · by_cases e : j = k
        · subst e; simpa using c
        · exact ih.mp (by omega) j (by omega)
    · intro h
      rw [if_neg (by rw [h k (by omega)]; decide), ih.mpr (fun j hj => h j (by omega))]
theorem smm_0 {p : Nat → Bool} : ∀ k, (∀ j, j < k → p j = false) → smm p k = 0
  | 0, _ => rfl
  | k + 1, h => by
    unfold smm
    rw [smm_0 k (fun j hj => h j (by omega)), if_neg (by rw [h k (by omega)]; decide)]
theorem cnt_1 {p : Nat → Bool} : ∀ k, cnt p k = 1 → ∃ a, a < k ∧ p a = true ∧ smm p k = a ∧ ∀ j, j < k → p j = true → j = a
  | 0, h => by cases h
  | k + 1, h => by
    unfold cnt at h
    by_cases c : p k = true
    · rw [if_pos c] at h
      have h0 := (cnt_0 k).mp (show cnt p k = 0 by omega)
      refine ⟨k, by omega, c, ?_, fun j hj hp => ?_⟩
      · unfold smm
        rw [smm_0 k h0, if_pos c]
        omega
      · by_cases e : j = k
        · exact e
        · rw [h0 j (by omega)] at hp; cases hp
    · rw [if_neg c] at h
      obtain ⟨a, a1, a2, a3, a4⟩ := cnt_1 k (by omega)
      refine ⟨a, by omega, a2, ?_, fun j hj hp => ?_⟩
      · unfold smm
        rw [if_neg c, a3]
        omega
      · by_cases e : j = k
        · subst e; exact absurd hp c
        · exact a4 j (by omega) hp
theorem cnt_one {p : Nat → Bool} {a : Nat} : ∀ k, a < k → p a = true → (∀ j, j < k → p j = true → j = a) → cnt p k = 1 ∧ smm p k = a := by
  intro k hk ha h
  have h0 : ∀ j, j < k → j ≠ a → (fun _ => false : Nat → Bool) j = p j := fun j hj hn => by
    cases e : p j
    · rfl
    · exact absurd (h j hj e) hn
  have u := cnt_up k hk h0
  have z1 : cnt (fun _ => false) k = 0 := (cnt_0 k).mpr (fun j _ => rfl)
  have z2 : smm (fun _ => false) k = 0 := smm_0 k (fun j _ => rfl)
  rw [z1, z2, if_pos ha, if_pos ha] at u
  simp at u
  exact u
theorem cnt_mono {p : Nat → Bool} {a b : Nat} (h : a ≤ b) : cnt p a ≤ cnt p b := by
  induction h with
  | refl => exact Nat.le_refl _
  | step _ ih => exact Nat.le_trans ih (by show _ ≤ cnt p _ + _; omega)
theorem cnt_lt {p : Nat → Bool} {a b : Nat} (h : a < b) (ha : p a = true) : cnt p a + 1 ≤ cnt p b := by
  have h1 := cnt_mono (p := p) (show a + 1 ≤ b from h)
  have h2 : cnt p (a + 1) = cnt p a + 1 := by show cnt p a + (if p a = true then 1 else 0) = _; rw [if_pos ha]
  omega
theorem cnt_at {p : Nat → Bool} : ∀ V i, i < cnt p V → ∃ v, v < V ∧ p v = true ∧ cnt p v = i
  | 0, i, h => by cases h
  | V + 1, i, h => by
    by_cases c : i < cnt p V
    · obtain ⟨v, v1, v2⟩ := cnt_at V i c
      exact ⟨v, by omega, v2⟩
    · unfold cnt at h
      by_cases e : p V = true
      · rw [if_pos e] at h
        exact ⟨V, by omega, e, by omega⟩
      · rw [if_neg e] at h; omega
/-- a guess by its number: the stretch (-1: none) and its flaw -/
def flw (i : Nat) : Int := if i < 20 then (i : Int) - 20 else (i : Int) - 19
def gs (v : Nat) : Int := if v = 0 then -1 else ((v - 1) / 40 : Nat)
def gd (v : Nat) : Int := if v = 0 then 0 else flw ((v - 1) % 40)
def abi (x : Int) : Int := max x (-x)
def evv (ap s1 s2 : Nat → Int) (g d : Int) (k : Nat) : Int := ap k + (if s1 k = g then d else 0) - (if s2 k = g then d else 0)
def knS (rl st : Nat → Int) (r : Int) (N i k : Nat) : Bool := decide (k < N ∧ rl k = r) && (List.range i).all fun j => !(decide (rl j = -1) && decide (st j = k))
def PV (ap s1 s2 : Nat → Int) (kn : Nat → Bool) (M : Int) (v k : Nat) : Bool := kn k && decide (M < abi (evv ap s1 s2 (gs v) (gd v) k))
def FT (ap s1 s2 : Nat → Int) (kn : Nat → Bool) (M : Int) (N : Nat) (but : Int) (v : Nat) : Bool := (List.range N).all fun k => !(PV ap s1 s2 kn M v k) || decide ((k : Int) = but)
section GPU
variable {ap s1 s2 rl st : Nat → Int} {kn : Nat → Bool} {M r but : Int} {N i k v : Nat}
theorem knS_s : knS rl st r N (i + 1) k = (knS rl st r N i k && !(decide (rl i = -1) && decide (st i = k))) := by
  unfold knS
  rw [List.range_succ, List.all_append, Bool.and_assoc]
  simp
theorem knS_N (h : knS rl st r N i k = true) : k < N ∧ rl k = r := by
  unfold knS at h
  rw [Bool.and_eq_true, decide_eq_true_eq] at h
  exact h.1
theorem FT_iff : FT ap s1 s2 kn M N but v = true ↔ ∀ k, k < N → PV ap s1 s2 kn M v k = true → (k : Int) = but := by
  unfold FT
  rw [List.all_eq_true]
  constructor
  · intro h k hk hp
    have := h k (List.mem_range.mpr hk)
    rw [hp] at this
    simpa using this
  · intro h k hk
    cases e : PV ap s1 s2 kn M v k
    · rfl
    · have := h k (List.mem_range.mp hk) e
      simp [this]
theorem PV_kn (h : PV ap s1 s2 kn M v k = true) : kn k = true := by
  unfold PV at h
  rw [Bool.and_eq_true] at h
  exact h.1
theorem FT_cnt (hk : ∀ k, kn k = true → k < N) (hN : N ≤ 80) : FT ap s1 s2 kn M N (-1) v = true ↔ cnt (PV ap s1 s2 kn M v) 80 = 0 := by
  rw [FT_iff, cnt_0]
  constructor
  · intro h j hj
    cases e : PV ap s1 s2 kn M v j
    · rfl
    · have := h j (hk j (PV_kn e)) e
      omega
  · intro h k hk2 hp
    rw [h k (by omega)] at hp
    cases hp
theorem FT_one (hk : ∀ k, kn k = true → k < N) (hN : N ≤ 80) {a : Nat} (ha : a < N) (hka : kn a = true) : FT ap s1 s2 kn M N a v = true ↔ FT ap s1 s2 kn M N (-1) v = true ∨ (cnt (PV ap s1 s2 kn M v) 80 = 1 ∧ smm (PV ap s1 s2 kn M v) 80 = a) := by
  constructor
  · intro h
    have h2 := FT_iff.mp h
    cases e : PV ap s1 s2 kn M v a
    · left
      refine FT_iff.mpr (fun k hk2 hp => ?_)
      have := h2 k hk2 hp
      have e2 : k = a := by omega
      subst e2
      rw [e] at hp
      cases hp
    · right
      refine cnt_one 80 (by omega) e (fun j hj hp => ?_)
      have := h2 j (hk j (PV_kn hp)) hp
      omega
  · intro h
    rcases h with h | ⟨h1, h2⟩
    · refine FT_iff.mpr (fun k hk2 hp => ?_)
      have := FT_iff.mp h k hk2 hp
      omega
    · obtain ⟨b, b1, b2, b3, b4⟩ := cnt_1 80 h1
      refine FT_iff.mpr (fun k hk2 hp => ?_)
      have := b4 k (by omega) hp
      omega
theorem FT_ex (hk : ∀ k, kn k = true → k < N) (hN : N ≤ 80) (h : FT ap s1 s2 kn M N (-1) v = true) : ¬ cnt (PV ap s1 s2 kn M v) 80 = 1 := by
  rw [(FT_cnt hk hN).mp h]
  decide
/-- how many fit without one: those that fit, and those that that one alone keeps from it -/
theorem FT_sum (hk : ∀ k, kn k = true → k < N) (hN : N ≤ 80) {a : Nat} (ha : a < N) (hka : kn a = true) : ∀ V, cnt (FT ap s1 s2 kn M N a) V = cnt (FT ap s1 s2 kn M N (-1)) V + cnt (fun v => decide (cnt (PV ap s1 s2 kn M v) 80 = 1) && decide (smm (PV ap s1 s2 kn M v) 80 = a)) V
  | 0 => rfl
  | V + 1 => by
    have ih := FT_sum hk hN ha hka V
    have h1 := FT_one (ap := ap) (s1 := s1) (s2 := s2) (M := M) (v := V) hk hN ha hka
    have h2 := FT_ex (ap := ap) (s1 := s1) (s2 := s2) (M := M) (v := V) hk hN
    unfold cnt
    rw [ih]
    by_cases c : FT ap s1 s2 kn M N (-1) V = true
    · have h3 := h2 c
      rw [if_pos c, if_pos (h1.mpr (Or.inl c)), if_neg (by simp [h3])]
      omega
    · by_cases c2 : cnt (PV ap s1 s2 kn M V) 80 = 1 ∧ smm (PV ap s1 s2 kn M V) 80 = a
      · rw [if_neg c, if_pos (h1.mpr (Or.inr c2)), if_pos (by simp [c2.1, c2.2])]
        omega
      · rw [if_neg c, if_neg (fun q => (h1.mp q).elim c c2), if_neg (by
          intro q
          rw [Bool.and_eq_true, decide_eq_true_eq, decide_eq_true_eq] at q
          exact c2 q)]
        omega
theorem gs_s {g i : Nat} (hi : i < 40) : gs (1 + 40 * g + i) = g ∧ gd (1 + 40 * g + i) = flw i := by
  unfold gs gd
  rw [if_neg (by omega), if_neg (by omega), show (1 + 40 * g + i - 1) / 40 = g by omega, show (1 + 40 * g + i - 1) % 40 = i by omega]
  exact ⟨rfl, rfl⟩
theorem flw_rg {i : Nat} (hi : i < 40) : -20 ≤ flw i ∧ flw i ≤ 20 ∧ flw i ≠ 0 := by
  unfold flw
  split <;> omega
theorem gd_rg (v : Nat) : -20 ≤ gd v ∧ gd v ≤ 20 := by
  unfold gd
  split
  · omega
  · have := flw_rg (i := (v - 1) % 40) (Nat.mod_lt _ (by decide))
    omega
end GPU
