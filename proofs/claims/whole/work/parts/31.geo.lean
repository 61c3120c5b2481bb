/-! GEOMETRY, PURE -/
def P (f n : Nat) : Nat := lgU n / f
def tp (f : Nat) (t : Bool) (n : Nat) : Int := if t then 4096 - (P f n : Int) else (P f n : Int)
def ct (f : Nat) (t : Bool) (fl : Nat → Int) (n : Nat) : Int := tp f t n + fl ((tp f t n).toNat / 256)
theorem P_mono {f i j : Nat} (h : i ≤ j) : P f i ≤ P f j := Nat.div_le_div_right (lgU_mono h)
theorem P_top {f : Nat} (h1 : 1 ≤ f) : P f (900 * f) = 4096 := by
  unfold P
  rw [lgU_900]
  exact Nat.mul_div_cancel _ h1
theorem P_0 {f : Nat} : P f 0 = 0 := by
  unfold P
  rw [lgU_0]
  exact Nat.zero_div _
theorem P_le {f n : Nat} (h1 : 1 ≤ f) (hn : n ≤ 900 * f) : P f n ≤ 4096 := by
  rw [← P_top h1]
  exact P_mono hn
theorem P_step {f n : Nat} (h1 : 1 ≤ f) (h3 : f ≤ 3) : P f (n + 1) ≤ P f n + 18 := by
  unfold P
  have h := (lgU_step n).2
  rcases (show f = 1 ∨ f = 2 ∨ f = 3 by omega) with e | e | e <;> subst e <;> omega
theorem tp_rg {f n : Nat} {t : Bool} (h1 : 1 ≤ f) (hn : n ≤ 900 * f) : 0 ≤ tp f t n ∧ tp f t n ≤ 4096 := by
  have := P_le h1 hn
  unfold tp
  cases t <;> simp <;> omega
theorem tp_d {f n : Nat} {t : Bool} {x : Int} : tp f t n - x = (P f n : Int) - (if t then 4096 - x else x) ∨ tp f t n - x = (if t then 4096 - x else x) - (P f n : Int) := by
  unfold tp
  cases t
  · left; simp
  · right; simp; omega
/-- flaws of a scale: twenty at most, and the end's are the last stretch's -/
def FL (fl : Nat → Int) : Prop := (∀ j, j ≤ 16 → -20 ≤ fl j ∧ fl j ≤ 20) ∧ fl 16 = fl 15
theorem ct_rg {f n : Nat} {t : Bool} {fl : Nat → Int} (hf : FL fl) (h1 : 1 ≤ f) (hn : n ≤ 900 * f) : -20 ≤ ct f t fl n - tp f t n ∧ ct f t fl n - tp f t n ≤ 20 := by
  have := tp_rg (t := t) h1 hn
  have := hf.1 ((tp f t n).toNat / 256) (by omega)
  unfold ct
  omega
/-- a place has a mark within nine -/
theorem P_near {f : Nat} (h1 : 1 ≤ f) (h3 : f ≤ 3) {x : Int} (hx0 : 0 ≤ x) (hx1 : x ≤ 4096) : ∃ n, n ≤ 900 * f ∧ -9 ≤ (P f n : Int) - x ∧ (P f n : Int) - x ≤ 9 := by
  have go : ∀ k, k ≤ 900 * f → (P f k : Int) - x ≤ 9 → (∃ n, n ≤ 900 * f ∧ -9 ≤ (P f n : Int) - x ∧ (P f n : Int) - x ≤ 9) ∨ (P f k : Int) - x < -9 := by
    intro k hk h
    by_cases h2 : -9 ≤ (P f k : Int) - x
    · exact Or.inl ⟨k, hk, h2, h⟩
    · right; omega
  have all : ∀ k, k ≤ 900 * f → (∃ n, n ≤ 900 * f ∧ -9 ≤ (P f n : Int) - x ∧ (P f n : Int) - x ≤ 9) ∨ (P f k : Int) - x < -9 := by
    intro k
    induction k with
    | zero =>
      intro hk
      refine go 0 hk ?_
      rw [P_0]; omega
    | succ k ih =>
      intro hk
      rcases ih (by omega) with h | h
      · exact Or.inl h
      · refine go (k + 1) hk ?_
        have := P_step (n := k) h1 h3
        omega
  rcases all (900 * f) (Nat.le_refl _) with h | h
  · exact h
  · rw [P_top h1] at h; omega
/-! WHAT IS SEEN -/
def SEEN (C : Nat → Int) (N : Nat) (q : Int) (a l u : Nat) : Prop := a ≤ N ∧ (∀ n, n < a → C a < C n) ∧ (∀ n, n ≤ N → C a ≤ C n) ∧ ((q < C a ∧ l = a ∧ u = a) ∨ (C a ≤ q ∧ l ≤ N ∧ u ≤ N ∧ C l ≤ q ∧ (∀ n, n < l → q < C n) ∧ C u ≤ q ∧ ∀ n, u < n → n ≤ N → q < C n))
theorem SEEN_un {C : Nat → Int} {N : Nat} {q : Int} {a l u a' l' u' : Nat} (h : SEEN C N q a l u) (h' : SEEN C N q a' l' u') : a = a' ∧ l = l' ∧ u = u' := by
  obtain ⟨h1, h2, h3, h4⟩ := h
  obtain ⟨g1, g2, g3, g4⟩ := h'
  have ea : a = a' := by
    have x1 := h3 a' g1
    have x2 := g3 a h1
    rcases Nat.lt_trichotomy a a' with c | c | c
    · have := g2 a c; omega
    · exact c
    · have := h2 a' c; omega
  subst ea
  refine ⟨rfl, ?_⟩
  rcases h4 with ⟨k1, k2, k3⟩ | ⟨k1, k2, k3, k4, k5, k6, k7⟩
  · rcases g4 with ⟨j1, j2, j3⟩ | ⟨j1, j2, j3, j4, j5, j6, j7⟩
    · omega
    · omega
  · rcases g4 with ⟨j1, j2, j3⟩ | ⟨j1, j2, j3, j4, j5, j6, j7⟩
    · omega
    · constructor
      · rcases Nat.lt_trichotomy l l' with c | c | c
        · have := j5 l c; omega
        · exact c
        · have := k5 l' c; omega
      · rcases Nat.lt_trichotomy u u' with c | c | c
        · have := k7 u' c j3; omega
        · exact c
        · have := j7 u c k3; omega
theorem SEEN_ord {C : Nat → Int} {N : Nat} {q : Int} {a l u : Nat} (h : SEEN C N q a l u) : l ≤ a ∧ a ≤ u ∧ u ≤ N := by
  obtain ⟨h1, h2, h3, h4⟩ := h
  rcases h4 with ⟨k1, k2, k3⟩ | ⟨k1, k2, k3, k4, k5, k6, k7⟩
  · omega
  · refine ⟨?_, ?_, k3⟩
    · rcases Nat.lt_or_ge a l with c | c
      · have := k5 a c; omega
      · exact c
    · rcases Nat.lt_or_ge u a with c | c
      · have := k7 a c h1; omega
      · exact c
noncomputable def see3 (C : Nat → Int) (N : Nat) (q : Int) : Nat × Nat × Nat := Classical.epsilon fun p => SEEN C N q p.1 p.2.1 p.2.2
theorem see3_eq {C : Nat → Int} {N : Nat} {q : Int} {a l u : Nat} (h : SEEN C N q a l u) : see3 C N q = (a, l, u) := by
  have h2 : SEEN C N q (see3 C N q).1 (see3 C N q).2.1 (see3 C N q).2.2 := Classical.epsilon_spec (p := fun p : Nat × Nat × Nat => SEEN C N q p.1 p.2.1 p.2.2) ⟨(a, l, u), h⟩
  obtain ⟨e1, e2, e3⟩ := SEEN_un h h2
  rw [e1, e2, e3]
/-- a scan of the marks from r under way at k -/
def PS (C : Nat → Int) (q : Int) (r k : Nat) (g : Int) (s : Nat) (lo hi : Int) : Prop := ((k = r ∧ g = 1000000) ∨ (r ≤ s ∧ s < k ∧ g = C s ∧ (∀ n, r ≤ n → n < s → C s < C n) ∧ (∀ n, r ≤ n → n < k → C s ≤ C n))) ∧ ((lo = -1 ∧ ∀ n, r ≤ n → n < k → q < C n) ∨ (∃ l u : Nat, lo = l ∧ hi = u ∧ r ≤ l ∧ l < k ∧ r ≤ u ∧ u < k ∧ C l ≤ q ∧ C u ≤ q ∧ (∀ n, r ≤ n → n < l → q < C n) ∧ (∀ n, u < n → n < k → q < C n)))
theorem PS_0 {C : Nat → Int} {q : Int} {r s : Nat} {hi : Int} : PS C q r r 1000000 s (-1) hi := ⟨Or.inl ⟨rfl, rfl⟩, Or.inl ⟨rfl, fun n h1 h2 => by omega⟩⟩
theorem PS_near {C : Nat → Int} {q : Int} {r k s s' : Nat} {g g' lo hi : Int} (h : PS C q r k g s lo hi) (hr : r ≤ k) (hC : C k < 1000000) (e : (C k < g ∧ g' = C k ∧ s' = k) ∨ (g ≤ C k ∧ g' = g ∧ s' = s)) : ((k + 1 = r ∧ g' = 1000000) ∨ (r ≤ s' ∧ s' < k + 1 ∧ g' = C s' ∧ (∀ n, r ≤ n → n < s' → C s' < C n) ∧ (∀ n, r ≤ n → n < k + 1 → C s' ≤ C n))) := by
  right
  rcases e with ⟨e1, e2, e3⟩ | ⟨e1, e2, e3⟩
  · subst e2 e3
    refine ⟨hr, Nat.lt_succ_self _, rfl, fun n h1 h2 => ?_, fun n h1 h2 => ?_⟩
    · rcases h.1 with ⟨a1, a2⟩ | ⟨a1, a2, a3, a4, a5⟩
      · omega
      · have := a5 n h1 h2; omega
    · by_cases c : n = s'
      · subst c; exact Int.le_refl _
      · rcases h.1 with ⟨a1, a2⟩ | ⟨a1, a2, a3, a4, a5⟩
        · omega
        · have := a5 n h1 (by omega); omega
  · subst e2 e3
    rcases h.1 with ⟨a1, a2⟩ | ⟨a1, a2, a3, a4, a5⟩
    · omega
    · refine ⟨a1, by omega, a3, a4, fun n h1 h2 => ?_⟩
      by_cases c : n = k
      · subst c; omega
      · exact a5 n h1 (by omega)
theorem PS_far {C : Nat → Int} {q : Int} {r k s : Nat} {g lo hi lo' hi' : Int} (h : PS C q r k g s lo hi) (hr : r ≤ k) (e : (q < C k ∧ lo' = lo ∧ hi' = hi) ∨ (C k ≤ q ∧ lo = -1 ∧ lo' = k ∧ hi' = k) ∨ (C k ≤ q ∧ lo ≠ -1 ∧ lo' = lo ∧ hi' = k)) : ((lo' = -1 ∧ ∀ n, r ≤ n → n < k + 1 → q < C n) ∨ (∃ l u : Nat, lo' = l ∧ hi' = u ∧ r ≤ l ∧ l < k + 1 ∧ r ≤ u ∧ u < k + 1 ∧ C l ≤ q ∧ C u ≤ q ∧ (∀ n, r ≤ n → n < l → q < C n) ∧ (∀ n, u < n → n < k + 1 → q < C n))) := by
  rcases e with ⟨e1, e2, e3⟩ | ⟨e1, e2, e3, e4⟩ | ⟨e1, e2, e3, e4⟩
  · subst e2 e3
    rcases h.2 with ⟨a1, a2⟩ | ⟨l, u, a1, a2, a3, a4, a5, a6, a7, a8, a9, a10⟩
    · refine Or.inl ⟨a1, fun n h1 h2 => ?_⟩
      by_cases c : n = k
      · subst c; exact e1
      · exact a2 n h1 (by omega)
    · refine Or.inr ⟨l, u, a1, a2, a3, by omega, a5, by omega, a7, a8, a9, fun n h1 h2 => ?_⟩
      by_cases c : n = k
      · subst c; exact e1
      · exact a10 n h1 (by omega)
  · rcases h.2 with ⟨a1, a2⟩ | ⟨l, u, a1, a2, a3, a4, a5, a6, a7, a8, a9, a10⟩
    · exact Or.inr ⟨k, k, e3, e4, hr, by omega, hr, by omega, e1, e1, fun n h1 h2 => a2 n h1 h2, fun n h1 h2 => by omega⟩
    · omega
  · rcases h.2 with ⟨a1, a2⟩ | ⟨l, u, a1, a2, a3, a4, a5, a6, a7, a8, a9, a10⟩
    · exact absurd a1 e2
    · exact Or.inr ⟨l, k, e3.trans a1, e4, a3, by omega, hr, by omega, a7, e1, a9, fun n h1 h2 => by omega⟩
theorem PS_fin {C : Nat → Int} {q : Int} {r k s N : Nat} {g lo hi : Int} (h : PS C q r k g s lo hi) (hk : k ≤ N + 1) {n0 : Nat} (h1 : r ≤ n0) (h2 : n0 < k) (ho : ∀ n, n ≤ N → n < r ∨ k ≤ n → C n0 < C n ∧ q < C n) : (lo = -1 ∧ SEEN C N q s s s) ∨ ∃ l u : Nat, lo = l ∧ hi = u ∧ SEEN C N q s l u := by
  rcases h.1 with ⟨a1, a2⟩ | ⟨a1, a2, a3, a4, a5⟩
  · omega
  have hs0 := a5 n0 h1 h2
  have w1 : s ≤ N := by omega
  have w2 : ∀ n, n < s → C s < C n := fun n hn => by
    by_cases c : r ≤ n
    · exact a4 n c hn
    · have := (ho n (by omega) (by omega)).1; omega
  have w3 : ∀ n, n ≤ N → C s ≤ C n := fun n hn => by
    by_cases c : r ≤ n ∧ n < k
    · exact a5 n c.1 c.2
    · have := (ho n hn (by omega)).1; omega
  rcases h.2 with ⟨b1, b2⟩ | ⟨l, u, b1, b2, b3, b4, b5, b6, b7, b8, b9, b10⟩
  · exact Or.inl ⟨b1, w1, w2, w3, Or.inl ⟨b2 s a1 a2, rfl, rfl⟩⟩
  · refine Or.inr ⟨l, u, b1, b2, w1, w2, w3, Or.inr ⟨?_, by omega, by omega, b7, fun n hn => ?_, b8, fun n hn hn2 => ?_⟩⟩
    · have := a5 l b3 b4; omega
    · by_cases c : r ≤ n
      · exact b9 n c hn
      · exact (ho n (by omega) (by omega)).2
    · by_cases c : n < k
      · exact b10 n hn c
      · exact (ho n hn2 (by omega)).2
