/-! A RUN: the class reads its program, and takes its atoms -/
/-- the program p of the class -/
def PXs (h : JH) (p : Nat) (u : Nat → Int) (N K : Nat) : Prop := (p = 10 ∧ CWA h u N K) ∨ (p = 17 ∧ CWB h u N K)
/-- the values told so far, the class's -/
def CVs (h : JH) (q : Nat) (td : Nat → Bool) (vl : Nat → V6) : Prop := ∀ i, i < 12 → fI h (kvo q i) 0 = bi (td i) ∧ (td i = true → GV (vl i) ∧ VBo h (kvo q i) (vl i))
section CAT
variable {X : JX} {d : Nat} {Q : JQ} {h h1 : JH} {p q : Nat} {u : Nat → Int} {N K k : Nat} {td : Nat → Bool} {vl : Nat → V6}
theorem PX_fr {A : List Nat} {F : List (Nat × Nat)} (x : PXs h p u N K) (a : fr A F h h1) (k1 : offF (PFA ++ PFB) F = true) (k2 : offA (PAA ++ PAB) A = true) : PXs h1 p u N K := by
  unfold offF at k1
  unfold offA at k2
  rw [List.all_append, Bool.and_eq_true] at k1 k2
  rcases x with ⟨e, x⟩ | ⟨e, x⟩
  · exact Or.inl ⟨e, CW_frA x a k1.1 k2.1⟩
  · exact Or.inr ⟨e, CW_frB x a k1.2 k2.2⟩
theorem px_ob (g : G h) (x : PXs h p u N K) : obj h p 5 := by
  rcases x with ⟨e, x⟩ | ⟨e, x⟩ <;> subst e <;> simp only [gO g]
theorem px_n (x : PXs h p u N K) : fI h p 4 = nI K := by
  rcases x with ⟨e, x⟩ | ⟨e, x⟩ <;> subst e <;> exact x.1
theorem c_pkind (g : G h) (x : PXs h p u N K) (k4 : K ≤ 400) {a : Int32} (ea : a = nI k) (hk : k < K) (H : Q (some (.int (nI (tK u N k)))) h) : jex X (d + 2) 54 [.ref p, .int a] h Q := by
  subst ea
  rcases x with ⟨e, x⟩ | ⟨e, x⟩ <;> subst e
  · refine c_kindA g x.1 k4 (fun i hi e => ?_) (fun n => absurd rfl (n k hk))
    have e := (nI_eq (by omega) (by omega)).1 e
    subst e
    rw [(x.2.2 k hi).1]
    exact H
  · refine c_kindB g x.1 k4 (fun i hi e => ?_) (fun n => absurd rfl (n k hk))
    have e := (nI_eq (by omega) (by omega)).1 e
    subst e
    rw [(x.2.2 k hi).1]
    exact H
theorem c_pstart (g : G h) (x : PXs h p u N K) (k4 : K ≤ 400) {a : Int32} (ea : a = nI k) (hk : k < K) (H : Q (some (.int (nI (tS u N k)))) h) : jex X (d + 2) 63 [.ref p, .int a] h Q := by
  subst ea
  rcases x with ⟨e, x⟩ | ⟨e, x⟩ <;> subst e
  · refine c_startA g x.1 k4 (fun i hi e => ?_) (fun n => absurd rfl (n k hk))
    have e := (nI_eq (by omega) (by omega)).1 e
    subst e
    rw [(x.2.2 k hi).2.1]
    exact H
  · refine c_startB g x.1 k4 (fun i hi e => ?_) (fun n => absurd rfl (n k hk))
    have e := (nI_eq (by omega) (by omega)).1 e
    subst e
    rw [(x.2.2 k hi).2.1]
    exact H
theorem c_pfirst (g : G h) (x : PXs h p u N K) (k4 : K ≤ 400) {a : Int32} (ea : a = nI k) (hk : k < K) (H : ∀ y : Int32, (tK u N k = 2 → y = nI (nnum u N k)) → (tK u N k = 3 → y = nI (dgs u N (tS u N k))) → Q (some (.int y)) h) : jex X (d + 2) 62 [.ref p, .int a] h Q := by
  subst ea
  rcases x with ⟨e, x⟩ | ⟨e, x⟩ <;> subst e
  · refine c_firstA g x.1 k4 (fun i hi e => ?_) (fun n => absurd rfl (n k hk))
    have e := (nI_eq (by omega) (by omega)).1 e
    subst e
    obtain ⟨_, _, x3, x4, _⟩ := x.2.2 k hi
    exact H _ x3 (fun w => (x4 w).1)
  · refine c_firstB g x.1 k4 (fun i hi e => ?_) (fun n => absurd rfl (n k hk))
    have e := (nI_eq (by omega) (by omega)).1 e
    subst e
    obtain ⟨_, _, x3, x4, _⟩ := x.2.2 k hi
    exact H _ x3 (fun w => (x4 w).1)
theorem c_psecond (g : G h) (x : PXs h p u N K) (k4 : K ≤ 400) {a : Int32} (ea : a = nI k) (hk : k < K) (H : ∀ y : Int32, (tK u N k = 3 → y = if xe u N k = 7 then nI (tur u N (tS u N k)) else zI (dpl u N (tS u N k))) → (tK u N k = 6 → y = nI (hd0 (xo u N k))) → (cl u N K k ≠ 0 → tK u N k ≠ 4 → y = nI (cl u N K k)) → Q (some (.int y)) h) : jex X (d + 2) 65 [.ref p, .int a] h Q := by
  subst ea
  rcases x with ⟨e, x⟩ | ⟨e, x⟩ <;> subst e
  · refine c_secondA g x.1 k4 (fun i hi e => ?_) (fun n => absurd rfl (n k hk))
    have e := (nI_eq (by omega) (by omega)).1 e
    subst e
    obtain ⟨_, _, x3, x4, x5, x6⟩ := x.2.2 k hi
    exact H _ (fun w => (x4 w).2) x5 x6
  · refine c_secondB g x.1 k4 (fun i hi e => ?_) (fun n => absurd rfl (n k hk))
    have e := (nI_eq (by omega) (by omega)).1 e
    subst e
    obtain ⟨_, _, x3, x4, x5, x6⟩ := x.2.2 k hi
    exact H _ (fun w => (x4 w).2) x5 x6
/-- a name -/
theorem c_atomN (g : G h) (x : PXs h p u N K) (k4 : K ≤ 400) (o : OKt u N K) (e2 : fV h 24 2 = .ref p) (hq : q = 25 ∨ q = 26) (e4 : fV h 24 4 = .ref q) {a : Int32} (ea : a = nI k) (hk : k < K) (t2 : tK u N k = 2) {sp : Nat} (H : Q (some (.ref (kvo q (nnum u N k)))) h) : jex X (d + 3) 176 [.ref 24, .int a, .ref sp] h Q := by
  have h12 := (hft_0 (o k hk)).2.2.1 t2
  have ob : obj h 24 7 := by simp only [gO g]
  have ar := kv_arr g hq
  rw [jE_X7_atomAt]
  refine jT_X7_atomAt_0 ?_
  rw [jgf_ob ob rfl, e2, jrc_ob (px_ob g x)]
  refine c_pfirst g x k4 ea hk (fun y y2 _ => ?_)
  have y2 := y2 t2
  subst y2
  try dsimp only [jrI, jrN, jrA, jisr, jnul, jcat1]
  rw [jgf_ob ob rfl, e2, jrc_ob (px_ob g x)]
  refine c_pkind g x k4 ea hk ?_
  try dsimp only [jrI, jrN, jrA, jisr, jnul, jcat1]
  rw [t2]
  refine jif_n (by decide) (jif_n (nI_pos (by omega)) ?_)
  rw [jgf_ob ob rfl, e4, jaln_arR ar]
  refine jif_t (nI_lt (b := 12) h12 (by omega)) ?_
  rw [jgf_ob ob rfl, e4, jaA_ar ar]
  refine ⟨by rw [vp_inI, nI_toInt (by omega)]; omega, ?_⟩
  rw [nI_clamp (by omega), kv_at g hq h12, show va_rf (some (kvo q (nnum u N k))) = .ref (kvo q (nnum u N k)) from rfl]
  dsimp only [jnul]
  rw [jgf_ob ob rfl, e4, jaA_ar ar]
  refine ⟨by rw [vp_inI, nI_toInt (by omega)]; omega, ?_⟩
  rw [nI_clamp (by omega), kv_at g hq h12, show va_rf (some (kvo q (nnum u N k))) = .ref (kvo q (nnum u N k)) from rfl]
  exact H
/-- a number -/
theorem c_atomZ (g : G h) (x : PXs h p u N K) (k4 : K ≤ 400) (e2 : fV h 24 2 = .ref p) {a : Int32} (ea : a = nI k) (hk : k < K) (t3 : tK u N k = 3) (x7 : xe u N k ≠ 7) (nz : dgs u N (tS u N k) ≠ 0) {sp : Nat} (hs : obj h sp 10) (H : ∀ h1, fr [] (vO sp) h h1 → VBo h1 sp (numV ((dgs u N (tS u N k) : Nat) : Int) (dpl u N (tS u N k))) → fI h1 sp 0 = 1 → Q (some (.ref sp)) h1) : jex X (d + 3) 176 [.ref 24, .int a, .ref sp] h Q := by
  have nb := num_b t3 nz
  have ob : obj h 24 7 := by simp only [gO g]
  rw [jE_X7_atomAt]
  refine jT_X7_atomAt_0 ?_
  rw [jgf_ob ob rfl, e2, jrc_ob (px_ob g x)]
  refine c_pfirst g x k4 ea hk (fun y _ y3 => ?_)
  have y3 := y3 t3
  subst y3
  try dsimp only [jrI, jrN, jrA, jisr, jnul, jcat1]
  rw [jgf_ob ob rfl, e2, jrc_ob (px_ob g x)]
  refine c_pkind g x k4 ea hk ?_
  try dsimp only [jrI, jrN, jrA, jisr, jnul, jcat1]
  rw [t3]
  refine jif_t (by decide) ?_
  try dsimp only [jisr]
  rw [jgf_ob ob rfl, e2, jrc_ob (px_ob g x)]
  refine c_psecond g x k4 ea hk (fun y y3 _ _ => ?_)
  have y3 := y3 t3
  rw [if_neg x7] at y3
  subst y3
  try dsimp only [jrI, jrN, jrA, jisr, jnul, jcat1]
  rw [jrc_ob hs]
  refine c_setAlike (d := d + 1) hs (fun h1 k1 vb e0 => ?_)
  try dsimp only [jrI, jrN, jrA, jisr, jnul, jcat1]
  refine H h1 k1 ?_ e0
  have q1 := nI_toInt (show dgs u N (tS u N k) < 2147483648 by omega)
  have q2 := zt (z := dpl u N (tS u N k)) (by omega) (by omega)
  rw [q1, q2] at vb
  exact vb
/-- an atom: its value's object, told or not -/
theorem c_atomAt (g : G h) (x : PXs h p u N K) (k4 : K ≤ 400) (o : OKt u N K) (z0 : (sft u N K).1 = 0) (e2 : fV h 24 2 = .ref p) (hq : q = 25 ∨ q = 26) (e4 : fV h 24 4 = .ref q) (cv : CVs h q td vl) {a : Int32} (ea : a = nI k) (hk : k < K) (ia : isAt u N k = true) {sp : Nat} (hs : obj h sp 10) (H1 : ∀ v, ato u N td vl k = some v → GV v → ∀ h1 w, fr [] (vO sp) h h1 → VBo h1 w v → fI h1 w 0 = 1 → (w = sp ∨ ∃ c, c < 12 ∧ w = kvo q c) → Q (some (.ref w)) h1) (H0 : ato u N td vl k = none → ∀ w, 27 ≤ w → w ≤ 50 → obj h w 10 → fI h w 0 = 0 → Q (some (.ref w)) h) : jex X (d + 3) 176 [.ref 24, .int a, .ref sp] h Q := by
  have gv : ∀ c, c < 12 → td c = true → GV (vl c) := fun c hc w => ((cv c hc).2 w).1
  have ge := fun v e => GV_at (v := v) gv o z0 hk ia e
  have ia := of_decide_eq_true ia
  unfold ato at H0 H1 ge
  by_cases c : tK u N k = 2
  · rw [if_pos c] at H0 H1 ge
    have h12 := (hft_0 (o k hk)).2.2.1 c
    obtain ⟨v1, v2⟩ := cv _ h12
    refine c_atomN g x k4 o e2 hq e4 ea hk c ?_
    by_cases c2 : td (nnum u N k) = true
    · rw [if_pos c2] at H1
      rw [c2] at v1
      obtain ⟨v3, v4⟩ := v2 c2
      exact H1 _ rfl v3 h _ fr_rfl v4 v1 (Or.inr ⟨_, h12, rfl⟩)
    · rw [if_neg c2] at H0
      rw [Bool.eq_false_iff.mpr c2] at v1
      have kr : 27 ≤ kvo q (nnum u N k) ∧ kvo q (nnum u N k) ≤ 50 := by unfold kvo; split <;> omega
      exact H0 rfl _ kr.1 kr.2 (kvo_obj g h12) v1
  · rw [if_neg c] at H0 H1 ge
    have t3 : tK u N k = 3 := by omega
    have w := of_decide_eq_false (sft_z K z0 k hk).2
    have nz : dgs u N (tS u N k) ≠ 0 := fun q => w ⟨t3, Or.inr ⟨ia.2.2, q⟩⟩
    refine c_atomZ g x k4 e2 ea hk t3 ia.2.2 nz hs (fun h1 k1 vb e0 => ?_)
    exact H1 _ rfl (ge _ rfl) h1 sp k1 vb e0 (Or.inl rfl)
end CAT
