/-! AN OBJECT STAYS OF ITS CLASS, whatever runs -/
def KPo (h h1 : JH) : Prop := ∀ p ci, jcls h p = some ci → jcls h1 p = some ci
theorem kp_rfl {h : JH} : KPo h h := fun _ _ e => e
theorem kp_tr {h h1 h2 : JH} (a : KPo h h1) (b : KPo h1 h2) : KPo h h2 := fun p ci e => b p ci (a p ci e)
theorem jclk_of {h : JH} {p ci : Nat} (e : jcls h p = some ci) : ∃ fs, h[p]? = some (.inr (ci, fs)) := by
  unfold jcls at e
  split at e
  · next q e2 =>
    have := Option.some.inj e
    subst this
    exact ⟨q.2, e2⟩
  · exact absurd e (by intro w; cases w)
theorem jclk_at {h : JH} {p ci : Nat} {fs : List Value} (e : h[p]? = some (.inr (ci, fs))) : jcls h p = some ci := by
  unfold jcls
  rw [e]
theorem kp_set {h : JH} {a : Nat} {x c : JC} (e : h[a]? = some x) (hc : ∀ ci fs, x = .inr (ci, fs) → ∃ fs', c = .inr (ci, fs')) : KPo h (h.set a c) := by
  intro p ci ep
  obtain ⟨fs, hp⟩ := jclk_of ep
  by_cases c1 : a = p
  · subst c1
    have := Option.some.inj (e.symm.trans hp)
    obtain ⟨fs', e'⟩ := hc ci fs this
    have hl : a < h.length := (List.getElem?_eq_some_iff.mp hp).1
    refine jclk_at (fs := fs') ?_
    rw [List.getElem?_set_self hl, e']
  · refine jclk_at (fs := fs) ?_
    rw [List.getElem?_set_ne c1]
    exact hp
theorem kp_inl {h : JH} {a : Nat} {x : FieldType × vp_A} {c : JC} (e : h[a]? = some (.inl x)) : KPo h (h.set a c) := kp_set e (fun ci fs w => by cases w)
theorem kp_inr {h : JH} {a ci : Nat} {q : Nat × List Value} {fs : List Value} (e : h[a]? = some (.inr q)) (hq : q.1 = ci) : KPo h (h.set a (.inr (ci, fs))) := kp_set e (fun cj fs' w => by
  have := Sum.inr.inj w
  have : q.1 = cj := by rw [this]
  exact ⟨fs, by rw [← this, ← hq]⟩)
theorem kp_app {h : JH} {c : JC} : KPo h (h ++ [c]) := by
  intro p ci ep
  obtain ⟨fs, hp⟩ := jclk_of ep
  have hl : p < h.length := (List.getElem?_eq_some_iff.mp hp).1
  refine jclk_at (fs := fs) ?_
  rw [List.getElem?_append_left hl]
  exact hp
section KEP
variable {h : JH} {v w : Value} {ci k : Nat} {i x : Int32} {K K' : JH → Prop}
theorem km_pf (f : ∀ x, KPo h x → K x → K' x) : jpf h v ci k w K → jpf h v ci k w K' := by
  unfold jpf
  split
  · split
    · next q e =>
      intro H
      by_cases c : q.1 = ci ∧ k < q.2.length
      · rw [if_pos c] at H ⊢
        exact f _ (kp_inr e c.1) H
      · rw [if_neg c] at H
        exact H.elim
    · exact id
  · exact id
theorem km_wI (f : ∀ x, KPo h x → K x → K' x) : jwI h v i x K → jwI h v i x K' := by
  unfold jwI
  split
  · split
    · next e => exact fun H => ⟨H.1, f _ (kp_inl e) H.2⟩
    · exact id
  · exact id
theorem km_wB (f : ∀ x, KPo h x → K x → K' x) : jwB h v i x K → jwB h v i x K' := by
  unfold jwB
  split
  · split
    · next e => exact fun H => ⟨H.1, f _ (kp_inl e) H.2⟩
    · next e => exact fun H => ⟨H.1, f _ (kp_inl e) H.2⟩
    · exact id
  · exact id
theorem km_wL {x : Int64} (f : ∀ x, KPo h x → K x → K' x) : jwL h v i x K → jwL h v i x K' := by
  unfold jwL
  split
  · split
    · next e => exact fun H => ⟨H.1, f _ (kp_inl e) H.2⟩
    · exact id
  · exact id
theorem km_wA (f : ∀ x, KPo h x → K x → K' x) : jwA h v i w K → jwA h v i w K' := by
  unfold jwA
  split
  · split
    · next e =>
      split
      · split
        · exact fun H => ⟨H.1, H.2.1, f _ (kp_inl e) H.2.2⟩
        · exact id
      · exact id
    · exact id
  · exact id
theorem km_na {M : JM} {t : ArrayType} {n : Int32} {c s : Nat} {K K' : JH → Nat → Nat → Prop} (f : ∀ x y z, KPo h x → K x y z → K' x y z) : jna M t n h c s K → jna M t n h c s K' := by
  unfold jna
  split
  · exact fun H => ⟨H.1, H.2.1, H.2.2.1, H.2.2.2.1, f _ _ _ kp_app H.2.2.2.2⟩
  · exact id
theorem km_nr {M : JM} {n : Int32} {c s : Nat} {K K' : JH → Nat → Nat → Prop} (f : ∀ x y z, KPo h x → K x y z → K' x y z) : jnr M ci n h c s K → jnr M ci n h c s K' := by
  unfold jnr
  split
  · exact fun H => ⟨H.1, H.2.1, H.2.2.1, H.2.2.2.1, H.2.2.2.2.1, f _ _ _ kp_app H.2.2.2.2.2⟩
  · exact id
theorem km_no {M : JM} {c s : Nat} {K K' : JH → Nat → Nat → Prop} (f : ∀ x y z, KPo h x → K x y z → K' x y z) : jno M ci h c s K → jno M ci h c s K' := fun H => ⟨H.1, H.2.1, H.2.2.1, f _ _ _ kp_app H.2.2.2⟩
/-- a call keeps classes -/
def jck (c1 : JCall) : Prop := ∀ (i : Nat) (as : List Value) (h : JH) (q q' : JQ), (∀ r h2, KPo h h2 → q r h2 → q' r h2) → c1 i as h q → c1 i as h q'
theorem km_cl {c1 : JCall} (hc : jck c1) {M M2 : JM} {i : Nat} {as rest : List Value} {c s : Nat} {K K' : List Value → JH → Nat → Nat → Prop} (f : ∀ x y z w, KPo h y → K x y z w → K' x y z w) : jcl c1 M M2 i as rest h c s K → jcl c1 M M2 i as rest h c s K' :=
  jm_ite (jm_rm fun _ _ => hc _ _ _ _ _ (fun _ _ hk => jm_rv fun _ => f _ _ _ _ hk)) id
theorem km_cv {c1 : JCall} (hc : jck c1) {M M2 : JM} {i : Nat} {st : List Value} {c s : Nat} {K K' : List Value → JH → Nat → Nat → Prop} (f : ∀ x y z w, KPo h y → K x y z w → K' x y z w) : jcv c1 M M2 i st h c s K → jcv c1 M M2 i st h c s K' := by
  unfold jcv
  split
  · exact jm_rc (km_cl hc f)
  · exact id
theorem km_cs {c1 : JCall} (hc : jck c1) {M M2 : JM} {i : Nat} {st : List Value} {c s : Nat} {K K' : List Value → JH → Nat → Nat → Prop} (f : ∀ x y z w, KPo h y → K x y z w → K' x y z w) : jcs c1 M M2 i st h c s K → jcs c1 M M2 i st h c s K' := jm_ite (km_cl hc f) id
theorem km_pt {M : JM} {e : JE} (f : ∀ x, KPo h x → K x → K' x) : jpt M h v w e K → jpt M h v w e K' := by
  unfold jpt
  split
  · exact jm_ite (jm_ite (jm_pz (km_pf f)) id) (jm_pz (km_pf f))
  · exact id
theorem km_cpy {sp dp n : Int32} (f : ∀ y, KPo h y → K y → K' y) : jcpy h w sp v dp n K → jcpy h w sp v dp n K' := by
  unfold jcpy
  split
  · split
    · split
      · split
        · next e => exact fun H => ⟨H.1, H.2.1, H.2.2.1, H.2.2.2.1, H.2.2.2.2.1, f _ (kp_inl e) H.2.2.2.2.2⟩
        · exact id
      · exact id
    · exact id
  · exact id
theorem km_ac {st : List Value} {K K' : List Value → JH → Prop} (f : ∀ x y, KPo h y → K x y → K' x y) : jac h st K → jac h st K' := by
  unfold jac
  split
  · exact jm_ite (km_cpy (f _)) id
  · exact id
end KEP
set_option maxHeartbeats 4000000 in
theorem km_ins {X : JX} {c1 : JCall} (hc : jck c1) {M : JM} {h : JH} {Q Q' : JQ} (hQ : ∀ r, Q r h → Q' r h) {P P' : JP} (hP : ∀ pc ls st h2 c s, KPo h h2 → P pc ls st h2 c s → P' pc ls st h2 c s) (ins : Instr) {pc : Nat} {ls : JL} {st : List Value} {c s tg kk : Nat} :
    jins X c1 M Q P ins pc ls st h c s tg kk → jins X c1 M Q' P' ins pc ls st h c s tg kk := by
  cases ins <;> unfold jins <;> dsimp only <;> (repeat' first
    | exact id
    | exact hP _ _ _ _ _ _ kp_rfl
    | exact hP _ _ _ _ _ _ (by assumption)
    | exact hQ _
    | exact km_cv hc (fun _ _ _ _ hk => hP _ _ _ _ _ _ hk)
    | exact km_cs hc (fun _ _ _ _ hk => hP _ _ _ _ _ _ hk)
    | refine jm_pI fun _ _ => ?_
    | refine jm_pL fun _ _ => ?_
    | refine jm_pV fun _ _ => ?_
    | refine jm_ldI fun _ => ?_
    | refine jm_ldL fun _ => ?_
    | refine jm_ldA fun _ => ?_
    | refine jm_st1 fun _ => ?_
    | refine jm_st2 fun _ => ?_
    | refine jm_isr ?_
    | refine jm_cat1 ?_
    | refine jm_br ?_ ?_
    | refine jm_nul ?_ ?_
    | refine jm_ldc fun _ => ?_
    | refine jm_gs fun _ => ?_
    | refine jm_gt fun _ => ?_
    | refine km_pt fun _ _ => ?_
    | refine jm_aI fun _ => ?_
    | refine jm_aB fun _ => ?_
    | refine jm_aL fun _ => ?_
    | refine jm_aA fun _ => ?_
    | refine km_wI fun _ _ => ?_
    | refine km_wB fun _ _ => ?_
    | refine km_wL fun _ _ => ?_
    | refine km_wA fun _ _ => ?_
    | refine jm_aln fun _ => ?_
    | refine km_na fun _ _ _ _ => ?_
    | refine km_nr fun _ _ _ _ => ?_
    | refine km_no fun _ _ _ _ => ?_
    | refine km_ac fun _ _ _ => ?_
    | refine jm_rt ?_
    | refine jm_tsw ?_ (fun _ => ?_) _ _
    | refine jm_lsw ?_ (fun _ => ?_) _
    | refine jm_opt fun _ => ?_
    | refine jm_ite ?_ ?_
    | refine jm_and ?_
    | split)
theorem km_st {X : JX} {c1 : JCall} (hc : jck c1) {M : JM} {h : JH} {Q Q' : JQ} (hQ : ∀ r, Q r h → Q' r h) {P P' : JP} (hP : ∀ pc ls st h2 c s, KPo h h2 → P pc ls st h2 c s → P' pc ls st h2 c s) {pc : Nat} {ls : JL} {st : List Value} {c s : Nat} :
    jst X c1 M Q P pc ls st h c s → jst X c1 M Q' P' pc ls st h c s := by
  unfold jst
  split
  · exact km_ins hc hQ hP _
  · exact id
theorem km_ev {X : JX} {d : Nat} (hc : jck (jex X d)) {M : JM} {h0 h : JH} {Q Q' : JQ} (hQ : ∀ r h1, KPo h0 h1 → Q r h1 → Q' r h1) {pc : Nat} {ls : JL} {st : List Value} {c s : Nat} (H : jev X (jex X d) M Q pc ls st h c s) (k : KPo h0 h) : jev X (jex X d) M Q' pc ls st h c s :=
  H (fun pc ls st h c s => KPo h0 h → jev X (jex X d) M Q' pc ls st h c s) (fun _ _ _ _ _ _ hh k => jev_step (km_st hc (fun r => hQ r _ k) (fun _ _ _ _ _ _ k2 z => z (kp_tr k k2)) hh)) k
theorem jex_keep (X : JX) : ∀ d, jck (jex X d)
  | 0 => fun _ _ _ _ _ _ h => h
  | d + 1 => fun i as h q q' hq H => by
    obtain ⟨M, h1, h2, h3⟩ := jex_S.mp H
    exact jex_S.mpr ⟨M, h1, h2, km_ev (jex_keep X d) hq h3 kp_rfl⟩
