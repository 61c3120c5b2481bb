/-! more may come behind: all steps are monotone -/
theorem jm_ite {c A A' B B' : Prop} [Decidable c] (f : A → A') (g : B → B') : (if c then A else B) → (if c then A' else B') := by
  intro h
  by_cases hc : c
  · rw [if_pos hc] at h ⊢; exact f h
  · rw [if_neg hc] at h ⊢; exact g h
theorem jm_and {c A A' : Prop} (f : A → A') : (c ∧ A) → (c ∧ A') := fun h => ⟨h.1, f h.2⟩
theorem jm_isr {v : Value} {A A' : Prop} (f : A → A') : jisr v A → jisr v A' := by
  unfold jisr; split <;> first | exact f | exact id
theorem jm_cat1 {v : Value} {A A' : Prop} (f : A → A') : jcat1 v A → jcat1 v A' := by
  unfold jcat1; split <;> first | exact f | exact id
theorem jm_ldI {ls : JL} {i : Nat} {K K' : Int32 → Prop} (f : ∀ x, K x → K' x) : jldI ls i K → jldI ls i K' := by
  unfold jldI; split <;> first | exact f _ | exact id
theorem jm_ldL {ls : JL} {i : Nat} {K K' : Int64 → Prop} (f : ∀ x, K x → K' x) : jldL ls i K → jldL ls i K' := by
  unfold jldL; split
  · split <;> first | exact f _ | exact id
  · exact id
theorem jm_ldA {ls : JL} {i : Nat} {K K' : Value → Prop} (f : ∀ x, K x → K' x) : jldA ls i K → jldA ls i K' := by
  unfold jldA; split <;> first | exact jm_isr (f _) | exact id
theorem jm_st1 {ls : JL} {i : Nat} {v : Value} {K K' : JL → Prop} (f : ∀ x, K x → K' x) : jst1 ls i v K → jst1 ls i v K' := jm_ite (f _) id
theorem jm_st2 {ls : JL} {i : Nat} {v : Value} {K K' : JL → Prop} (f : ∀ x, K x → K' x) : jst2 ls i v K → jst2 ls i v K' := jm_ite (f _) id
theorem jm_pI {st : List Value} {K K' : Int32 → List Value → Prop} (f : ∀ x r, K x r → K' x r) : jpI st K → jpI st K' := by
  unfold jpI; split <;> first | exact f _ _ | exact id
theorem jm_pL {st : List Value} {K K' : Int64 → List Value → Prop} (f : ∀ x r, K x r → K' x r) : jpL st K → jpL st K' := by
  unfold jpL; split <;> first | exact f _ _ | exact id
theorem jm_pV {st : List Value} {K K' : Value → List Value → Prop} (f : ∀ x r, K x r → K' x r) : jpV st K → jpV st K' := by
  unfold jpV; split <;> first | exact f _ _ | exact id
theorem jm_br {k : Jvm.ClassFile.Cond} {x y : Int32} {A A' B B' : Prop} (f : A → A') (g : B → B') : jbr k x y A B → jbr k x y A' B' := by
  cases k <;> first | exact jm_ite f g | exact jm_ite g f
theorem jm_nul {v : Value} {A A' B B' : Prop} (f : A → A') (g : B → B') : jnul v A B → jnul v A' B' := by
  unfold jnul; split <;> first | exact f | exact g | exact id
theorem jm_gf {h : JH} {v : Value} {ci k : Nat} {K K' : Value → Prop} (f : ∀ x, K x → K' x) : jgf h v ci k K → jgf h v ci k K' := by
  unfold jgf
  split
  · split
    · refine jm_ite ?_ id
      split <;> first | exact f _ | exact id
    · exact id
  · exact id
theorem jm_gI {h : JH} {v : Value} {ci k : Nat} {K K' : Int32 → Prop} (f : ∀ x, K x → K' x) : jgI h v ci k K → jgI h v ci k K' := jm_gf (fun x => by cases x <;> first | exact f _ | exact id)
theorem jm_gL {h : JH} {v : Value} {ci k : Nat} {K K' : Int64 → Prop} (f : ∀ x, K x → K' x) : jgL h v ci k K → jgL h v ci k K' := jm_gf (fun x => by cases x <;> first | exact f _ | exact id)
theorem jm_pf {h : JH} {v w : Value} {ci k : Nat} {K K' : JH → Prop} (f : ∀ x, K x → K' x) : jpf h v ci k w K → jpf h v ci k w K' := by
  unfold jpf
  split
  · split
    · exact jm_ite (f _) id
    · exact id
  · exact id
theorem jm_aI {X : JX} {h : JH} {v : Value} {i : Int32} {K K' : Int32 → Prop} (f : ∀ x, K x → K' x) : jaI X h v i K → jaI X h v i K' := by
  unfold jaI
  split
  · split
    · exact jm_and (f _)
    · exact id
  · split
    · exact jm_and (f _)
    · exact id
  · exact id
theorem jm_aB {h : JH} {v : Value} {i : Int32} {K K' : Int32 → Prop} (f : ∀ x, K x → K' x) : jaB h v i K → jaB h v i K' := by
  unfold jaB
  split
  · split
    · exact jm_and (f _)
    · exact jm_and (f _)
    · exact id
  · split
    · exact jm_and (f _)
    · exact id
  · exact id
theorem jm_aL {h : JH} {v : Value} {i : Int32} {K K' : Int64 → Prop} (f : ∀ x, K x → K' x) : jaL h v i K → jaL h v i K' := by
  unfold jaL
  split
  · split
    · exact jm_and (f _)
    · exact id
  · exact id
theorem jm_aA {h : JH} {v : Value} {i : Int32} {K K' : Value → Prop} (f : ∀ x, K x → K' x) : jaA h v i K → jaA h v i K' := by
  unfold jaA
  split
  · split
    · exact jm_and (f _)
    · exact id
  · exact id
theorem jm_wI {h : JH} {v : Value} {i x : Int32} {K K' : JH → Prop} (f : ∀ x, K x → K' x) : jwI h v i x K → jwI h v i x K' := by
  unfold jwI
  split
  · split
    · exact jm_and (f _)
    · exact id
  · exact id
theorem jm_wB {h : JH} {v : Value} {i x : Int32} {K K' : JH → Prop} (f : ∀ x, K x → K' x) : jwB h v i x K → jwB h v i x K' := by
  unfold jwB
  split
  · split
    · exact jm_and (f _)
    · exact jm_and (f _)
    · exact id
  · exact id
theorem jm_wL {h : JH} {v : Value} {i : Int32} {x : Int64} {K K' : JH → Prop} (f : ∀ x, K x → K' x) : jwL h v i x K → jwL h v i x K' := by
  unfold jwL
  split
  · split
    · exact jm_and (f _)
    · exact id
  · exact id
theorem jm_wA {h : JH} {v w : Value} {i : Int32} {K K' : JH → Prop} (f : ∀ x, K x → K' x) : jwA h v i w K → jwA h v i w K' := by
  unfold jwA
  split
  · split
    · split
      · split
        · exact jm_and (jm_and (f _))
        · exact id
      · exact id
    · exact id
  · exact id
theorem jm_aln {X : JX} {h : JH} {v : Value} {K K' : Int32 → Prop} (f : ∀ x, K x → K' x) : jaln X h v K → jaln X h v K' := by
  unfold jaln
  split
  · split
    · exact f _
    · exact id
  · split
    · exact f _
    · split
      · exact f _
      · exact id
  · exact id
theorem jm_na {M : JM} {t : ArrayType} {n : Int32} {h : JH} {c s : Nat} {K K' : JH → Nat → Nat → Prop} (f : ∀ x y z, K x y z → K' x y z) : jna M t n h c s K → jna M t n h c s K' := by
  unfold jna
  split
  · exact jm_and (jm_and (jm_and (jm_and (f _ _ _))))
  · exact id
theorem jm_nr {M : JM} {ci : Nat} {n : Int32} {h : JH} {c s : Nat} {K K' : JH → Nat → Nat → Prop} (f : ∀ x y z, K x y z → K' x y z) : jnr M ci n h c s K → jnr M ci n h c s K' := by
  unfold jnr
  split
  · exact jm_and (jm_and (jm_and (jm_and (jm_and (f _ _ _)))))
  · exact id
theorem jm_no {M : JM} {ci : Nat} {h : JH} {c s : Nat} {K K' : JH → Nat → Nat → Prop} (f : ∀ x y z, K x y z → K' x y z) : jno M ci h c s K → jno M ci h c s K' := jm_and (jm_and (jm_and (f _ _ _)))
theorem jm_rI {r : Option Value} {K K' : Int32 → Prop} (f : ∀ x, K x → K' x) : jrI r K → jrI r K' := by
  unfold jrI; split <;> first | exact f _ | exact id
theorem jm_rL {r : Option Value} {K K' : Int64 → Prop} (f : ∀ x, K x → K' x) : jrL r K → jrL r K' := by
  unfold jrL; split <;> first | exact f _ | exact id
theorem jm_rA {r : Option Value} {K K' : Value → Prop} (f : ∀ x, K x → K' x) : jrA r K → jrA r K' := by
  unfold jrA; split <;> first | exact jm_isr (f _) | exact id
theorem jm_rN {r : Option Value} {K K' : Prop} (f : K → K') : jrN r K → jrN r K' := by
  unfold jrN; split <;> first | exact f | exact id
theorem jm_rv {t : Option FieldType} {r : Option Value} {K K' : List Value → Prop} (f : ∀ x, K x → K' x) : jrv t r K → jrv t r K' := by
  unfold jrv
  split <;> first | exact jm_rN (f _) | exact jm_rL fun _ => f _ | exact jm_rA fun _ => f _ | exact jm_rI fun _ => f _
theorem jm_rm {M M2 : JM} {c s : Nat} {K K' : Nat → Nat → Prop} (f : ∀ x y, K x y → K' x y) : jrm M M2 c s K → jrm M M2 c s K' := jm_ite (f _ _) (jm_and (jm_and (f _ _)))
def jcm (c1 c2 : JCall) : Prop := ∀ (i : Nat) (as : List Value) (h : JH) (q q' : JQ), (∀ r h, q r h → q' r h) → c1 i as h q → c2 i as h q'
theorem jm_cl {c1 c2 : JCall} (hc : jcm c1 c2) {M M2 : JM} {i : Nat} {as rest : List Value} {h : JH} {c s : Nat} {K K' : List Value → JH → Nat → Nat → Prop} (f : ∀ x y z w, K x y z w → K' x y z w) : jcl c1 M M2 i as rest h c s K → jcl c2 M M2 i as rest h c s K' :=
  jm_ite (jm_rm fun _ _ => hc _ _ _ _ _ (fun _ _ => jm_rv fun _ => f _ _ _ _)) id
theorem jm_rc {h : JH} {v : Value} {ci : Nat} {K K' : Prop} (f : K → K') : jrc h v ci K → jrc h v ci K' := by
  unfold jrc
  split
  · split
    · exact jm_ite f id
    · exact id
  · exact jm_ite f id
  · exact id
theorem jm_cv {c1 c2 : JCall} (hc : jcm c1 c2) {M M2 : JM} {i : Nat} {st : List Value} {h : JH} {c s : Nat} {K K' : List Value → JH → Nat → Nat → Prop} (f : ∀ x y z w, K x y z w → K' x y z w) : jcv c1 M M2 i st h c s K → jcv c2 M M2 i st h c s K' := by
  unfold jcv
  split
  · exact jm_rc (jm_cl hc f)
  · exact id
theorem jm_cs {c1 c2 : JCall} (hc : jcm c1 c2) {M M2 : JM} {i : Nat} {st : List Value} {h : JH} {c s : Nat} {K K' : List Value → JH → Nat → Nat → Prop} (f : ∀ x y z w, K x y z w → K' x y z w) : jcs c1 M M2 i st h c s K → jcs c2 M M2 i st h c s K' := jm_ite (jm_cl hc f) id
theorem jm_ldc {e : JE} {K K' : Value → Prop} (f : ∀ x, K x → K' x) : jldc e K → jldc e K' := by
  unfold jldc; split <;> first | exact f _ | exact id
theorem jm_gs {e : JE} {K K' : Value → Prop} (f : ∀ x, K x → K' x) : jgs e K → jgs e K' := by
  unfold jgs
  split
  · split <;> first | exact f _ | exact id
  · exact id
theorem jm_gt {h : JH} {v : Value} {e : JE} {K K' : Value → Prop} (f : ∀ x, K x → K' x) : jgt h v e K → jgt h v e K' := by
  unfold jgt
  split
  · split <;> first | exact jm_gL fun _ => f _ | exact jm_gf f | exact jm_gI fun _ => f _
  · split
    · exact jm_ite (jm_ite (f _) (f _)) id
    · exact id
  · exact id
theorem jm_pz {t : FieldType} {w : Value} {K K' : Prop} (f : K → K') : jpz t w K → jpz t w K' := by
  unfold jpz
  split
  · split <;> first | exact f | exact id
  · split <;> first | exact jm_and f | exact id
  · split <;> first | exact f | exact id
  · exact jm_isr f
  · exact jm_isr f
  · exact id
theorem jm_pt {M : JM} {h : JH} {v w : Value} {e : JE} {K K' : JH → Prop} (f : ∀ x, K x → K' x) : jpt M h v w e K → jpt M h v w e K' := by
  unfold jpt
  split
  · exact jm_ite (jm_ite (jm_pz (jm_pf f)) id) (jm_pz (jm_pf f))
  · exact id
theorem jm_tsw {pc : Nat} {x : Int32} {D D' : Prop} {K K' : Nat → Prop} (g : D → D') (f : ∀ t, K t → K' t) : ∀ (os : List Int) (lo : Int), jtsw pc lo os x D K → jtsw pc lo os x D' K'
  | [], _ => g
  | _ :: r, lo => jm_ite (f _) (jm_tsw g f r (lo + 1))
theorem jm_lsw {pc : Nat} {x : Int32} {D D' : Prop} {K K' : Nat → Prop} (g : D → D') (f : ∀ t, K t → K' t) : ∀ (os : List (Int × Int)), jlsw pc os x D K → jlsw pc os x D' K'
  | [] => g
  | _ :: r => jm_ite (f _) (jm_lsw g f r)
theorem jm_cpy {h : JH} {w v : Value} {sp dp n : Int32} {K K' : JH → Prop} (f : ∀ y, K y → K' y) : jcpy h w sp v dp n K → jcpy h w sp v dp n K' := by
  unfold jcpy
  split
  · split
    · split
      · split
        · exact jm_and (jm_and (jm_and (jm_and (jm_and (f _)))))
        · exact id
      · exact id
    · exact id
  · exact id
theorem jm_ac {h : JH} {st : List Value} {K K' : List Value → JH → Prop} (f : ∀ x y, K x y → K' x y) : jac h st K → jac h st K' := by
  unfold jac
  split
  · exact jm_ite (jm_cpy (f _)) id
  · exact id
theorem jm_rt {t : Option FieldType} {v : Value} {K K' : Prop} (f : K → K') : jrt t v K → jrt t v K' := by
  unfold jrt
  split
  · split <;> first | exact jm_and f | exact id
  · split <;> first | exact jm_and f | exact id
  · split <;> first | exact jm_and f | exact id
  · split <;> first | exact f | exact id
  · exact id
theorem jm_opt {α : Type} {o : Option α} {A A' : α → Prop} (f : ∀ x, A x → A' x) : (match o with
  | some x => A x
  | none => False) → (match o with
  | some x => A' x
  | none => False) := by
  cases o <;> first | exact f _ | exact id
set_option maxHeartbeats 4000000 in
theorem jm_ins {X : JX} {c1 c2 : JCall} (hc : jcm c1 c2) {M : JM} {Q Q' : JQ} (hQ : ∀ r h, Q r h → Q' r h) {P P' : JP} (hP : ∀ pc ls st h c s, P pc ls st h c s → P' pc ls st h c s) (ins : Instr) {pc : Nat} {ls : JL} {st : List Value} {h : JH} {c s tg kk : Nat} :
    jins X c1 M Q P ins pc ls st h c s tg kk → jins X c2 M Q' P' ins pc ls st h c s tg kk := by
  cases ins <;> unfold jins <;> dsimp only <;> (repeat' first
    | exact id
    | exact hP _ _ _ _ _ _
    | exact hQ _ _
    | exact jm_cv hc (fun _ _ _ _ => hP _ _ _ _ _ _)
    | exact jm_cs hc (fun _ _ _ _ => hP _ _ _ _ _ _)
    | refine jm_pI fun _ _ => ?_
    | refine jm_pL fun _ _ => ?_
    | refine jm_pV fun _ _ => ?_
    | refine jm_ldI fun _ => ?_
    | refine jm_ldL fun _ => ?_
    | refine jm_ldA fun _ => ?_
    | refine jm_st1 fun _ => ?_
    | refine jm_st2 fun _ => ?_
    | refine jm_isr ?_
    | refine jm_cat1 ?_
    | refine jm_br ?_ ?_
    | refine jm_nul ?_ ?_
    | refine jm_ldc fun _ => ?_
    | refine jm_gs fun _ => ?_
    | refine jm_gt fun _ => ?_
    | refine jm_pt fun _ => ?_
    | refine jm_aI fun _ => ?_
    | refine jm_aB fun _ => ?_
    | refine jm_aL fun _ => ?_
    | refine jm_aA fun _ => ?_
    | refine jm_wI fun _ => ?_
    | refine jm_wB fun _ => ?_
    | refine jm_wL fun _ => ?_
    | refine jm_wA fun _ => ?_
    | refine jm_aln fun _ => ?_
    | refine jm_na fun _ _ _ => ?_
    | refine jm_nr fun _ _ _ => ?_
    | refine jm_no fun _ _ _ => ?_
    | refine jm_ac fun _ _ => ?_
    | refine jm_rt ?_
    | refine jm_tsw ?_ (fun _ => ?_) _ _
    | refine jm_lsw ?_ (fun _ => ?_) _
    | refine jm_opt fun _ => ?_
    | refine jm_ite ?_ ?_
    | refine jm_and ?_
    | split)
theorem jm_st {X : JX} {c1 c2 : JCall} (hc : jcm c1 c2) {M : JM} {Q Q' : JQ} (hQ : ∀ r h, Q r h → Q' r h) {P P' : JP} (hP : ∀ pc ls st h c s, P pc ls st h c s → P' pc ls st h c s) {pc : Nat} {ls : JL} {st : List Value} {h : JH} {c s : Nat} :
    jst X c1 M Q P pc ls st h c s → jst X c2 M Q' P' pc ls st h c s := by
  unfold jst
  split
  · exact jm_ins hc hQ hP _
  · exact id
theorem jm_ev {X : JX} {c1 c2 : JCall} (hc : jcm c1 c2) {M : JM} {Q Q' : JQ} (hQ : ∀ r h, Q r h → Q' r h) {pc : Nat} {ls : JL} {st : List Value} {h : JH} {c s : Nat} (H : jev X c1 M Q pc ls st h c s) : jev X c2 M Q' pc ls st h c s :=
  fun P hP => H P fun _ _ _ _ _ _ hh => hP _ _ _ _ _ _ (jm_st hc hQ (fun _ _ _ _ _ _ => id) hh)
theorem jex_S {X : JX} {d i : Nat} {as : List Value} {h : JH} {Q : JQ} : jex X (d + 1) i as h Q ↔ ∃ M, jM i = some M ∧ (jsl as).length ≤ M.maxL ∧ jev X (jex X d) M Q 0 (jent M as) [] h 0 0 := by
  rw [jex]
  dsimp only
  constructor
  · intro H
    split at H
    next M hM =>
      by_cases hz : (jsl as).length ≤ M.maxL
      · rw [if_pos hz] at H; exact ⟨M, hM, hz, H⟩
      · rw [if_neg hz] at H; exact H.elim
    next => exact H.elim
  · rintro ⟨M, hM, hz, H⟩
    rw [hM]
    show (if (jsl as).length ≤ M.maxL then jev X (jex X d) M Q 0 (jent M as) [] h 0 0 else False)
    rw [if_pos hz]
    exact H
theorem jex_mono (X : JX) : ∀ d, jcm (jex X d) (jex X d)
  | 0 => fun _ _ _ _ _ _ h => h
  | d + 1 => fun i as h q q' hq H => by
    obtain ⟨M, h1, h2, h3⟩ := jex_S.mp H
    exact jex_S.mpr ⟨M, h1, h2, jm_ev (jex_mono X d) hq h3⟩
theorem jex_up (X : JX) : ∀ d, jcm (jex X d) (jex X (d + 1))
  | 0 => fun _ _ _ _ _ _ h => h.elim
  | d + 1 => fun i as h q q' hq H => by
    obtain ⟨M, h1, h2, h3⟩ := jex_S.mp H
    exact jex_S.mpr ⟨M, h1, h2, jm_ev (jex_up X d) hq h3⟩
theorem jev_step {X : JX} {d : Nat} {M : JM} {Q : JQ} {pc : Nat} {ls : JL} {st : List Value} {h : JH} {c s : Nat} (H : jst X (jex X d) M Q (jev X (jex X d) M Q) pc ls st h c s) : jev X (jex X d) M Q pc ls st h c s :=
  fun P hP => hP _ _ _ _ _ _ (jm_st (jex_mono X d) (fun _ _ => id) (fun _ _ _ _ _ _ hh => hh P hP) H)
theorem jev_seg {X : JX} {d : Nat} {M : JM} {Q : JQ} {stops : List Nat} (k : Nat) : ∀ {pc : Nat} {ls : JL} {st : List Value} {h : JH} {c s : Nat}, jsg X (jex X d) M Q (jev X (jex X d) M Q) stops k pc ls st h c s → jev X (jex X d) M Q pc ls st h c s := by
  induction k with
  | zero => exact fun H => H
  | succ k ih =>
    intro pc ls st h c s H
    refine jev_step (jm_st (jex_mono X d) (fun _ _ => id) (fun pc ls st h c s => ?_) H)
    intro hh
    by_cases hz : stops.contains pc
    · rw [if_pos hz] at hh; exact hh
    · rw [if_neg hz] at hh; exact ih hh
theorem jev_iff {X : JX} {d : Nat} {M : JM} {Q : JQ} {pc : Nat} {ls : JL} {st : List Value} {h : JH} {c s : Nat} : jev X (jex X d) M Q pc ls st h c s ↔ jst X (jex X d) M Q (jev X (jex X d) M Q) pc ls st h c s :=
  ⟨fun H => H (fun pc ls st h c s => jst X (jex X d) M Q (jev X (jex X d) M Q) pc ls st h c s) (fun _ _ _ _ _ _ hh => jm_st (jex_mono X d) (fun _ _ => id) (fun _ _ _ _ _ _ => jev_step) hh), jev_step⟩
theorem jev_sg {X : JX} {d : Nat} {M : JM} {Q : JQ} {stops : List Nat} (k : Nat) : ∀ {pc : Nat} {ls : JL} {st : List Value} {h : JH} {c s : Nat}, jev X (jex X d) M Q pc ls st h c s = jsg X (jex X d) M Q (jev X (jex X d) M Q) stops k pc ls st h c s := by
  induction k with
  | zero => intros; rfl
  | succ k ih =>
    intro pc ls st h c s
    have e : (jev X (jex X d) M Q : JP) = fun pc ls st h c s => if stops.contains pc then jev X (jex X d) M Q pc ls st h c s else jsg X (jex X d) M Q (jev X (jex X d) M Q) stops k pc ls st h c s := by
      funext pc ls st h c s
      split
      · rfl
      · exact ih
    refine (propext jev_iff).trans ?_
    show jst X (jex X d) M Q (jev X (jex X d) M Q) pc ls st h c s = jst X (jex X d) M Q _ pc ls st h c s
    exact congrArg (fun P : JP => jst X (jex X d) M Q P pc ls st h c s) e
theorem jex_eq {X : JX} {d i : Nat} {M : JM} {as : List Value} {h : JH} {Q : JQ} (hM : jM i = some M) (hl : (jsl as).length ≤ M.maxL) : jex X (d + 1) i as h Q = jev X (jex X d) M Q 0 (jent M as) [] h 0 0 :=
  propext ⟨fun H => by
    obtain ⟨M2, e, _, H2⟩ := jex_S.mp H
    cases e.symm.trans hM
    exact H2, fun H => jex_S.mpr ⟨M, hM, hl, H⟩⟩
