/-! THE LAW: every call alike, to the script's end -/
section LAW
variable {X : JX} {h : JH} {B : Int}
theorem law_ln {K : Int32 → Prop} : jaln X h (.float 0) K = K (Int32.ofNat X.1) := rfl
theorem law_rd {k : Nat} {i : Int32} {K : Int32 → Prop} (ei : i = nI k) (hk : k < X.1) (hL : X.1 ≤ 4096) : jaI X h (.float 0) i K = K (X.2 k) := by
  subst ei
  have e1 : jaI X h (.float 0) (nI k) K = (vp_in (nI k) X.1 ∧ K (X.2 (nI k).toNatClampNeg)) := rfl
  rw [e1, nI_clamp (by omega)]
  refine propext ⟨fun z => z.2, fun z => ⟨?_, z⟩⟩
  rw [vp_inI, nI_toInt (by omega)]
  omega
theorem jisr_f {b : UInt32} {K : Prop} : jisr (.float b) K = K := rfl
theorem jisr_r {p : Nat} {K : Prop} : jisr (.ref p) K = K := rfl
theorem jifp_y {P A C : Prop} (p : P) : jifp P A C = A := propext ⟨fun z => z.1 p, fun z => ⟨fun _ => z, fun n => absurd p n⟩⟩
theorem jifp_z {P A C : Prop} (p : ¬ P) : jifp P A C = C := propext ⟨fun z => z.2 p, fun z => ⟨fun y => absurd y p, fun _ => z⟩⟩
theorem jrc_kp {h1 : JH} {K : Prop} (g : G h) (k : KPo h h1) : jrc h1 (.ref 81) 12 K = K := by
  have o : obj h 81 12 := by simp only [gM g]
  obtain ⟨fs, e, _⟩ := obj_of o
  have e1 := k 81 12 (jclk_at e)
  unfold jrc
  dsimp only
  rw [e1]
  exact if_pos rfl
/-- a call of both, alike -/
theorem law_call {idc idm : Nat} {args : List Value} {J : JH → Prop} {L F : JH → Prop} (g : G h) (ag : AGR X idc idm args h J) (H : ∀ h2, J h2 → L h2) : jex X 10 idc (.ref 0 :: args) h (fun r h1 => jrI r fun x => jrc h1 (.ref 81) 12 (jex X 10 idm (.ref 81 :: args) h1 (fun r2 h2 => jrI r2 fun y => jifp (x = y) (L h2) (F h2)))) := by
  refine jex_keep X 10 _ _ _ (fun r h1 => KPo h h1 → jrI r fun x => jrc h1 (.ref 81) 12 (jex X 10 idm (.ref 81 :: args) h1 (fun r2 h2 => jrI r2 fun y => jifp (x = y) (L h2) (F h2)))) _ (fun r h1 k z => z k) (ag _ (fun y h1 mm k => ?_))
  show jrc h1 (.ref 81) 12 _
  rw [jrc_kp g k]
  exact mm _ (fun h2 j => ⟨fun _ => H h2 j, fun n => absurd rfl n⟩)
set_option maxHeartbeats 8000000 in
theorem l_law (hL : X.1 ≤ 4096) : ∀ (rr i : Nat) (h : JH) (c s : Nat), i + rr = 513 → Iv (2000 + 20 * i) h → c ≤ 126 + 2 * i → s ≤ 36841 + 25 * i → jB_L_law_18 X 10 jlawQ (.float 0) (.ref 0) (.ref 81) (nI (8 * i)) h c s := by
  intro rr
  induction rr with
  | zero =>
    intro i h c s hi iv hc hs
    refine jT_L_law_18 ?_
    rw [jisr_f, law_ln]
    refine jif_t ?_ ⟨by decide, rfl⟩
    rw [ti_lt, nI_toInt (by omega)]
    have e1 : (Int32.ofNat X.1).toInt = (X.1 : Int) := nI_toInt (n := X.1) (by omega)
    have e8 : (8 : Int32).toInt = 8 := rfl
    have : (Int32.ofNat X.1 - 8).toInt = (X.1 : Int) - 8 := by
      generalize Int32.ofNat X.1 = z at e1
      simp only [Int32.toInt_sub, Int.bmod_def, e1, e8]
      omega
    rw [this]
    omega
  | succ rr ih =>
    intro i h c s hi iv hc hs
    have b0 : (2000 : Int) ≤ 2000 + 20 * i := by omega
    have b1 : (2000 : Int) + 20 * i ≤ 90000 := by omega
    have g := iv.1
    have ob : obj h 0 11 := by simp only [gO g]
    have mc : JM.mc jm_L_law = 600000 := rfl
    have ms : JM.ms jm_L_law = 7302250 := rfl
    have e8i : nI (8 * i) + 8 = nI (8 * (i + 1)) := by
      have : nI (8 * i) + nI 8 = nI (8 * i + 8) := nI_add _ _
      exact this
    have eB : (2000 : Int) + 20 * (i : Int) + 20 = 2000 + 20 * ((i + 1 : Nat) : Int) := by omega
    have NX : ∀ h2, Iv (2000 + 20 * (i : Int) + 20) h2 → ∀ c' s', c' ≤ 126 + 2 * (i + 1) → s' ≤ 36841 + 25 * (i + 1) → jB_L_law_18 X 10 jlawQ (.float 0) (.ref 0) (.ref 81) (nI (8 * i) + 8) h2 c' s' := by
      intro h2 iv2 c' s' hc' hs'
      rw [e8i]
      rw [eB] at iv2
      exact ih (i + 1) h2 c' s' (by omega) iv2 hc' hs'
    refine jT_L_law_18 ?_
    rw [jisr_f, law_ln]
    refine ⟨fun _ => ⟨by decide, rfl⟩, fun nlt => ?_⟩
    have hx : 8 * i + 8 ≤ X.1 := by
      rw [ti_lt, nI_toInt (by omega)] at nlt
      have e1 : (Int32.ofNat X.1).toInt = (X.1 : Int) := nI_toInt (n := X.1) (by omega)
      have e8 : (8 : Int32).toInt = 8 := rfl
      have : (Int32.ofNat X.1 - 8).toInt = (X.1 : Int) - 8 := by
        generalize Int32.ofNat X.1 = z at e1
        simp only [Int32.toInt_sub, Int.bmod_def, e1, e8]
        omega
      rw [this] at nlt
      omega
    clear nlt
    have r0 : ∀ (h : JH) (K : Int32 → Prop), jaI X h (.float 0) (nI (8 * i)) K = K (X.2 (8 * i)) := fun h K => law_rd rfl (by omega) hL
    have r1 : ∀ (h : JH) (K : Int32 → Prop), jaI X h (.float 0) (nI (8 * i) + 1) K = K (X.2 (8 * i + 1)) := fun h K => law_rd (nI_add (8 * i) 1) (by omega) hL
    have r2 : ∀ (h : JH) (K : Int32 → Prop), jaI X h (.float 0) (nI (8 * i) + 2) K = K (X.2 (8 * i + 2)) := fun h K => law_rd (nI_add (8 * i) 2) (by omega) hL
    have r3 : ∀ (h : JH) (K : Int32 → Prop), jaI X h (.float 0) (nI (8 * i) + 3) K = K (X.2 (8 * i + 3)) := fun h K => law_rd (nI_add (8 * i) 3) (by omega) hL
    have r4 : ∀ (h : JH) (K : Int32 → Prop), jaI X h (.float 0) (nI (8 * i) + 4) K = K (X.2 (8 * i + 4)) := fun h K => law_rd (nI_add (8 * i) 4) (by omega) hL
    have r5 : ∀ (h : JH) (K : Int32 → Prop), jaI X h (.float 0) (nI (8 * i) + 5) K = K (X.2 (8 * i + 5)) := fun h K => law_rd (nI_add (8 * i) 5) (by omega) hL
    have r6 : ∀ (h : JH) (K : Int32 → Prop), jaI X h (.float 0) (nI (8 * i) + 6) K = K (X.2 (8 * i + 6)) := fun h K => law_rd (nI_add (8 * i) 6) (by omega) hL
    have r7 : ∀ (h : JH) (K : Int32 → Prop), jaI X h (.float 0) (nI (8 * i) + 7) K = K (X.2 (8 * i + 7)) := fun h K => law_rd (nI_add (8 * i) 7) (by omega) hL
    rw [jisr_f, r0]
    generalize X.2 (8 * i) &&& 63 = op
    have cB : c ≤ 126 + 2 * (i + 1) := by omega
    have sB : s ≤ 36841 + 25 * (i + 1) := by omega
    have RS : ∀ {A : Prop}, A → A := fun z => z
    refine ⟨fun _ => ?_, fun _ => ?_⟩
    · simp only [jisr_f, jisr_r, r1, r2, r3, r4, r5, r6, r7]
      rw [jrc_ob ob]
      exact law_call g (t_feed iv b0 b1) (fun h2 iv2 => NX h2 iv2 _ _ cB sB)
    refine ⟨fun _ => ?_, fun _ => ?_⟩
    · simp only [jisr_f, jisr_r, r1, r2, r3, r4, r5, r6, r7]
      rw [jrc_ob ob]
      exact law_call g (t_back iv b0 b1) (fun h2 iv2 => NX h2 iv2 _ _ cB sB)
    refine ⟨fun _ => ?_, fun _ => ?_⟩
    · simp only [jisr_r]
      rw [jrc_ob ob]
      exact law_call g (t_read iv b0 b1) (fun h2 iv2 => NX h2 iv2 _ _ cB sB)
    refine ⟨fun _ => ?_, fun _ => ?_⟩
    · simp only [jisr_r]
      rw [jrc_ob ob]
      exact law_call g (t_place iv b0 b1) (fun h2 iv2 => NX h2 iv2 _ _ cB sB)
    refine ⟨fun _ => ?_, fun _ => ?_⟩
    · simp only [jisr_f, jisr_r, r1, r2, r3, r4, r5, r6, r7]
      rw [jrc_ob ob]
      exact law_call g (t_units iv b0 b1) (fun h2 iv2 => NX h2 iv2 _ _ cB sB)
    refine ⟨fun _ => ?_, fun _ => ?_⟩
    · simp only [jisr_r]
      rw [jrc_ob ob, mc, ms]
      refine ⟨by omega, by omega, ?_⟩
      exact law_call g (t_rule iv b0 b1) (fun h2 iv2 => NX h2 iv2 _ _ (by omega) (by omega))
    refine ⟨fun _ => ?_, fun _ => ?_⟩
    · have SC1 : ∀ (s0 s2 : Int32), (s2 = if X.2 (8 * i + 2) = 0 then 0 else 1) → (s0 = if X.2 (8 * i + 4) = 0 then 0 else 1) → jB_L_law_385 X 10 jlawQ (.float 0) (.ref 0) (.ref 81) (nI (8 * i)) s0 (X.2 (8 * i + 3)) s2 (X.2 (8 * i + 1)) (.ref 0) h c s := by
        intro s0 s2 es2 es0
        refine jT_L_law_385 ?_
        rw [jrc_ob ob, mc, ms]
        refine ⟨by omega, by omega, ?_⟩
        simp only [jisr_f, jisr_r, r1, r2, r3, r4, r5, r6, r7]
        by_cases z2 : X.2 (8 * i + 2) = 0
        · rw [if_pos z2] at es2
          subst es2
          simp only [jifp_y z2]
          by_cases z4 : X.2 (8 * i + 4) = 0
          · rw [if_pos z4] at es0
            subst es0
            simp only [jifp_y z4]
            exact law_call g (t_scale iv b0 b1 (Or.inl rfl) (Or.inl rfl)) (fun h2 iv2 => NX h2 iv2 _ _ (by omega) (by omega))
          · rw [if_neg z4] at es0
            subst es0
            simp only [jifp_z z4]
            exact law_call g (t_scale iv b0 b1 (Or.inl rfl) (Or.inr rfl)) (fun h2 iv2 => NX h2 iv2 _ _ (by omega) (by omega))
        · rw [if_neg z2] at es2
          subst es2
          simp only [jifp_z z2]
          by_cases z4 : X.2 (8 * i + 4) = 0
          · rw [if_pos z4] at es0
            subst es0
            simp only [jifp_y z4]
            exact law_call g (t_scale iv b0 b1 (Or.inr rfl) (Or.inl rfl)) (fun h2 iv2 => NX h2 iv2 _ _ (by omega) (by omega))
          · rw [if_neg z4] at es0
            subst es0
            simp only [jifp_z z4]
            exact law_call g (t_scale iv b0 b1 (Or.inr rfl) (Or.inr rfl)) (fun h2 iv2 => NX h2 iv2 _ _ (by omega) (by omega))
      simp only [jisr_f, jisr_r, r1, r2, r3, r4, r5, r6, r7]
      refine ⟨fun z2 => ⟨fun z4 => SC1 _ _ (if_pos z2).symm (if_pos z4).symm, fun z4 => SC1 _ _ (if_pos z2).symm (if_neg z4).symm⟩, fun z2 => ⟨fun z4 => SC1 _ _ (if_neg z2).symm (if_pos z4).symm, fun z4 => SC1 _ _ (if_neg z2).symm (if_neg z4).symm⟩⟩
    refine ⟨fun _ => ?_, fun _ => ?_⟩
    · simp only [jisr_f, jisr_r, r1, r2, r3, r4, r5, r6, r7]
      rw [jrc_ob ob]
      exact law_call g (t_flaw iv b0 b1) (fun h2 iv2 => NX h2 iv2 _ _ cB sB)
    refine ⟨fun _ => ?_, fun _ => ?_⟩
    · simp only [jisr_f, jisr_r, r1, r2, r3, r4, r5, r6, r7]
      rw [jrc_ob ob]
      exact law_call g (t_steps iv b0 b1) (fun h2 iv2 => NX h2 iv2 _ _ cB sB)
    refine ⟨fun _ => ?_, fun _ => ?_⟩
    · simp only [jisr_f, jisr_r, r1, r2, r3, r4, r5, r6, r7]
      rw [jrc_ob ob]
      exact law_call g (t_cut iv b0 b1) (fun h2 iv2 => NX h2 iv2 _ _ cB sB)
    refine ⟨fun _ => ?_, fun _ => ?_⟩
    · simp only [jisr_f, jisr_r, r1, r2, r3, r4, r5, r6, r7]
      rw [jrc_ob ob]
      exact law_call g (t_seen iv b0 b1) (fun h2 iv2 => NX h2 iv2 _ _ cB sB)
    refine ⟨fun _ => ?_, fun _ => ?_⟩
    · simp only [jisr_f, jisr_r, r1, r2, r3, r4, r5, r6, r7]
      rw [jrc_ob ob]
      exact law_call g (t_take iv b0 b1) (fun h2 iv2 => NX h2 iv2 _ _ cB sB)
    refine ⟨fun _ => ?_, fun _ => ?_⟩
    · simp only [jisr_f, jisr_r, r1, r2, r3, r4, r5, r6, r7]
      rw [jrc_ob ob]
      exact law_call g (t_hair iv b0 b1) (fun h2 iv2 => NX h2 iv2 _ _ cB sB)
    refine ⟨fun _ => ?_, fun _ => ?_⟩
    · simp only [jisr_f, jisr_r, r1, r2, r3, r4, r5, r6, r7]
      rw [jrc_ob ob]
      exact law_call g (t_slide iv b0 b1) (fun h2 iv2 => NX h2 iv2 _ _ cB sB)
    refine ⟨fun _ => ?_, fun _ => ?_⟩
    · simp only [jisr_f, jisr_r, r1, r2, r3, r4, r5, r6, r7]
      by_cases z : X.2 (8 * i + 1) = 0
      · simp only [jifp_y z]
        rw [jrc_ob ob]
        exact law_call g (t_index iv b0 b1) (fun h2 iv2 => NX h2 iv2 _ _ cB sB)
      · simp only [jifp_z z]
        rw [jrc_ob ob]
        exact law_call g (t_index iv b0 b1) (fun h2 iv2 => NX h2 iv2 _ _ cB sB)
    refine ⟨fun _ => ?_, fun _ => ?_⟩
    · simp only [jisr_f, jisr_r, r1, r2, r3, r4, r5, r6, r7]
      rw [jrc_ob ob]
      exact law_call g (t_look iv b0 b1) (fun h2 iv2 => NX h2 iv2 _ _ cB sB)
    refine ⟨fun _ => ?_, fun _ => ?_⟩
    · simp only [jisr_f, jisr_r, r1, r2, r3, r4, r5, r6, r7]
      rw [jrc_ob ob]
      exact law_call g (t_state iv b0 b1) (fun h2 iv2 => NX h2 iv2 _ _ cB sB)
    refine ⟨fun _ => ?_, fun _ => ?_⟩
    · simp only [jisr_r]
      rw [jrc_ob ob]
      exact law_call g (t_run iv b0 b1) (fun h2 iv2 => NX h2 iv2 _ _ cB sB)
    refine ⟨fun _ => ?_, fun _ => ?_⟩
    · simp only [jisr_r]
      rw [jrc_ob ob]
      exact law_call g (t_broke iv b0 b1) (fun h2 iv2 => NX h2 iv2 _ _ cB sB)
    refine ⟨fun _ => ?_, fun _ => ?_⟩
    · simp only [jisr_r]
      rw [jrc_ob ob]
      exact law_call g (t_where iv b0 b1) (fun h2 iv2 => NX h2 iv2 _ _ cB sB)
    refine ⟨fun _ => ?_, fun _ => ?_⟩
    · simp only [jisr_r]
      rw [jrc_ob ob]
      exact law_call g (t_moves iv b0 b1) (fun h2 iv2 => NX h2 iv2 _ _ cB sB)
    refine ⟨fun _ => ?_, fun _ => ?_⟩
    · simp only [jisr_f, jisr_r, r1, r2, r3, r4, r5, r6, r7]
      rw [jrc_ob ob]
      exact law_call g (t_value iv b0 b1) (fun h2 iv2 => NX h2 iv2 _ _ cB sB)
    refine ⟨fun _ => ?_, fun _ => ?_⟩
    · simp only [jisr_f, jisr_r, r1, r2, r3, r4, r5, r6, r7]
      by_cases z : X.2 (8 * i + 3) = 0
      · simp only [jifp_y z]
        rw [jrc_ob ob]
        exact law_call g (t_factor iv b0 b1 (Or.inl rfl)) (fun h2 iv2 => NX h2 iv2 _ _ cB sB)
      · simp only [jifp_z z]
        rw [jrc_ob ob]
        exact law_call g (t_factor iv b0 b1 (Or.inr rfl)) (fun h2 iv2 => NX h2 iv2 _ _ cB sB)
    refine ⟨fun _ => ?_, fun _ => ?_⟩
    · simp only [jisr_r]
      rw [jrc_ob ob]
      exact law_call g (t_clear iv b0 b1) (fun h2 iv2 => NX h2 iv2 _ _ cB sB)
    refine ⟨fun _ => ?_, fun _ => ?_⟩
    · simp only [jisr_f, jisr_r, r1, r2, r3, r4, r5, r6, r7]
      rw [jrc_ob ob]
      exact law_call g (t_fewest iv b0 b1) (fun h2 iv2 => NX h2 iv2 _ _ cB sB)
    refine ⟨fun _ => ?_, fun _ => ?_⟩
    · simp only [jisr_f, jisr_r, r1, r2, r3, r4, r5, r6, r7]
      rw [jrc_ob ob]
      exact law_call g (t_order iv b0 b1) (fun h2 iv2 => NX h2 iv2 _ _ cB sB)
    refine ⟨fun _ => ?_, fun _ => ?_⟩
    · simp only [jisr_f, jisr_r, r1, r2, r3, r4, r5, r6, r7]
      rw [jrc_ob ob]
      exact law_call g (t_step iv b0 b1) (fun h2 iv2 => NX h2 iv2 _ _ cB sB)
    refine ⟨fun _ => ?_, fun _ => ?_⟩
    · simp only [jisr_f, jisr_r, r1, r2, r3, r4, r5, r6, r7]
      rw [jrc_ob ob]
      exact law_call g (t_marks iv b0 b1) (fun h2 iv2 => NX h2 iv2 _ _ cB sB)
    refine ⟨fun _ => ?_, fun _ => ?_⟩
    · simp only [jisr_f, jisr_r, r1, r2, r3, r4, r5, r6, r7]
      rw [jrc_ob ob]
      exact law_call g (t_chart iv b0 b1) (fun h2 iv2 => NX h2 iv2 _ _ cB sB)
    refine ⟨fun _ => ?_, fun _ => ?_⟩
    · simp only [jisr_f, jisr_r, r1, r2, r3, r4, r5, r6, r7]
      rw [jrc_ob ob]
      exact law_call g (t_thread iv b0 b1) (fun h2 iv2 => NX h2 iv2 _ _ cB sB)
    refine ⟨fun _ => ?_, fun _ => ?_⟩
    · simp only [jisr_f, jisr_r, r1, r2, r3, r4, r5, r6, r7]
      rw [jrc_ob ob]
      exact law_call g (t_design iv b0 b1) (fun h2 iv2 => NX h2 iv2 _ _ cB sB)
    refine ⟨fun _ => ?_, fun _ => ?_⟩
    · simp only [jisr_f, jisr_r, r1, r2, r3, r4, r5, r6, r7]
      rw [jrc_ob ob]
      exact law_call g (t_shown iv b0 b1) (fun h2 iv2 => NX h2 iv2 _ _ cB sB)
    refine ⟨fun _ => ?_, fun _ => ?_⟩
    · simp only [jisr_f, jisr_r, r1, r2, r3, r4, r5, r6, r7]
      rw [jrc_ob ob]
      exact law_call g (t_strike iv b0 b1) (fun h2 iv2 => NX h2 iv2 _ _ cB sB)
    refine ⟨fun _ => ?_, fun _ => ?_⟩
    · simp only [jisr_f, jisr_r, r1, r2, r3, r4, r5, r6, r7]
      rw [jrc_ob ob]
      exact law_call g (t_guesses iv b0 b1) (fun h2 iv2 => NX h2 iv2 _ _ cB sB)
    refine ⟨fun _ => ?_, fun _ => ?_⟩
    · simp only [jisr_f, jisr_r, r1, r2, r3, r4, r5, r6, r7]
      rw [jrc_ob ob]
      exact law_call g (t_guess iv b0 b1) (fun h2 iv2 => NX h2 iv2 _ _ cB sB)
    refine ⟨fun _ => ?_, fun _ => ?_⟩
    · simp only [jisr_f, jisr_r, r1, r2, r3, r4, r5, r6, r7]
      rw [jrc_ob ob]
      exact law_call g (t_sure iv b0 b1) (fun h2 iv2 => NX h2 iv2 _ _ cB sB)
    refine ⟨fun _ => ?_, fun _ => ?_⟩
    · simp only [jisr_f, jisr_r, r1, r2, r3, r4, r5, r6, r7]
      rw [jrc_ob ob]
      exact law_call g (t_odd iv b0 b1) (fun h2 iv2 => NX h2 iv2 _ _ cB sB)
    refine ⟨fun _ => ?_, fun _ => ?_⟩
    · simp only [jisr_f, jisr_r, r1, r2, r3, r4, r5, r6, r7]
      rw [jrc_ob ob]
      exact law_call g (t_count iv b0 b1) (fun h2 iv2 => NX h2 iv2 _ _ cB sB)
    exact NX h (by
      obtain ⟨g, ⟨n, m, ρ, τ, b, f, t, fl, rb, hd, fa⟩, rest⟩ := iv
      exact ⟨g, ⟨n, m, ρ, τ, b, f, t, fl, rb, HD_mono hd, fa⟩, rest⟩) c s cB sB
end LAW
