def R_law : String := "SlideWorksLaw"
def lw_P (b : Addr) (xs : List Int32) (args : Array Value) (s : State) : Prop := args = #[.ref b] ∧ s.IntsAt b xs ∧ xs.length ≤ 4096 ∧ (Jvm.Cond.and given_1 narrow_1).before args s = true
def lw_Q (_ : Array Value) (s : State) (o : Outcome) (t : State) : Prop := o = .returned (some (.int 1)) ∧ Framed s o t [] 600000 7302250
def lw_Z (below : List Frame) (a : Array Value) (s : State) : State → Prop := fun t => ∃ o, t.status = .running ∧ Ended t below o ∧ lw_Q a s o t
/-- the law's own end, with 1 on the stack, nothing written that was there before, its room as the claim has it -/
theorem lw_ret {p : Program} {l : Launch} {e : Env} {s : State} {m : MethodId} {below : List Frame} {meth : Method} {c : Code} {b : Nat} (hx : p.tables.exec = Jvm.exec) (hb : c.code = code) (hr : meth.sig.returnType = ret) (hlocks : meth.locks = false) {pc : Nat} {H : Heap} {ls : Array Slot} (hdg : decode code pc = .ok (.ireturn, 1)) : W p l e room_1 s m #[Value.ref b] below meth c H [] 600000 7302250 (lw_Z below #[Value.ref b] s) (F0 m pc ls [.int 1]) := by
  intro T hT X
  obtain ⟨fs, hret, hrun, hended, hW, hframe⟩ := X.leave (v := some (.int 1)) (hlocks := hlocks) (fun h => by rw [hr] at h; cases h)
  have hmeth' : T.vm.method? m = some meth := X.method'
  refine ⟨T.setFrames fs, ?_, .returned (some (.int 1)), hrun, hended, rfl, ⟨_, rfl⟩, hW, hframe⟩
  jvm_step X.here [X.here.top, hx, hb, hdg, hmeth', hr, ret, narrow_b1]
  (try refine ⟨rfl, ?_⟩); (try refine ⟨rfl, ?_⟩)
  first | (intro acts; rw [hret _ acts rfl rfl rfl]) | rw [hret _ _ rfl rfl rfl]
  exact Steps.refl _
/-- what holds at the law's entry: the machine, the code, the tables' words (any of lw_tbl by 'hts w (by decide +kernel)'), the script of L ints xs at the cell b, what the Statement gives of the start (any of its parts by flat_of_before) -/
def lw_At (p : Program) (s : State) (m : MethodId) (meth : Method) (c : Code) (b L : Nat) (xs : Nat → Int32) : Prop :=
  p.tables.exec = Jvm.exec ∧ c.code = code ∧ meth.sig.returnType = ret ∧ c.maxLocals = 4 ∧ s.vm.findClass R_law = some m.cls ∧ (∀ w ∈ lw_tbl, w.before #[Value.ref b] s = true) ∧ va_X b L xs s s.heap ∧ b < s.heap.size ∧ meth.locks = false ∧ (Jvm.Cond.and given_1 narrow_1).before #[Value.ref b] s = true
/-! THE LAW'S START -/
abbrev lflat : List Jvm.Cond := flatC (Jvm.Cond.and given_1 narrow_1)
def ltm (i : Nat) : Term := .string RX9 (kstr.getD i (0, "")).1
theorem lm_steps : ∀ j, j < 7 → Jvm.Cond.eq (.elem (.static RX8 "STEPS" "[I") (.int (Int32.ofNat j))) (.int (jsteps j)) ∈ lflat := by decide +kernel
theorem lm_steps2 : Jvm.Cond.arrayOf (.static RX8 "STEPS" "[I") .int ∈ lflat ∧ Jvm.Cond.eq (.length (.static RX8 "STEPS" "[I")) (.int 7) ∈ lflat := by decide +kernel
theorem lm_stat : Jvm.Cond.eq (.static RJ0 "COMPACT_STRINGS" "Z") (.int 1) ∈ lflat ∧ Jvm.Cond.isRef (.static RJ3 "SIOOBE_FORMATTER" "Ljava/util/function/BiFunction;") ∈ lflat := by decide +kernel
theorem lm_str1 : ∀ i, i < 11 → Jvm.Cond.exactly (ltm i) "java/lang/String" ∈ lflat := by decide +kernel
theorem lm_str2 : ∀ i, i < 11 → Jvm.Cond.eq (.field (ltm i) "java/lang/String" "coder" "B") (.int 0) ∈ lflat := by decide +kernel
theorem lm_str3 : ∀ i, i < 11 → Jvm.Cond.arrayOf (.field (ltm i) "java/lang/String" "value" "[B") .byte ∈ lflat := by decide +kernel
theorem lm_str4 : ∀ i, i < 11 → Jvm.Cond.eq (.length (.field (ltm i) "java/lang/String" "value" "[B")) (.int (Int32.ofNat ((jtxt.map List.length).getD i 0))) ∈ lflat := by decide +kernel
theorem lm_str5 : ∀ i, i < 11 → ∀ j, j < (jtxt.map List.length).getD i 0 → Jvm.Cond.eq (.elem (.field (ltm i) "java/lang/String" "value" "[B") (.int (Int32.ofNat j))) (.int ((jtxt.getD i []).getD j 0)) ∈ lflat := by decide +kernel
theorem lm_str6 : ∀ i, i < 11 → ∀ j, j < 11 → i ≠ j → (Jvm.Cond.not (Jvm.Cond.eq (ltm i) (ltm j)) ∈ lflat ∨ Jvm.Cond.not (Jvm.Cond.eq (ltm j) (ltm i)) ∈ lflat) := by decide +kernel
theorem lm_str7 : ∀ i, i < 11 → (jtxt.map List.length).getD i 0 < 2 ^ 31 := by decide
theorem lm_sR : ∀ (i : Nat) (q : Nat × String), kstr[i]? = some q → Jvm.Cond.stringRef RX9 q.1 q.2 ∈ lw_tbl
  | 0, _, h => by cases h; exact jsR0
  | 1, _, h => by cases h; exact jsR1
  | 2, _, h => by cases h; exact jsR2
  | 3, _, h => by cases h; exact jsR3
  | 4, _, h => by cases h; exact jsR4
  | 5, _, h => by cases h; exact jsR5
  | 6, _, h => by cases h; exact jsR6
  | 7, _, h => by cases h; exact jsR7
  | 8, _, h => by cases h; exact jsR8
  | 9, _, h => by cases h; exact jsR9
  | 10, _, h => by cases h; exact jsR10
  | n + 11, _, h => by simp [kstr] at h
/-- what the tables give at the start: the classes, the array classes, what stands outside -/
theorem law_known {s : State} {args : Array Value} (hts : ∀ w ∈ lw_tbl, w.before args s = true) : ∃ (D : va_G) (dA : FieldType → ClassId), va_K D vwCl (ktys dA) s := by
  have hw : ∀ w ∈ wsL_law, w.before args s = true := fun w h => hts w (wsL_law_in w h)
  have h1 : ∀ ci : Nat, ∃ q : ClassId × (Nat → Nat), ci < 13 → u_Kn s (jcn ci) (jtT ci) (jnf ci) q.1 q.2 := by
    intro ci
    by_cases hci : ci < 13
    · obtain ⟨a, b, h⟩ := u_known (n := jnf ci) hw (jcl_in hci) (hw _ (jnew_in hci).1)
      exact ⟨(a, b), fun _ => h⟩
    · exact ⟨(0, fun _ => 0), fun h => absurd h hci⟩
  obtain ⟨f, hf⟩ := Classical.axiomOfChoice h1
  have h2 : ∀ ty : FieldType, ∃ c : ClassId, ty ∈ kty → ArrOfT s c ty ∧ va_RA s c ty := by
    intro ty
    by_cases hty : ty ∈ kty
    · have prim : ∀ t : FieldType, (∀ C, t ≠ .object C) → (Jvm.Cond.arrayClass t).before args s = true → ∃ c, ArrOfT s c t ∧ va_RA s c t := by
        intro t hno hz
        obtain ⟨c, k, comp, g1, g2, g3⟩ := Cond.arrayClass_spec hz
        refine ⟨c, fun N z => ⟨(fun k h => by cases h), k, g2, comp, g3⟩, ?_⟩
        unfold va_RA
        split
        next C => exact absurd rfl (hno C)
        next => exact g1
      have objs : ∀ C : String, (Jvm.Cond.arrayOver (.object C)).before args s = true → ∃ c, ArrOfT s c (.object C) ∧ va_RA s c (.object C) := by
        intro C hz
        obtain ⟨comp, c, k, g1, g2, g3, g4, g5⟩ := Cond.arrayOver_spec hz
        exact ⟨c, fun N z => ⟨(fun k h => by cases h), k, g3, comp, g4⟩, k, comp, g3, g4, g1, g5⟩
      have : ∃ c, ArrOfT s c ty ∧ va_RA s c ty := by
        simp only [kty, List.mem_cons, List.not_mem_nil, or_false] at hty
        rcases hty with rfl | rfl | rfl | rfl | rfl | rfl | rfl
        · exact prim .int (fun _ h => by cases h) (hw _ jar_int)
        · exact prim .long (fun _ h => by cases h) (hw _ jar_long)
        · exact prim .boolean (fun _ h => by cases h) (hw _ jar_boolean)
        · exact prim .byte (fun _ h => by cases h) (hw _ jar_byte)
        · exact objs _ (hts _ jao_RX6)
        · exact objs _ (hts _ jao_RX8)
        · exact objs _ (hts _ jao_RX10)
      obtain ⟨c, hc⟩ := this
      exact ⟨c, fun _ => hc⟩
    · exact ⟨0, fun h => absurd h hty⟩
  obtain ⟨g, hg⟩ := Classical.axiomOfChoice h2
  refine ⟨(fun k => (f k).1, fun k => (f k).2), g, fun c q hq => ?_, fun k q hk => ?_⟩
  · have hci := jcl_lt hq
    have e := (jcl_at hci).symm.trans hq
    cases e
    exact hf c hci
  · rw [ktys, List.getElem?_map] at hk
    obtain ⟨t, ht, e⟩ := Option.map_eq_some_iff.mp hk
    subst e
    exact hg t (List.mem_of_getElem? ht)
theorem law_ext {s : State} {b L : Nat} {xs : Nat → Int32} (hts : ∀ w ∈ lw_tbl, w.before #[Value.ref b] s = true) (hX : va_X b L xs s s.heap) (hbl : b < s.heap.size) (hgv : (Jvm.Cond.and given_1 narrow_1).before #[Value.ref b] s = true) : ∃ EX : Nat → Value, (∀ k, kisv (EX k)) ∧ EX 0 = .ref b ∧ kext (L, xs) s.heap.size EX s s.heap := by
  have hs := flat_of_before _ hgv
  have hw : ∀ w ∈ wsL_law, w.before #[Value.ref b] s = true := fun w h => hts w (wsL_law_in w h)
  have hA : ∀ a : Nat, a < s.heap.size → ¬ (fun q : Nat => s.heap.size ≤ q) a := fun a h => Nat.not_le.mpr h
  obtain ⟨t, ht, hT⟩ := va_Tof (N := 7) (f := fun j => .int (jsteps j)) (A := fun q : Nat => s.heap.size ≤ q) (by decide) (hs _ lm_steps2.1) (va_eqt (hs _ lm_steps2.2)) (fun j hj => va_eqt (hs _ (lm_steps j hj))) hA
  have hZ1 : va_Z RX8 "STEPS" "[I" (.ref t) (fun q : Nat => s.heap.size ≤ q) s s.heap := va_Zof (hts _ jls_STEPS) (hw _ (jnew_in (ci := 8) (by decide)).2) ht hA
  have hZ2 : va_Z RJ0 "COMPACT_STRINGS" "Z" (.int 1) (fun q : Nat => s.heap.size ≤ q) s s.heap := va_Zof (hts _ jls_COMPACT_STRINGS) (hw _ (jM_ok (i := 8) rfl).2.2.2.2.2.1) (va_eqi (hs _ lm_stat.1)) hA
  have hZ3 := va_Zqof (A := fun q : Nat => s.heap.size ≤ q) (hts _ jls_SIOOBE_FORMATTER) (hw _ (jM_ok (i := 14) rfl).2.2.2.2.2.1) (hs _ lm_stat.2) hA
  obtain ⟨v0, hv0, hZ4⟩ : ∃ v0, kisv v0 ∧ va_Z RJ3 "SIOOBE_FORMATTER" "Ljava/util/function/BiFunction;" v0 (fun q : Nat => s.heap.size ≤ q) s s.heap := by
    rcases hZ3 with h | ⟨t, h⟩
    · exact ⟨.null, Or.inl rfl, h⟩
    · exact ⟨.ref t, Or.inr ⟨t, rfl⟩, h⟩
  obtain ⟨adK, adV, hV, hK⟩ := vk_Sof (N := 11) (tm := ltm) (len := jtxt.map List.length) (byt := jtxt) (A := fun q : Nat => s.heap.size ≤ q) lm_str7 (fun i hi => hs _ (lm_str1 i hi)) (fun i hi => hs _ (lm_str2 i hi)) (fun i hi => hs _ (lm_str3 i hi)) (fun i hi => hs _ (lm_str4 i hi)) (fun i hi j hj => hs _ (lm_str5 i hi j hj))
    (fun i j hi hj hij => (lm_str6 i hi j hj hij).elim (fun h => Or.inl (hs _ h)) (fun h => Or.inr (hs _ h))) hA
  refine ⟨fun k => if k = 0 then .ref b else if k = 1 then .ref t else if k < 13 then .ref (adK (k - 2)) else if 20 ≤ k ∧ k < 31 then .ref (adV (k - 20)) else if k = 50 then v0 else .null, ?_, rfl, ⟨b, rfl, hX, hbl⟩, ⟨t, rfl, hZ1, hT⟩, hZ2, hZ4, ⟨adK, adV, hV, ?_, ?_⟩, va_Nw.of rfl (hts _ jnest)⟩
  · intro k
    dsimp only
    split
    · exact Or.inr ⟨_, rfl⟩
    · split
      · exact Or.inr ⟨_, rfl⟩
      · split
        · exact Or.inr ⟨_, rfl⟩
        · split
          · exact Or.inr ⟨_, rfl⟩
          · split
            · exact hv0
            · exact Or.inl rfl
  · intro i hi
    dsimp only
    rw [if_neg (by omega), if_neg (by omega), if_pos (by omega), if_neg (by omega), if_neg (by omega), if_neg (by omega), if_pos (by omega), Nat.add_sub_cancel_left, Nat.add_sub_cancel_left]
    exact ⟨rfl, rfl⟩
  · intro i q hq
    have hi : i < 11 := (List.getElem?_eq_some_iff.mp hq).1
    refine vk_R.of (hts _ (lm_sR i q hq)) ?_
    have := hK i hi
    unfold ltm at this
    rw [List.getD_eq_getElem?_getD, hq] at this
    exact this
/-- the law, by the small machine (the rest of the parts prove it) -/
def jlawQ : JQ := fun r _ => r = some (.int 1)
theorem whole_of (jlaw : ∀ X : JX, X.1 ≤ 4096 → jev X (jex X 10) jm_L_law jlawQ 0 (jent jm_L_law [.float 0]) [] [] 0 0) {p : Program} {e : Env} {s : State} {m : MethodId} {below : List Frame} {meth : Method} {c : Code} (l : Launch) {b L : Nat} {xs : Nat → Int32} (hL : L ≤ 4096) (C0 : lw_At p s m meth c b L xs) : W p l e room_1 s m #[Value.ref b] below meth c s.heap [] 0 0 (lw_Z below #[Value.ref b] s) (entryFrame m ([Value.ref b] : List Value).toArray 4) := by
  obtain ⟨hx, hb, hr, hml, hown, hts, hX, hbl, hlocks, hgv⟩ := id C0
  obtain ⟨EX, hE, h0, hext⟩ := law_ext hts hX hbl hgv
  obtain ⟨D, dA, hK⟩ := law_known hts
  have C : KC p room_1 s m #[Value.ref b] meth c jm_L_law 10 s.heap.size EX D dA (L, xs) := ⟨hx, hb, hml, hown, fun w h => hts w (wsL_law_in w h), hK, hext, Nat.le_refl _, hE, ⟨Nat.le_refl _, Nat.le_refl _, Nat.le_refl _, Nat.le_of_ble_eq_true rfl⟩, fun h => absurd h (by decide), ⟨va_AO.of (hts _ jao_RX6), va_AO.of (hts _ jao_RX8), va_AO.of (hts _ jao_RX10)⟩, jd_L_law⟩
  rw [lg_entry_eq]
  have hkr := krel_in (base := s.heap.size) hE (M := jm_L_law) (as := [.float 0]) (Nat.le_of_ble_eq_true rfl)
  have hem : ([Value.float 0].map (kv s.heap.size EX)) = [Value.ref b] := by
    show [EX (0 : UInt32).toNat] = _
    rw [show (0 : UInt32).toNat = 0 from rfl, h0]
  rw [hem] at hkr
  refine jlaw (L, xs) hL (KW p l e room_1 s m #[Value.ref b] below meth c jm_L_law s.heap.size EX D dA (lw_Z below #[Value.ref b] s)) (fun pc ls st h n1 n2 hh => kclose C (kmet hE 10) (fun pc ls st h n1 n2 ins tg kk hi hd hj => ?_) hh) s.heap [] _ (Nat.zero_le _) (Nat.zero_le _) ⟨rfl, fun k q h => by simp [kw] at h, fun k c h => by simp at h⟩ va_S.rf hkr
  intro H locs lsl z1 z2 hw hS hr2
  rcases hi with rfl | rfl | rfl | rfl
  · obtain ⟨v, r, rfl, hj1⟩ := jpV_of (show jpV st _ from hj)
    cases r with
    | cons => exact (show False from hj1).elim
    | nil =>
      obtain ⟨x, ty, rfl, e1, e2, hj2⟩ := jrt_of hj1
      have hx1 : x = 1 := by
        have : some (Value.int x) = some (Value.int 1) := hj2
        exact Value.int.inj (Option.some.inj this)
      subst hx1
      refine va_forget (fun q hq => hS.2.2 q hq) ?_
      refine W.widen z1 z2 ?_
      exact lw_ret hx hb hr hlocks hd
  · obtain ⟨x, r, rfl, hj1⟩ := jpL_of (show jpL st _ from hj)
    cases r with
    | cons => exact (show False from hj1).elim
    | nil => exact absurd (jif_of hj1).1 (by decide)
  · obtain ⟨v, r, rfl, hj1⟩ := jpV_of (show jpV st _ from hj)
    cases r with
    | cons => exact (show False from hj1).elim
    | nil => exact (show False from hj1).elim
  · cases st with
    | cons => exact (show False from hj).elim
    | nil => exact absurd (jif_of (show (if jm_L_law.ret = none then jlawQ none h else False) from hj)).1 (by decide)
