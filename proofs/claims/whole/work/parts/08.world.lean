/-! THE SMALL MACHINE OVER THE BIG ONE: worlds -/
def kv (base : Nat) (EX : Nat → Value) : Value → Value
  | .ref a => .ref (base + a)
  | .float b => EX b.toNat
  | .int x => .int x
  | .long x => .long x
  | .double x => .double x
  | .null => .null
  | .retAddr x => .retAddr x
def ka (base : Nat) (a : vp_A) : vp_A := (a.1, match a.2 with
  | .inr (.inr (.inr (.inr f))) => .inr (.inr (.inr (.inr fun k => (f k).map fun b => base + b)))
  | .inl f => .inl f
  | .inr (.inl f) => .inr (.inl f)
  | .inr (.inr (.inl f)) => .inr (.inr (.inl f))
  | .inr (.inr (.inr (.inl f))) => .inr (.inr (.inr (.inl f))))
def ke (base : Nat) (EX : Nat → Value) (dA : FieldType → ClassId) : JC → va_E
  | .inl a => .inl (dA a.1, ka base a.2)
  | .inr o => .inr (o.1, o.2.map (kv base EX))
def kw (base : Nat) (EX : Nat → Value) (dA : FieldType → ClassId) (h : JH) : va_W := h.mapIdx fun k c => (base + k, ke base EX dA c)
def kisv (w : Value) : Prop := w = .null ∨ ∃ a, w = .ref a
def kisr (v : Value) : Prop := v = .null ∨ (∃ a, v = .ref a) ∨ ∃ b, v = .float b
theorem kv_isv {base : Nat} {EX : Nat → Value} (hE : ∀ k, kisv (EX k)) {v : Value} (h : kisr v) : kisv (kv base EX v) := by
  rcases h with rfl | ⟨a, rfl⟩ | ⟨b, rfl⟩
  · exact Or.inl rfl
  · exact Or.inr ⟨_, rfl⟩
  · exact hE _
theorem kisv_cat {w : Value} (h : kisv w) : w.category = 1 := by
  rcases h with rfl | ⟨a, rfl⟩ <;> rfl
theorem kv_cat {base : Nat} {EX : Nat → Value} (hE : ∀ k, kisv (EX k)) (v : Value) : (kv base EX v).category = v.category := by
  cases v <;> first | rfl | exact kisv_cat (hE _)
theorem jisr_of {v : Value} {K : Prop} (h : jisr v K) : kisr v ∧ K := by
  unfold jisr at h
  split at h
  · exact ⟨Or.inr (Or.inl ⟨_, rfl⟩), h⟩
  · exact ⟨Or.inl rfl, h⟩
  · exact ⟨Or.inr (Or.inr ⟨_, rfl⟩), h⟩
  · exact h.elim
theorem kw_get {base : Nat} {EX : Nat → Value} {dA : FieldType → ClassId} {h : JH} {k : Nat} {c : JC} (hq : h[k]? = some c) : (kw base EX dA h)[k]? = some (base + k, ke base EX dA c) := by
  simp [kw, hq]
theorem kw_getI {base : Nat} {EX : Nat → Value} {dA : FieldType → ClassId} {h : JH} {k : Nat} {q : Nat × va_E} (hq : (kw base EX dA h)[k]? = some q) : q.1 = base + k ∧ k < h.length := by
  rw [kw, List.getElem?_mapIdx] at hq
  cases hc : h[k]? with
  | none => rw [hc] at hq; cases hq
  | some c =>
    rw [hc] at hq
    cases hq
    exact ⟨rfl, (List.getElem?_eq_some_iff.mp hc).1⟩
theorem kw_set {base : Nat} {EX : Nat → Value} {dA : FieldType → ClassId} {h : JH} {k : Nat} {c : JC} : (kw base EX dA h).set k (base + k, ke base EX dA c) = kw base EX dA (h.set k c) := by
  apply List.ext_getElem?
  intro i
  rw [List.getElem?_set, kw, kw, List.getElem?_mapIdx, List.getElem?_mapIdx, List.getElem?_set, List.length_mapIdx]
  by_cases hk : k = i
  · subst hk
    by_cases hl : k < h.length
    · simp [hl]
    · simp [hl]
  · simp [hk]
theorem kw_push {base : Nat} {EX : Nat → Value} {dA : FieldType → ClassId} {h : JH} {c : JC} : kw base EX dA h ++ [(base + h.length, ke base EX dA c)] = kw base EX dA (h ++ [c]) := by
  rw [kw, kw, List.mapIdx_concat]
theorem kw_D {base : Nat} {EX : Nat → Value} {dA : FieldType → ClassId} {h : JH} : va_D (fun q => base ≤ q) (kw base EX dA h) := by
  refine ⟨fun i j p q hi hj e => ?_, fun k q hk => ?_⟩
  · have h1 := (kw_getI hi).1
    have h2 := (kw_getI hj).1
    omega
  · rw [(kw_getI hk).1]
    exact Nat.le_add_right _ _
def kty : List FieldType := [.int, .long, .boolean, .byte, .object RX6, .object RX8, .object RX10]
def ktys (dA : FieldType → ClassId) : List (ClassId × FieldType) := kty.map fun t => (dA t, t)
theorem ktys_at {dA : FieldType → ClassId} {i : Nat} {t : FieldType} (h : kty[i]? = some t) : (ktys dA)[i]? = some (dA t, t) := by
  rw [ktys, List.getElem?_map, h]; rfl
/-- a row is of a kind that the claim has -/
def kok : JC → Prop
  | .inl q => ∃ i : Nat, kty[i]? = some q.1
  | .inr _ => True
/-- what stands outside: script, table, statics, texts -/
def kext (X : JX) (base : Nat) (EX : Nat → Value) (U : State) (H : Heap) : Prop :=
  (∃ b, EX 0 = .ref b ∧ va_X b X.1 X.2 U H ∧ b < base) ∧
  (∃ t, EX 1 = .ref t ∧ va_Z RX8 "STEPS" "[I" (.ref t) (fun q => base ≤ q) U H ∧ va_T .int t 7 (fun j => .int (jsteps j)) (fun q => base ≤ q) U H) ∧
  va_Z RJ0 "COMPACT_STRINGS" "Z" (.int 1) (fun q => base ≤ q) U H ∧
  va_Z RJ3 "SIOOBE_FORMATTER" "Ljava/util/function/BiFunction;" (EX 50) (fun q => base ≤ q) U H ∧
  (∃ adK adV : Nat → Nat, vk_S 11 (jtxt.map List.length) jtxt adK adV (fun q => base ≤ q) U H ∧ (∀ i, i < 11 → EX (2 + i) = .ref (adK i) ∧ EX (20 + i) = .ref (adV i)) ∧ ∀ i q, kstr[i]? = some q → vk_R RX9 q.1 q.2 (adK i) U) ∧
  va_Nw (.methodLinkNest RX7 30 yX10_init RX11) U
theorem kext_same {X : JX} {base : Nat} {EX : Nat → Value} {u U : State} {H : Heap} (hv : u.vm = U.vm) (h : kext X base EX u H) : kext X base EX U H := by
  obtain ⟨⟨b, a1, a2, a3⟩, ⟨t, b1, b2, b3⟩, c1, d1, ⟨adK, adV, e1, e2, e3⟩, f1⟩ := h
  have hal : u.vm.Alike U.vm := by rw [hv]; exact Vm.Alike.refl _
  exact ⟨⟨b, a1, va_X.moved hal a2, a3⟩, ⟨t, b1, va_Z.moved hal b2, va_T.moved hal b3⟩, va_Z.moved hal c1, va_Z.moved hal d1, ⟨adK, adV, vk_S.moved hal e1, e2, fun i q hq => vk_R.same hv.symm (e3 i q hq)⟩, va_Nw.same rfl hv f1⟩
theorem kext_warm {X : JX} {base : Nat} {EX : Nat → Value} {u U : State} {H : Heap} (hW : u.WarmedH U.vm) (h : kext X base EX u H) : kext X base EX U H := by
  obtain ⟨⟨b, a1, a2, a3⟩, ⟨t, b1, b2, b3⟩, c1, d1, ⟨adK, adV, e1, e2, e3⟩, f1⟩ := h
  have hal : u.vm.Alike U.vm := hW.alike
  exact ⟨⟨b, a1, va_X.moved hal a2, a3⟩, ⟨t, b1, va_Z.moved hal b2, va_T.moved hal b3⟩, va_Z.moved hal c1, va_Z.moved hal d1, ⟨adK, adV, vk_S.moved hal e1, e2, fun i q hq => vk_R.warm hW (e3 i q hq)⟩, va_Nw.warmM hW f1⟩
theorem kext_kept {X : JX} {base : Nat} {EX : Nat → Value} {U : State} {H H1 : Heap} (hq : ∀ a : Nat, a < H.size → ¬ base ≤ a → H1[a]? = H[a]?) (h : kext X base EX U H) : kext X base EX U H1 := by
  obtain ⟨⟨b, a1, a2, a3⟩, ⟨t, b1, b2, b3⟩, c1, d1, ⟨adK, adV, e1, e2, e3⟩, f1⟩ := h
  refine ⟨⟨b, a1, ?_, a3⟩, ⟨t, b1, va_Z.kept b2 hq, va_T.kept b3 hq⟩, va_Z.kept c1 hq, va_Z.kept d1 hq, ⟨adK, adV, vk_S.kept e1 hq, e2, e3⟩, f1⟩
  obtain ⟨scr, g1, g2⟩ := a2
  exact ⟨scr, by rw [hq b (Array.getElem?_eq_some_iff.mp g1).1 (Nat.not_le.mpr a3)]; exact g1, g2⟩
def kwd (base : Nat) (EX : Nat → Value) (D : va_G) (dA : FieldType → ClassId) (h : JH) (H : Heap) : Prop := H.size = base + h.length ∧ va_P D vwCl (kw base EX dA h) H ∧ ∀ (k : Nat) (c : JC), h[k]? = some c → kok c
def krel (base : Nat) (EX : Nat → Value) (lsl : Array Slot) (nL : Nat) (ls : JL) : Prop := lsl.size = nL ∧ lv_wf lsl ∧ ls.length = nL ∧ ∀ (i : Nat) (v : Value), ls[i]? = some (some v) → (v.category = 1 ∨ ls[i + 1]? = some none) → lsl[i]? = some (.val (kv base EX v))
/-- the pairs that the kit's rows want -/
def kprs (base : Nat) (EX : Nat → Value) (ls : JL) : List (Nat × Value) := (List.range ls.length).filterMap fun i => match ls[i]? with
  | some (some v) => if v.category = 1 ∨ ls[i + 1]? = some none then some (i, kv base EX v) else none
  | _ => none
theorem kprs_mem {base : Nat} {EX : Nat → Value} {ls : JL} {i : Nat} {w : Value} : (i, w) ∈ kprs base EX ls ↔ ∃ v, ls[i]? = some (some v) ∧ (v.category = 1 ∨ ls[i + 1]? = some none) ∧ w = kv base EX v := by
  rw [kprs, List.mem_filterMap]
  constructor
  · rintro ⟨j, hj, h⟩
    split at h
    next v hv =>
      split at h
      next hc =>
        cases h
        exact ⟨v, hv, hc, rfl⟩
      next => cases h
    next => cases h
  · rintro ⟨v, h1, h2, rfl⟩
    refine ⟨i, List.mem_range.mpr (List.getElem?_eq_some_iff.mp h1).1, ?_⟩
    rw [h1]
    simp only [h2, if_true]
theorem krel_has {base : Nat} {EX : Nat → Value} {lsl : Array Slot} {nL : Nat} {ls : JL} (h : krel base EX lsl nL ls) : lv_has lsl nL (kprs base EX ls) := by
  refine ⟨h.1, h.2.1, fun q hq => ?_⟩
  obtain ⟨i, w⟩ := q
  obtain ⟨v, h1, h2, rfl⟩ := kprs_mem.mp hq
  exact h.2.2.2 i v h1 h2
theorem krel_st1 {base : Nat} {EX : Nat → Value} (hE : ∀ k, kisv (EX k)) {lsl ls2 : Array Slot} {nL i : Nat} {ls : JL} {v : Value} (h : krel base EX lsl nL ls) (hi : i < ls.length) (hc : v.category = 1)
    (h2 : lv_has ls2 nL ((i, kv base EX v) :: (kprs base EX ls).filter (fun q => !(q.1 == i) && !(q.1 + 1 == i && q.2.category == 2)))) : krel base EX ls2 nL (ls.set i (some v)) := by
  refine ⟨h2.1, h2.2.1, by rw [List.length_set]; exact h.2.2.1, fun j w hj hw => ?_⟩
  rw [List.getElem?_set] at hj
  by_cases hji : i = j
  · subst hji
    rw [if_pos rfl, if_pos hi] at hj
    cases hj
    exact h2.2.2 _ List.mem_cons_self
  · rw [if_neg hji] at hj
    refine h2.2.2 (j, kv base EX w) (List.mem_cons_of_mem _ (List.mem_filter.mpr ⟨kprs_mem.mpr ⟨w, hj, ?_, rfl⟩, ?_⟩))
    · rcases hw with hw | hw
      · exact Or.inl hw
      · rw [List.getElem?_set] at hw
        by_cases z : i = j + 1
        · rw [if_pos z] at hw
          split at hw <;> cases hw
        · rw [if_neg z] at hw
          exact Or.inr hw
    · have e1 : (kv base EX w).category = w.category := kv_cat hE w
      have e2 : (j == i) = false := by simpa using fun e => hji e.symm
      simp only [e2, e1, Bool.not_false, Bool.true_and]
      rcases hw with hw | hw
      · simp [hw]
      · rw [List.getElem?_set] at hw
        by_cases z : i = j + 1
        · rw [if_pos z] at hw
          split at hw <;> cases hw
        · have e3 : (j + 1 == i) = false := by simpa using fun e => z e.symm
          simp [e3]
theorem krel_st2 {base : Nat} {EX : Nat → Value} (hE : ∀ k, kisv (EX k)) {lsl ls2 : Array Slot} {nL i : Nat} {ls : JL} {x : Int64} (h : krel base EX lsl nL ls) (hi : i + 1 < ls.length)
    (h2 : lv_has ls2 nL ((i, Value.long x) :: (kprs base EX ls).filter (fun q => !(q.1 == i) && (!(q.1 == i + 1) && !(q.1 + 1 == i && q.2.category == 2))))) : krel base EX ls2 nL ((ls.set i (some (.long x))).set (i + 1) none) := by
  refine ⟨h2.1, h2.2.1, by rw [List.length_set, List.length_set]; exact h.2.2.1, fun j w hj hw => ?_⟩
  rw [List.getElem?_set, List.length_set] at hj
  by_cases hj1 : i + 1 = j
  · rw [if_pos hj1] at hj
    split at hj <;> cases hj
  · rw [if_neg hj1, List.getElem?_set] at hj
    by_cases hji : i = j
    · subst hji
      rw [if_pos rfl, if_pos (by omega)] at hj
      cases hj
      exact h2.2.2 _ List.mem_cons_self
    · rw [if_neg hji] at hj
      have key : w.category = 1 ∨ (ls[j + 1]? = some none ∧ j + 1 ≠ i) := by
        rcases hw with hw | hw
        · exact Or.inl hw
        · rw [List.getElem?_set, List.length_set] at hw
          by_cases z1 : i + 1 = j + 1
          · omega
          · rw [if_neg z1, List.getElem?_set] at hw
            by_cases z2 : i = j + 1
            · rw [if_pos z2] at hw
              split at hw <;> cases hw
            · rw [if_neg z2] at hw
              exact Or.inr ⟨hw, fun e => z2 e.symm⟩
      refine h2.2.2 (j, kv base EX w) (List.mem_cons_of_mem _ (List.mem_filter.mpr ⟨kprs_mem.mpr ⟨w, hj, ?_, rfl⟩, ?_⟩))
      · rcases key with key | key
        · exact Or.inl key
        · exact Or.inr key.1
      · have e1 : (kv base EX w).category = w.category := kv_cat hE w
        have e2 : (j == i) = false := by simpa using fun e => hji e.symm
        have e4 : (j == i + 1) = false := by simpa using fun e => hj1 e.symm
        simp only [e2, e1, e4, Bool.not_false, Bool.true_and]
        rcases key with key | key
        · simp [key]
        · have e3 : (j + 1 == i) = false := by simpa using key.2
          simp [e3]
theorem jsum_cat {base : Nat} {EX : Nat → Value} (hE : ∀ k, kisv (EX k)) : ∀ l : List Value, ((l.map (kv base EX)).map fun v => v.category).sum = jsum l
  | [] => rfl
  | v :: r => by
    rw [List.map_cons, List.map_cons, List.sum_cons, jsum_cat hE r, kv_cat hE v]
    cases v <;> simp [jsum, Value.category] <;> omega
theorem jcl_at : ∀ {ci : Nat}, ci < 13 → vwCl[ci]? = some (jcn ci, jtT ci, jnf ci)
  | 0, _ => rfl
  | 1, _ => rfl
  | 2, _ => rfl
  | 3, _ => rfl
  | 4, _ => rfl
  | 5, _ => rfl
  | 6, _ => rfl
  | 7, _ => rfl
  | 8, _ => rfl
  | 9, _ => rfl
  | 10, _ => rfl
  | 11, _ => rfl
  | 12, _ => rfl
  | n + 13, h => absurd h (by omega)
theorem jcl_lt {ci : Nat} {q : vw_C} (h : vwCl[ci]? = some q) : ci < 13 := (List.getElem?_eq_some_iff.mp h).1
theorem jcl_in : ∀ {ci : Nat}, ci < 13 → ∀ w ∈ u_ws (jcn ci) (jtT ci) (jnf ci), w ∈ wsL_law
  | 0, _ => inlX0
  | 1, _ => inlX1
  | 2, _ => inlX2
  | 3, _ => inlX3
  | 4, _ => inlX4
  | 5, _ => inlX5
  | 6, _ => inlX6
  | 7, _ => inlX7
  | 8, _ => inlX8
  | 9, _ => inlX9
  | 10, _ => inlX10
  | 11, _ => inlX11
  | 12, _ => inlX12
  | n + 13, h => absurd h (by omega)
theorem jcl_ty : ∀ {ci : Nat}, ci < 13 → ∀ k, k < jnf ci → parseFieldDescriptor (jtT ci k).2.2.1 = some (jty ci k)
  | 0, _ => tyX0_ok
  | 1, _ => tyX1_ok
  | 2, _ => tyX2_ok
  | 3, _ => tyX3_ok
  | 4, _ => tyX4_ok
  | 5, _ => tyX5_ok
  | 6, _ => tyX6_ok
  | 7, _ => tyX7_ok
  | 8, _ => tyX8_ok
  | 9, _ => tyX9_ok
  | 10, _ => tyX10_ok
  | 11, _ => tyX11_ok
  | 12, _ => tyX12_ok
  | n + 13, h => absurd h (by omega)
theorem jcl_nm : ∀ {ci : Nat}, ci < 13 → ∀ a, a < jnf ci → ∀ b, b < jnf ci → a ≠ b → (jtT ci a).2.1 ≠ (jtT ci b).2.1
  | 0, _ => nmX0
  | 1, _ => nmX1
  | 2, _ => nmX2
  | 3, _ => nmX3
  | 4, _ => nmX4
  | 5, _ => nmX5
  | 6, _ => nmX6
  | 7, _ => nmX7
  | 8, _ => nmX8
  | 9, _ => nmX9
  | 10, _ => nmX10
  | 11, _ => nmX11
  | 12, _ => nmX12
  | n + 13, h => absurd h (by omega)
/-- what a method's walk stands on -/
def KC (p : Program) (R : Room) (s : State) (m : MethodId) (args : Array Value) (meth : Method) (c : Code) (M : JM) (d base : Nat) (EX : Nat → Value) (D : va_G) (dA : FieldType → ClassId) (X : JX) : Prop :=
  p.tables.exec = Jvm.exec ∧ c.code = M.bytes ∧ c.maxLocals = M.maxL ∧ s.vm.findClass (jcn M.own) = some m.cls ∧ (∀ w ∈ wsL_law, w.before args s = true) ∧ va_K D vwCl (ktys dA) s ∧ kext X base EX s s.heap ∧ base ≤ s.heap.size ∧ (∀ k, kisv (EX k)) ∧
  (M.mc ≤ R.cells ∧ M.ms ≤ R.slots ∧ d + 1 ≤ R.frames ∧ 40 * d + 40 ≤ R.locals) ∧ (M.ini = 1 → meth.name = "<init>") ∧ (va_AO RX6 s ∧ va_AO RX8 s ∧ va_AO RX10 s) ∧ jdOK M.bytes 0 M.code = true
def KW (p : Program) (l : Launch) (e : Env) (R : Room) (s : State) (m : MethodId) (args : Array Value) (below : List Frame) (meth : Method) (c : Code) (M : JM) (base : Nat) (EX : Nat → Value) (D : va_G) (dA : FieldType → ClassId) (Qp : State → Prop) : JP := fun pc ls st h n1 n2 =>
  ∀ (H : Heap) (locs : List Loc) (lsl : Array Slot), n1 ≤ M.mc → n2 ≤ M.ms → kwd base EX D dA h H → va_S (fun q => base ≤ q) s.heap H locs → krel base EX lsl M.maxL ls → W p l e R s m args below meth c H locs n1 n2 Qp (F0 m pc lsl (st.map (kv base EX)))
theorem jpI_of {st : List Value} {K : Int32 → List Value → Prop} (h : jpI st K) : ∃ x r, st = .int x :: r ∧ K x r := by
  unfold jpI at h
  split at h
  · exact ⟨_, _, rfl, h⟩
  · exact h.elim
theorem jpL_of {st : List Value} {K : Int64 → List Value → Prop} (h : jpL st K) : ∃ x r, st = .long x :: r ∧ K x r := by
  unfold jpL at h
  split at h
  · exact ⟨_, _, rfl, h⟩
  · exact h.elim
theorem jpV_of {st : List Value} {K : Value → List Value → Prop} (h : jpV st K) : ∃ x r, st = x :: r ∧ K x r := by
  unfold jpV at h
  split at h
  · exact ⟨_, _, rfl, h⟩
  · exact h.elim
theorem jldI_of {ls : JL} {i : Nat} {K : Int32 → Prop} (h : jldI ls i K) : ∃ x, ls[i]? = some (some (.int x)) ∧ K x := by
  unfold jldI at h
  split at h
  next x hx => exact ⟨x, hx, h⟩
  next => exact h.elim
theorem jldL_of {ls : JL} {i : Nat} {K : Int64 → Prop} (h : jldL ls i K) : ∃ x, ls[i]? = some (some (.long x)) ∧ ls[i + 1]? = some none ∧ K x := by
  unfold jldL at h
  split at h
  next x hx =>
    split at h
    next hn => exact ⟨x, hx, hn, h⟩
    next => exact h.elim
  next => exact h.elim
theorem jldA_of {ls : JL} {i : Nat} {K : Value → Prop} (h : jldA ls i K) : ∃ v, ls[i]? = some (some v) ∧ kisr v ∧ K v := by
  unfold jldA at h
  split at h
  next x hx => exact ⟨x, hx, jisr_of h⟩
  next => exact h.elim
theorem jif_of {c A : Prop} [Decidable c] (h : if c then A else False) : c ∧ A := by
  by_cases hc : c
  · rw [if_pos hc] at h; exact ⟨hc, h⟩
  · rw [if_neg hc] at h; exact h.elim
theorem jcat1_of {v : Value} {K : Prop} (h : jcat1 v K) : v.category = 1 ∧ K := by
  unfold jcat1 at h
  split at h <;> first | exact ⟨rfl, h⟩ | exact h.elim
theorem kisr_cat {v : Value} (h : kisr v) : v.category = 1 := by
  rcases h with rfl | ⟨a, rfl⟩ | ⟨b, rfl⟩ <;> rfl

section KS
variable {p : Program} {l : Launch} {e : Env} {R : Room} {s : State} {m : MethodId} {args : Array Value} {below : List Frame} {meth : Method} {c : Code} {H : Heap} {locs : List Loc} {cells slots : Nat} {Q : State → Prop} {cc : ByteArray} {pc : Nat} {lsl : Array Slot} {rest : List Value}
theorem kl_aload_n (hexec : p.tables.exec = Jvm.exec) (hb : c.code = cc) {k : Fin 4} {w : Value} (hw : kisv w) (hdg : decode cc pc = .ok (.aload_n k, 1)) (hl : lsl[(k : Nat)]? = some (.val w))
    (k1 : W p l e R s m args below meth c H locs cells slots Q (F0 m (pc + 1) lsl (w :: rest))) : W p l e R s m args below meth c H locs cells slots Q (F0 m pc lsl rest) := by
  rcases hw with rfl | ⟨a, rfl⟩
  · exact lv_aload_nN hexec hb hdg rfl hl k1
  · exact lv_aload_n hexec hb hdg rfl hl k1
theorem kl_aload (hexec : p.tables.exec = Jvm.exec) (hb : c.code = cc) {k : Nat} {w : Value} (hw : kisv w) (hdg : decode cc pc = .ok (.aload k, 2)) (hl : lsl[k]? = some (.val w))
    (k1 : W p l e R s m args below meth c H locs cells slots Q (F0 m (pc + 2) lsl (w :: rest))) : W p l e R s m args below meth c H locs cells slots Q (F0 m pc lsl rest) := by
  rcases hw with rfl | ⟨a, rfl⟩
  · exact lv_aloadN hexec hb hdg hl k1
  · exact lv_aload hexec hb hdg hl k1
theorem kl_astore_n (hexec : p.tables.exec = Jvm.exec) (hb : c.code = cc) {k : Fin 4} {nL : Nat} {w : Value} {lv : List (Nat × Value)} (hw : kisv w) (hdg : decode cc pc = .ok (.astore_n k, 1)) (h : lv_has lsl nL lv) (hn : (k : Nat) < nL)
    (kk : ∀ ls' : Array Slot, lv_has ls' nL (((k : Nat), w) :: lv.filter (fun q => !(q.1 == (k : Nat)) && !(q.1 + 1 == (k : Nat) && q.2.category == 2))) → W p l e R s m args below meth c H locs cells slots Q (F0 m (pc + 1) ls' rest)) : W p l e R s m args below meth c H locs cells slots Q (F0 m pc lsl (w :: rest)) := by
  rcases hw with rfl | ⟨a, rfl⟩
  · exact lv_astore_nN hexec hb hdg rfl h hn rfl kk
  · exact lv_astore_n hexec hb hdg rfl h hn rfl kk
theorem kl_astore (hexec : p.tables.exec = Jvm.exec) (hb : c.code = cc) {k : Nat} {nL : Nat} {w : Value} {lv : List (Nat × Value)} (hw : kisv w) (hdg : decode cc pc = .ok (.astore k, 2)) (h : lv_has lsl nL lv) (hn : k < nL)
    (kk : ∀ ls' : Array Slot, lv_has ls' nL ((k, w) :: lv.filter (fun q => !(q.1 == k) && !(q.1 + 1 == k && q.2.category == 2))) → W p l e R s m args below meth c H locs cells slots Q (F0 m (pc + 2) ls' rest)) : W p l e R s m args below meth c H locs cells slots Q (F0 m pc lsl (w :: rest)) := by
  rcases hw with rfl | ⟨a, rfl⟩
  · exact lv_astoreN hexec hb hdg h hn rfl kk
  · exact lv_astore hexec hb hdg h hn rfl kk
end KS
