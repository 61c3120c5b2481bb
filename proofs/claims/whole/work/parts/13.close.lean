theorem jins_invokevirtual {X : JX} {call : JCall} {M : JM} {Q : JQ} {P : JP} {i : Nat} {pc : Nat} {ls : JL} {st : List Value} {h : JH} {c s tg kk : Nat} : jins X call M Q P (.invokevirtual i) pc ls st h c s tg kk = (match jcp M.own i with
    | some e => if e.1 = 1 then match jM e.2.1 with
        | some M2 => jcv call M M2 e.2.1 st h c s fun st2 h2 c2 s2 => P (pc + 3) ls st2 h2 c2 s2
        | none => False
      else False
    | none => False) := rfl
theorem jins_invokestatic {X : JX} {call : JCall} {M : JM} {Q : JQ} {P : JP} {i : Nat} {pc : Nat} {ls : JL} {st : List Value} {h : JH} {c s tg kk : Nat} : jins X call M Q P (.invokestatic i) pc ls st h c s tg kk = (match jcp M.own i with
    | some e => if e.1 = 2 then match jM e.2.1 with
        | some M2 => jcs call M M2 e.2.1 st h c s fun st2 h2 c2 s2 => P (pc + 3) ls st2 h2 c2 s2
        | none => False
      else if e.1 = 6 then jac h st fun st2 h2 => P (pc + 3) ls st2 h2 c s else False
    | none => False) := rfl
theorem jins_invokespecial {X : JX} {call : JCall} {M : JM} {Q : JQ} {P : JP} {i : Nat} {pc : Nat} {ls : JL} {st : List Value} {h : JH} {c s tg kk : Nat} : jins X call M Q P (.invokespecial i) pc ls st h c s tg kk = (match jcp M.own i with
    | some e => if e.1 = 5 then jpV st fun v r => match v with
        | .ref _ => if jsum r ≤ 8 then P (pc + 3) ls r h c s else False
        | _ => False
      else if e.1 = 3 ∨ e.1 = 4 then match jM e.2.1 with
        | some M2 => jcv call M M2 e.2.1 st h c s fun st2 h2 c2 s2 => P (pc + 3) ls st2 h2 c2 s2
        | none => False
      else False
    | none => False) := rfl
theorem jeOK1 {own : String} {idx a b : Nat} {z : Int} (h : jeOK own idx (1, a, b, z)) : ∃ M, jM a = some M ∧ Cond.methodLink own idx M.y ∈ wsL_law ∧ Cond.instanceMethod M.y ∈ wsL_law ∧ Cond.selects M.y.cls M.y M.y ∈ wsL_law := h
theorem jeOK2 {own : String} {idx a b : Nat} {z : Int} (h : jeOK own idx (2, a, b, z)) : ∃ M, jM a = some M ∧ Cond.methodLink own idx M.y ∈ wsL_law ∧ Cond.static M.y ∈ wsL_law := h
theorem jeOK3 {own : String} {idx a b : Nat} {z : Int} (h : jeOK own idx (3, a, b, z)) : ∃ M, jM a = some M ∧ Cond.methodLink own idx M.y ∈ wsL_law ∧ Cond.instanceMethod M.y ∈ wsL_law ∧ M.y.name = "<init>" ∧ M.ret = none := h
theorem jeOK4 {own : String} {idx a b : Nat} {z : Int} (h : jeOK own idx (4, a, b, z)) : own = RX7 ∧ idx = 30 ∧ jM a = some jm_X10_init ∧ Cond.instanceMethod yX10_init ∈ wsL_law := h
theorem jeOK5 {own : String} {idx a b : Nat} {z : Int} (h : jeOK own idx (5, a, b, z)) : Cond.methodLink own idx objectInit ∈ wsL_law := h
theorem jeOK6 {own : String} {idx a b : Nat} {z : Int} (h : jeOK own idx (6, a, b, z)) : Cond.methodLink own idx arraycopyName ∈ wsL_law := h
theorem jac_of {h : JH} {st : List Value} {K : List Value → JH → Prop} (hj : jac h st K) : ∃ n dp a sp a0 rest n0 f n1 g, st = .int n :: .int dp :: .ref a :: .int sp :: .ref a0 :: rest ∧ h[a0]? = some (.inl (.int, n0, .inl f)) ∧ h[a]? = some (.inl (.int, n1, .inl g)) ∧ jsum rest ≤ 8 ∧ ¬ sp < 0 ∧ ¬ dp < 0 ∧ ¬ n < 0 ∧ sp.toNatClampNeg + n.toNatClampNeg ≤ n0 ∧ dp.toNatClampNeg + n.toNatClampNeg ≤ n1 ∧ K rest (h.set a (.inl (.int, n1, .inl (va_cpy f g sp.toNatClampNeg dp.toNatClampNeg n.toNatClampNeg)))) := by
  unfold jac at hj
  split at hj
  next n dp v sp w rest =>
    obtain ⟨q1, hj1⟩ := jif_of hj
    unfold jcpy at hj1
    split at hj1
    next a0 =>
      split at hj1
      next a =>
        split at hj1
        next n0 f h0 =>
          split at hj1
          next n1 g h1 => exact ⟨n, dp, a, sp, a0, rest, n0, f, n1, g, rfl, h0, h1, q1, hj1⟩
          next => exact hj1.elim
        next => exact hj1.elim
      next => exact hj1.elim
    next => exact hj1.elim
  next => exact hj.elim
theorem jrt_of {t : Option FieldType} {v : Value} {K : Prop} (hj : jrt t v K) : ∃ x ty, v = .int x ∧ t = some ty ∧ narrow ty (.int x) = .int x ∧ K := by
  unfold jrt at hj
  split at hj
  · split at hj
    · exact ⟨_, _, rfl, rfl, congrArg Value.int hj.1, hj.2⟩
    · exact hj.elim
  · split at hj
    · exact ⟨_, _, rfl, rfl, congrArg Value.int hj.1, hj.2⟩
    · exact hj.elim
  · split at hj
    · exact ⟨_, _, rfl, rfl, congrArg Value.int hj.1, hj.2⟩
    · exact hj.elim
  · split at hj
    · exact ⟨_, _, rfl, rfl, rfl, hj⟩
    · exact hj.elim
  · exact hj.elim
section KM
variable {p : Program} {l : Launch} {e : Env} {R : Room} {s : State} {m : MethodId} {args : Array Value} {below : List Frame} {meth : Method} {c : Code} {M : JM} {d base : Nat} {EX : Nat → Value} {D : va_G} {dA : FieldType → ClassId} {X : JX} {Qp : State → Prop} {call : JCall} {Q : JQ} {pc : Nat} {ls : JL} {st : List Value} {h : JH} {n1 n2 tg kk : Nat}
theorem knn {z : Int32} (hz : ¬ z < 0) : z.toInt = (z.toNatClampNeg : Int) := by
  have hz0 : (0 : Int) ≤ z.toInt := by simpa using Int32.le_iff_toInt_le.mp (Int32.not_lt.mp hz)
  exact (Int.toNat_of_nonneg hz0).symm
theorem k_copy (C : KC p R s m args meth c M d base EX D dA X) {idx : Nat} (hd : decode M.bytes pc = .ok (.invokestatic idx, 3)) (hm : Cond.methodLink (jcn M.own) idx arraycopyName ∈ wsL_law) (hj : jac h st fun st2 h2 => (KW p l e R s m args below meth c M base EX D dA Qp) (pc + 3) ls st2 h2 n1 n2) : (KW p l e R s m args below meth c M base EX D dA Qp) pc ls st h n1 n2 := by
  intro H locs lsl z1 z2 hw hS hr T hT Z
  obtain ⟨n, dp, a, sp, a0, rest, m0, f, m1, g, rfl, g0, g1, q1, q2, q3, q4, q5, q6, hj1⟩ := jac_of hj
  have hts := C.2.2.2.2.1
  have hK := C.2.2.2.2.2.1
  have c0 : H[base + a0]? = some (vp_cell (dA .int) (m0, .inl f)) := hw.2.1 a0 _ (kw_get g0)
  have c1 : H[base + a]? = some (vp_cell (dA .int) (m1, .inl g)) := hw.2.1 a _ (kw_get g1)
  obtain ⟨-, k0, hk0, cm0, hkk0⟩ := (hK.2 0 _ rfl).1 m0 (fun j => .int (f j))
  obtain ⟨-, k1, hk1, cm1, hkk1⟩ := (hK.2 0 _ rfl).1 m1 (fun j => .int (g j))
  obtain ⟨vm', Z', step⟩ := Z.arraycopy C.1 C.2.2.2.1 (hts _ hm) (hts _ jcopy.1) (hts _ jcopy.2.1) (hts _ jcopy.2.2) (src := base + a0) (dst := base + a) (cs := vp_cell (dA .int) (m0, .inl f)) (cd := vp_cell (dA .int) (m1, .inl g)) (srcPos := sp) (destPos := dp) (n := n) (by rw [hT]; exact c0) (by rw [hT]; exact c1)
    (fun _ h => by cases h) (fun _ h => by cases h) (fun h => by cases h) (fun h => by cases h) hk0 hk1 hkk0 hkk1 (by simp [refKind]) q2 q3 q4
    (by rw [knn q2, knn q4]; show ¬ _ > ((arrV (dA .int) m0 (fun j => .int (f j))).slots.size : Int); rw [arrV_size]; omega)
    (by rw [knn q3, knn q4]; show ¬ _ > ((arrV (dA .int) m1 (fun j => .int (g j))).slots.size : Int); rw [arrV_size]; omega)
    (fun vm₁ _ i hi => by
      have e1 : (vp_cell (dA .int) (m0, .inl f)).slots.getD (sp.toNatClampNeg + i) .null = .int (f (sp.toNatClampNeg + i)) := by
        show (arrV (dA .int) m0 (fun j => .int (f j))).slots.getD _ _ = _
        rw [Array.getD_eq_getD_getElem?, arrV_read _ _ (by omega)]
        rfl
      rw [e1]
      exact ⟨rfl, trivial⟩)
    (g := F0 m pc lsl (.int n :: .int dp :: .ref (base + a) :: .int sp :: .ref (base + a0) :: rest.map (kv base EX))) rfl (hr.1.trans C.2.2.1.symm) (rest := rest.map (kv base EX)) rfl (by rw [C.2.1]; exact hd) (by have := C.2.2.2.2.2.2.2.2.2.1.2.2.1; omega) (by
      have w1 := C.2.2.2.2.2.2.2.2.2.1.2.2.2
      have w2 := jsum_cat (base := base) C.2.2.2.2.2.2.2.2.1 rest
      have w3 : nativeFrameWords "java/lang/System" "arraycopy" 5 = 7 := by decide +kernel
      show 2 * 0 + _ + _ ≤ _
      rw [w2, w3]
      omega)
  have e1 : copied (vp_cell (dA .int) (m0, .inl f)) (vp_cell (dA .int) (m1, .inl g)) sp dp n = vp_cell (dA .int) (m1, .inl (va_cpy f g sp.toNatClampNeg dp.toNatClampNeg n.toNatClampNeg)) := va_copied (fun z => .int z) (dA .int) (dA .int) f g q5
  rw [e1] at Z' step
  have hl : base + a < H.size := (Array.getElem?_eq_some_iff.mp c1).1
  have hheap : ((T.setVm vm').setCell (base + a) (vp_cell (dA .int) (m1, .inl (va_cpy f g sp.toNatClampNeg dp.toNatClampNeg n.toNatClampNeg)))).heap = H.setIfInBounds (base + a) (vp_cell (dA .int) (m1, .inl (va_cpy f g sp.toNatClampNeg dp.toNatClampNeg n.toNatClampNeg))) := by rw [← hT]; rfl
  have oq : ∀ q : Nat, q ≠ base + a → (H.setIfInBounds (base + a) (vp_cell (dA .int) (m1, .inl (va_cpy f g sp.toNatClampNeg dp.toNatClampNeg n.toNatClampNeg))))[q]? = H[q]? := fun q hq => by simp [Array.getElem?_setIfInBounds, Ne.symm hq]
  obtain ⟨t, a1, b1⟩ := hj1 _ _ lsl z1 z2 (kwd_set hw g1 (by simp) oq (show (H.setIfInBounds (base + a) _)[base + a]? = some (vp_cell _ _) by simp only [Array.getElem?_setIfInBounds, hl, if_true]; rfl) ⟨0, rfl⟩) ⟨by simp; exact hS.1, fun q w1 w2 => by
      rw [oq q (fun e => w2 (by rw [e]; exact Nat.le_add_right _ _))]
      exact hS.2.1 q w1 w2, fun q hq => by
      rcases List.mem_append.mp hq with h | h
      · exact hS.2.2 q h
      · obtain ⟨z, -, hz⟩ := List.mem_map.mp h
        rw [← hz]
        exact Nat.le_add_right _ _⟩ hr _ hheap Z'
  exact ⟨t, step t a1, b1⟩
theorem k_invokevirtual (C : KC p R s m args meth c M d base EX D dA X) (hKS : KS l base EX D dA X d) {idx : Nat} (hd : decode M.bytes pc = .ok (.invokevirtual idx, 3)) (hj : jins X (jex X d) M Q (KW p l e R s m args below meth c M base EX D dA Qp) (.invokevirtual idx) pc ls st h n1 n2 tg kk) : (KW p l e R s m args below meth c M base EX D dA Qp) pc ls st h n1 n2 := by
  rw [jins_invokevirtual] at hj
  split at hj
  next en hen =>
    have hok := jcp_ok hen
    obtain ⟨k, a, b, z⟩ := en
    obtain ⟨hk, hj1⟩ := jif_of hj
    have hk : k = 1 := hk
    subst hk
    obtain ⟨M2, hM2, g⟩ := jeOK1 hok
    split at hj1
    next M3 hM3 =>
      have e := hM3.symm.trans hM2
      cases e
      exact kcallV C hKS hM2 hd g hj1
    next => exact hj1.elim
  next => exact hj.elim
theorem k_invokestatic (C : KC p R s m args meth c M d base EX D dA X) (hKS : KS l base EX D dA X d) {idx : Nat} (hd : decode M.bytes pc = .ok (.invokestatic idx, 3)) (hj : jins X (jex X d) M Q (KW p l e R s m args below meth c M base EX D dA Qp) (.invokestatic idx) pc ls st h n1 n2 tg kk) : (KW p l e R s m args below meth c M base EX D dA Qp) pc ls st h n1 n2 := by
  rw [jins_invokestatic] at hj
  split at hj
  next en hen =>
    have hok := jcp_ok hen
    obtain ⟨k, a, b, z⟩ := en
    by_cases hk : k = 2
    · subst hk
      rw [if_pos rfl] at hj
      obtain ⟨M2, hM2, g⟩ := jeOK2 hok
      split at hj
      next M3 hM3 =>
        have e := hM3.symm.trans hM2
        cases e
        exact kcallS C hKS hM2 hd g hj
      next => exact hj.elim
    · rw [if_neg hk] at hj
      obtain ⟨hk2, hj1⟩ := jif_of hj
      have hk2 : k = 6 := hk2
      subst hk2
      exact k_copy C hd (jeOK6 hok) hj1
  next => exact hj.elim
theorem k_invokespecial (C : KC p R s m args meth c M d base EX D dA X) (hKS : KS l base EX D dA X d) {idx : Nat} (hd : decode M.bytes pc = .ok (.invokespecial idx, 3)) (hj : jins X (jex X d) M Q (KW p l e R s m args below meth c M base EX D dA Qp) (.invokespecial idx) pc ls st h n1 n2 tg kk) : (KW p l e R s m args below meth c M base EX D dA Qp) pc ls st h n1 n2 := by
  rw [jins_invokespecial] at hj
  split at hj
  next en hen =>
    have hok := jcp_ok hen
    obtain ⟨k, a, b, z⟩ := en
    by_cases hk : k = 5
    · subst hk
      rw [if_pos rfl] at hj
      intro H locs lsl z1 z2 hw hS hr
      obtain ⟨v, r, rfl, hj1⟩ := jpV_of hj
      split at hj1
      next a1 =>
        obtain ⟨q1, hj2⟩ := jif_of hj1
        have w2 := jsum_cat (base := base) C.2.2.2.2.2.2.2.2.1 r
        have w1 := C.2.2.2.2.2.2.2.2.2.1.2.2.2
        exact W.objInit C.1 C.2.1 C.2.2.2.1 (C.2.2.2.2.1 _ (jeOK5 hok)) (C.2.2.2.2.1 _ jobj.1) (C.2.2.2.2.1 _ jobj.2) (g := F0 m pc lsl (.ref (base + a1) :: r.map (kv base EX))) rfl (hr.1.trans C.2.2.1.symm) rfl hd (by have := C.2.2.2.2.2.2.2.2.2.1.2.2.1; omega) (by show 2 * 0 + _ + _ ≤ _; rw [w2]; omega) (hj2 H locs lsl z1 z2 hw hS hr)
      next => exact hj1.elim
    · rw [if_neg hk] at hj
      obtain ⟨hk2, hj1⟩ := jif_of hj
      rcases hk2 with hk2 | hk2
      · have hk2 : k = 3 := hk2
        subst hk2
        obtain ⟨M2, hM2, g⟩ := jeOK3 hok
        split at hj1
        next M3 hM3 =>
          have e := hM3.symm.trans hM2
          cases e
          exact kcallI C hKS hM2 hd g hj1
        next => exact hj1.elim
      · have hk2 : k = 4 := hk2
        subst hk2
        obtain ⟨o1, o2, hM2, o3⟩ := jeOK4 hok
        split at hj1
        next M3 hM3 =>
          have e := hM3.symm.trans hM2
          cases e
          exact kcallIN C hKS hM2 hd ⟨o1, o2, rfl, o3⟩ hj1
        next => exact hj1.elim
  next => exact hj.elim
/-- every step of the small machine is one of the big one's -/
theorem kclose (C : KC p R s m args meth c M d base EX D dA X) (hKS : KS l base EX D dA X d) (hret : ∀ (pc : Nat) (ls : JL) (st : List Value) (h : JH) (n1 n2 : Nat) (ins : Instr) (tg kk : Nat), (ins = .ireturn ∨ ins = .lreturn ∨ ins = .areturn ∨ ins = .return_) → decode M.bytes pc = .ok (ins, 1) → jins X (jex X d) M Q (KW p l e R s m args below meth c M base EX D dA Qp) ins pc ls st h n1 n2 tg kk → (KW p l e R s m args below meth c M base EX D dA Qp) pc ls st h n1 n2)
    (hj : jst X (jex X d) M Q (KW p l e R s m args below meth c M base EX D dA Qp) pc ls st h n1 n2) : (KW p l e R s m args below meth c M base EX D dA Qp) pc ls st h n1 n2 := by
  unfold jst at hj
  split at hj
  next q hq =>
    obtain ⟨hd, ht, hl⟩ := jd_at C.2.2.2.2.2.2.2.2.2.2.2.2 hq
    obtain ⟨ins, ln, tg, kk⟩ := q
    have hd : decode M.bytes pc = .ok (ins, ln) := hd
    have ht : jtg pc ins tg = true := ht
    have hl : jln ins ln pc tg kk = true := hl
    have hj : jins X (jex X d) M Q (KW p l e R s m args below meth c M base EX D dA Qp) ins pc ls st h n1 n2 tg kk := hj
    cases ins with
    | aload_n a0 => exact k_aload_n C (by rw [hd, show ln = 1 from by simpa [jln] using hl]) hj
    | iload_n a0 => exact k_iload_n C (by rw [hd, show ln = 1 from by simpa [jln] using hl]) hj
    | lload_n a0 => exact k_lload_n C (by rw [hd, show ln = 1 from by simpa [jln] using hl]) hj
    | lconst a0 => exact k_lconst C (by rw [hd, show ln = 1 from by simpa [jln] using hl]) hj
    | aconst_null => exact k_aconst_null C (by rw [hd, show ln = 1 from by simpa [jln] using hl]) hj
    | istore_n a0 => exact k_istore_n C (by rw [hd, show ln = 1 from by simpa [jln] using hl]) hj
    | lstore_n a0 => exact k_lstore_n C (by rw [hd, show ln = 1 from by simpa [jln] using hl]) hj
    | astore_n a0 => exact k_astore_n C (by rw [hd, show ln = 1 from by simpa [jln] using hl]) hj
    | iadd => exact k_iadd C (by rw [hd, show ln = 1 from by simpa [jln] using hl]) hj
    | isub => exact k_isub C (by rw [hd, show ln = 1 from by simpa [jln] using hl]) hj
    | imul => exact k_imul C (by rw [hd, show ln = 1 from by simpa [jln] using hl]) hj
    | iand => exact k_iand C (by rw [hd, show ln = 1 from by simpa [jln] using hl]) hj
    | ior => exact k_ior C (by rw [hd, show ln = 1 from by simpa [jln] using hl]) hj
    | ixor => exact k_ixor C (by rw [hd, show ln = 1 from by simpa [jln] using hl]) hj
    | ishl => exact k_ishl C (by rw [hd, show ln = 1 from by simpa [jln] using hl]) hj
    | ishr => exact k_ishr C (by rw [hd, show ln = 1 from by simpa [jln] using hl]) hj
    | iushr => exact k_iushr C (by rw [hd, show ln = 1 from by simpa [jln] using hl]) hj
    | idiv => exact k_idiv C (by rw [hd, show ln = 1 from by simpa [jln] using hl]) hj
    | irem => exact k_irem C (by rw [hd, show ln = 1 from by simpa [jln] using hl]) hj
    | ineg => exact k_ineg C (by rw [hd, show ln = 1 from by simpa [jln] using hl]) hj
    | ladd => exact k_ladd C (by rw [hd, show ln = 1 from by simpa [jln] using hl]) hj
    | lmul => exact k_lmul C (by rw [hd, show ln = 1 from by simpa [jln] using hl]) hj
    | lor => exact k_lor C (by rw [hd, show ln = 1 from by simpa [jln] using hl]) hj
    | ldiv => exact k_ldiv C (by rw [hd, show ln = 1 from by simpa [jln] using hl]) hj
    | lshl => exact k_lshl C (by rw [hd, show ln = 1 from by simpa [jln] using hl]) hj
    | lcmp => exact k_lcmp C (by rw [hd, show ln = 1 from by simpa [jln] using hl]) hj
    | i2l => exact k_i2l C (by rw [hd, show ln = 1 from by simpa [jln] using hl]) hj
    | i2b => exact k_i2b C (by rw [hd, show ln = 1 from by simpa [jln] using hl]) hj
    | i2c => exact k_i2c C (by rw [hd, show ln = 1 from by simpa [jln] using hl]) hj
    | dup => exact k_dup C (by rw [hd, show ln = 1 from by simpa [jln] using hl]) hj
    | pop => exact k_pop C (by rw [hd, show ln = 1 from by simpa [jln] using hl]) hj
    | dup2 => exact k_dup2 C (by rw [hd, show ln = 1 from by simpa [jln] using hl]) hj
    | iaload => exact k_iaload C (by rw [hd, show ln = 1 from by simpa [jln] using hl]) hj
    | baload => exact k_baload C (by rw [hd, show ln = 1 from by simpa [jln] using hl]) hj
    | laload => exact k_laload C (by rw [hd, show ln = 1 from by simpa [jln] using hl]) hj
    | aaload => exact k_aaload C (by rw [hd, show ln = 1 from by simpa [jln] using hl]) hj
    | arraylength => exact k_arraylength C (by rw [hd, show ln = 1 from by simpa [jln] using hl]) hj
    | iastore => exact k_iastore C (by rw [hd, show ln = 1 from by simpa [jln] using hl]) hj
    | bastore => exact k_bastore C (by rw [hd, show ln = 1 from by simpa [jln] using hl]) hj
    | lastore => exact k_lastore C (by rw [hd, show ln = 1 from by simpa [jln] using hl]) hj
    | aastore => exact k_aastore C (by rw [hd, show ln = 1 from by simpa [jln] using hl]) hj
    | aload a0 => exact k_aload C (by rw [hd, show ln = 2 from by simpa [jln] using hl]) hj
    | iload a0 => exact k_iload C (by rw [hd, show ln = 2 from by simpa [jln] using hl]) hj
    | istore a0 => exact k_istore C (by rw [hd, show ln = 2 from by simpa [jln] using hl]) hj
    | astore a0 => exact k_astore C (by rw [hd, show ln = 2 from by simpa [jln] using hl]) hj
    | ldc a0 => exact k_ldc C (by rw [hd, show ln = 2 from by simpa [jln] using hl]) hj
    | newarray a0 => exact k_newarray C (by rw [hd, show ln = 2 from by simpa [jln] using hl]) hj
    | getfield a0 => exact k_getfield C (by rw [hd, show ln = 3 from by simpa [jln] using hl]) hj
    | putfield a0 => exact k_putfield C (by rw [hd, show ln = 3 from by simpa [jln] using hl]) hj
    | getstatic a0 => exact k_getstatic C (by rw [hd, show ln = 3 from by simpa [jln] using hl]) hj
    | new a0 => exact k_new C (by rw [hd, show ln = 3 from by simpa [jln] using hl]) hj
    | anewarray a0 => exact k_anewarray C (by rw [hd, show ln = 3 from by simpa [jln] using hl]) hj
    | ldc2_w a0 => exact k_ldc2_w C (by rw [hd, show ln = 3 from by simpa [jln] using hl]) hj
    | goto a => exact k_goto (of_decide_eq_true ht) C (by rw [hd, show ln = 3 from by simpa [jln] using hl]) hj
    | if_icmp a b => exact k_if_icmp (of_decide_eq_true ht) C (by rw [hd, show ln = 3 from by simpa [jln] using hl]) hj
    | ifCond a b => exact k_ifCond (of_decide_eq_true ht) C (by rw [hd, show ln = 3 from by simpa [jln] using hl]) hj
    | ifnull a => exact k_ifnull (of_decide_eq_true ht) C (by rw [hd, show ln = 3 from by simpa [jln] using hl]) hj
    | ifnonnull a => exact k_ifnonnull (of_decide_eq_true ht) C (by rw [hd, show ln = 3 from by simpa [jln] using hl]) hj
    | iinc a b => exact k_iinc (by simpa [jln] using hl) C hd hj
    | iconst a => exact k_iconst (by simp [jln] at hl; exact hl.2) C (by rw [hd, show ln = 1 from by simp [jln] at hl; exact hl.1]) hj
    | bipush a => exact k_bipush (by simp [jln] at hl; exact hl.2) C (by rw [hd, show ln = 2 from by simp [jln] at hl; exact hl.1]) hj
    | sipush a => exact k_sipush (by simp [jln] at hl; exact hl.2) C (by rw [hd, show ln = 3 from by simp [jln] at hl; exact hl.1]) hj
    | tableswitch a b c d => exact k_tableswitch C hd hj
    | lookupswitch a b => exact k_lookupswitch C hd hj
    | invokevirtual a => exact k_invokevirtual C hKS (by rw [hd, show ln = 3 from by simpa [jln] using hl]) hj
    | invokestatic a => exact k_invokestatic C hKS (by rw [hd, show ln = 3 from by simpa [jln] using hl]) hj
    | invokespecial a => exact k_invokespecial C hKS (by rw [hd, show ln = 3 from by simpa [jln] using hl]) hj
    | ireturn => exact hret _ _ _ _ _ _ _ tg kk (Or.inl rfl) (by rw [hd, show ln = 1 from by simpa [jln] using hl]) hj
    | lreturn => exact hret _ _ _ _ _ _ _ tg kk (Or.inr (Or.inl rfl)) (by rw [hd, show ln = 1 from by simpa [jln] using hl]) hj
    | areturn => exact hret _ _ _ _ _ _ _ tg kk (Or.inr (Or.inr (Or.inl rfl))) (by rw [hd, show ln = 1 from by simpa [jln] using hl]) hj
    | return_ => exact hret _ _ _ _ _ _ _ tg kk (Or.inr (Or.inr (Or.inr rfl))) (by rw [hd, show ln = 1 from by simpa [jln] using hl]) hj
    | _ => exact (show False from hj).elim
  next => exact hj.elim
theorem kretM (C : KC p R s m args meth c M d base EX D dA X) (hrt : meth.sig.returnType = M.ret) (hlk : meth.locks = false) (ins : Instr) (hi : ins = .ireturn ∨ ins = .lreturn ∨ ins = .areturn ∨ ins = .return_) (hd : decode M.bytes pc = .ok (ins, 1))
    (hj : jins X call M Q (KW p l e R s m args below meth c M base EX D dA (MQ below (kQc base EX D dA Q) args s M.mc M.ms (fun q => base ≤ q))) ins pc ls st h n1 n2 tg kk) : KW p l e R s m args below meth c M base EX D dA (MQ below (kQc base EX D dA Q) args s M.mc M.ms (fun q => base ≤ q)) pc ls st h n1 n2 := by
  intro H locs lsl z1 z2 hw hS hr
  refine W.widen z1 z2 ?_
  rcases hi with rfl | rfl | rfl | rfl
  · obtain ⟨v, r, rfl, hj1⟩ := jpV_of (show jpV st _ from hj)
    cases r with
    | cons => exact (show False from hj1).elim
    | nil =>
      obtain ⟨x, ty, rfl, e1, e2, hj2⟩ := jrt_of hj1
      exact W.zret C.1 C.2.1 (hrt.trans e1) e2 (fun t ht hW => ⟨⟨some (.int x), h, hj2, rfl, by rw [ht]; exact hw⟩, hS.F ht⟩) hS.2.2 hd hlk
  · obtain ⟨x, r, rfl, hj1⟩ := jpL_of (show jpL st _ from hj)
    cases r with
    | cons => exact (show False from hj1).elim
    | nil =>
      obtain ⟨e1, hj2⟩ := jif_of hj1
      exact W.lret C.1 C.2.1 (hrt.trans e1) (fun t ht hW => ⟨⟨some (.long x), h, hj2, rfl, by rw [ht]; exact hw⟩, hS.F ht⟩) hS.2.2 hd hlk
  · obtain ⟨v, r, rfl, hj1⟩ := jpV_of (show jpV st _ from hj)
    cases r with
    | cons => exact (show False from hj1).elim
    | nil =>
      have key : ∃ rt, M.ret = some rt ∧ ((∃ n, rt = .object n) ∨ ∃ t, rt = .array t) ∧ jisr v (Q (some v) h) := by
        have hj1 : (match M.ret with
          | some (.object _) => jisr v (Q (some v) h)
          | some (.array _) => jisr v (Q (some v) h)
          | _ => False) := hj1
        split at hj1
        next n e1 => exact ⟨_, e1, Or.inl ⟨_, rfl⟩, hj1⟩
        next n e1 => exact ⟨_, e1, Or.inr ⟨_, rfl⟩, hj1⟩
        next => exact hj1.elim
      obtain ⟨rt, e1, e2, hj2⟩ := key
      obtain ⟨g1, g2⟩ := jisr_of hj2
      exact W.aret C.1 C.2.1 (hrt.trans e1) e2 (kv_isv C.2.2.2.2.2.2.2.2.1 g1) (fun t ht hW => ⟨⟨some v, h, g2, rfl, by rw [ht]; exact hw⟩, hS.F ht⟩) hS.2.2 hd hlk
  · cases st with
    | cons => exact (show False from hj).elim
    | nil =>
      obtain ⟨e1, hj2⟩ := jif_of (show (if M.ret = none then Q none h else False) from hj)
      exact W.vret C.1 C.2.1 (hrt.trans e1) (fun t ht hW => ⟨⟨none, h, hj2, rfl, by rw [ht]; exact hw⟩, hS.F ht⟩) hS.2.2 hd hlk
end KM
theorem jsl_len {base : Nat} {EX : Nat → Value} (hE : ∀ k, kisv (EX k)) : ∀ as : List Value, (lg_sl (as.map (kv base EX))).length = (jsl as).length
  | [] => rfl
  | v :: r => by
    have ih := jsl_len (base := base) hE r
    have hc := kv_cat (base := base) hE v
    rw [List.map_cons]
    show ((if (kv base EX v).category = 2 then [Slot.val (kv base EX v), .second] else [Slot.val (kv base EX v)]) ++ lg_sl (r.map (kv base EX))).length = _
    rw [hc, List.length_append, ih]
    cases v <;> simp [jsl, Value.category] <;> omega
theorem jsl_at {base : Nat} {EX : Nat → Value} (hE : ∀ k, kisv (EX k)) : ∀ (as : List Value) (k i : Nat) (v : Value), (jsl as)[i]? = some (some v) → (k + i, kv base EX v) ∈ lv_args k (as.map (kv base EX))
  | [], _, _, _, h => by simp [jsl] at h
  | v0 :: r, k, i, v, h => by
    have ih := jsl_at (base := base) hE r
    have hc := kv_cat (base := base) hE v0
    rw [List.map_cons]
    show _ ∈ (k, kv base EX v0) :: lv_args (if (kv base EX v0).category = 2 then k + 2 else k + 1) (r.map (kv base EX))
    rw [hc]
    have one : (jsl (v0 :: r) = some v0 :: jsl r ∧ v0.category = 1) ∨ (jsl (v0 :: r) = some v0 :: none :: jsl r ∧ v0.category = 2) := by
      cases v0 <;> first | exact Or.inl ⟨rfl, rfl⟩ | exact Or.inr ⟨rfl, rfl⟩
    rcases one with ⟨e1, e2⟩ | ⟨e1, e2⟩
    · rw [e1] at h
      rw [e2, if_neg (by decide)]
      cases i with
      | zero =>
        simp at h
        subst h
        exact List.mem_cons_self
      | succ i =>
        have := ih (k + 1) i v (by simpa using h)
        rw [show k + (i + 1) = k + 1 + i by omega]
        exact List.mem_cons_of_mem _ this
    · rw [e1] at h
      rw [e2, if_pos rfl]
      match i, h with
      | 0, h =>
        simp at h
        subst h
        exact List.mem_cons_self
      | 1, h => simp at h
      | i + 2, h =>
        have := ih (k + 2) i v (by simpa using h)
        rw [show k + (i + 2) = k + 2 + i by omega]
        exact List.mem_cons_of_mem _ this
theorem krel_in {base : Nat} {EX : Nat → Value} (hE : ∀ k, kisv (EX k)) {M : JM} {as : List Value} (hlen : (jsl as).length ≤ M.maxL) :
    krel base EX ((lg_sl (as.map (kv base EX)) ++ List.replicate (M.maxL - (lg_sl (as.map (kv base EX))).length) Slot.unset).toArray) M.maxL (jent M as) := by
  have hl := lv_entry (as.map (kv base EX)) (n := M.maxL) (by rw [jsl_len hE]; exact hlen)
  refine ⟨hl.1, hl.2.1, by rw [jent, List.length_append, List.length_replicate]; omega, fun i v hv _ => ?_⟩
  have h1 : (jsl as)[i]? = some (some v) := by
    rw [jent] at hv
    rcases Nat.lt_or_ge i (jsl as).length with q | q
    · rwa [List.getElem?_append_left q] at hv
    · rw [List.getElem?_append_right q] at hv
      have := List.eq_of_mem_replicate (List.mem_of_getElem? hv)
      cases this
  have h2 := jsl_at (base := base) hE as 0 i v h1
  rw [Nat.zero_add] at h2
  exact hl.2.2 _ h2
/-- all methods -/
theorem kmet {l : Launch} {base : Nat} {EX : Nat → Value} {D : va_G} {dA : FieldType → ClassId} {X : JX} (hE : ∀ k, kisv (EX k)) : ∀ d, KS l base EX D dA X d
  | 0 => fun i M as h Q hM hj => (show False from hj).elim
  | d + 1 => fun i M as h Q hM hj => by
    have ih := kmet (l := l) (D := D) (dA := dA) (X := X) (base := base) hE d
    obtain ⟨M', hM', hlen, hev⟩ := jex_S.mp hj
    have e := hM'.symm.trans hM
    cases e
    have ho := jM_ok hM
    refine va_MetF (cc := M.bytes) (maxL := M.maxL) (ret := M.ret) ho.1 rfl ?_
    intro p e s m args below meth c s₁ B hml hv
    obtain ⟨rfl, hb0, hw, hK, hX, hAO⟩ := hv
    have hts := atoms_spec (ws := kws M) B.pre
    have C : KC p (headSpec (kws M) (krm M (d + 1))).room s m _ meth c M d base EX D dA X := ⟨B.exec, B.bytes, hml, by rw [ho.2.2.2.2.2.2.2.1]; exact findClass_of_methodNamed B.named, fun w hw => hts w (List.mem_cons_of_mem _ hw), hK, hX, hb0, hE, ⟨Nat.le_refl _, Nat.le_refl _, Nat.le_refl _, Nat.le_of_eq (by show 40 * d + 40 = 40 * (d + 1); omega)⟩, fun hi => (name_of_methodNamed B.named B.method).1.trans (ho.2.2.2.2.2.2.1 hi), hAO, ho.2.2.2.2.2.2.2.2.1⟩
    rw [lg_entry_eq]
    exact hev (KW p l e (headSpec (kws M) (krm M (d + 1))).room s m _ below meth c M base EX D dA (MQ below (kQc base EX D dA Q) _ s M.mc M.ms (fun q => base ≤ q))) (fun pc ls st h n1 n2 hh => kclose C ih (fun pc ls st h n1 n2 ins tg kk hi hd hj => kretM C B.returns B.notSynchronized ins hi hd hj) hh) s.heap [] _ (Nat.zero_le _) (Nat.zero_le _) hw va_S.rf (krel_in hE hlen)
