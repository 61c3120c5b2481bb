/-! CALLS -/
def kPc (base : Nat) (EX : Nat → Value) (D : va_G) (dA : FieldType → ClassId) (X : JX) (as : List Value) (h : JH) : Array Value → State → Prop := va_Pc (as.map (kv base EX)) (fun U => base ≤ U.heap.size ∧ kwd base EX D dA h U.heap ∧ va_K D vwCl (ktys dA) U ∧ kext X base EX U U.heap ∧ (va_AO RX6 U ∧ va_AO RX8 U ∧ va_AO RX10 U))
def kQc (base : Nat) (EX : Nat → Value) (D : va_G) (dA : FieldType → ClassId) (Q : JQ) : Array Value → State → Outcome → State → Prop := fun _ st oc t => (∃ r h2, Q r h2 ∧ oc = .returned (r.map (kv base EX)) ∧ kwd base EX D dA h2 t.heap) ∧ va_F (fun q => base ≤ q) st t
def kws (M : JM) : List Cond := Cond.code M.y M.bytes M.maxL M.ret :: wsL_law
def krm (M : JM) (d : Nat) : Room := { frames := d, cells := M.mc, slots := M.ms, locals := 40 * d }
/-- every method, at depth d, does what the small machine says -/
def KS (l : Launch) (base : Nat) (EX : Nat → Value) (D : va_G) (dA : FieldType → ClassId) (X : JX) (d : Nat) : Prop :=
  ∀ (i : Nat) (M : JM) (as : List Value) (h : JH) (Q : JQ), jM i = some M → jex X d i as h Q → Met l M.y (kws M) (krm M d) (kPc base EX D dA X as h) (kQc base EX D dA Q) M.mc M.ms (fun q => base ≤ q)
theorem jGI {ws : List Cond} (h : ∀ w ∈ ws, w ∈ wsL_law) : GoodIn wsL_law ws := fun w hw => ⟨h w hw, good_of_word (List.all_eq_true.mp jgood w (h w hw))⟩
theorem kws_in {M : JM} (h : jmo M) : ∀ w ∈ kws M, w ∈ wsL_law := fun w hw => by
  rcases List.mem_cons.mp hw with rfl | hw
  · exact h.2.1
  · exact hw
theorem kPc_blind {base : Nat} {EX : Nat → Value} {D : va_G} {dA : FieldType → ClassId} {X : JX} {as : List Value} {h : JH} : FrameBlind (kPc base EX D dA X as h) := fun a U g mk q =>
  ⟨q.1, q.2.1, q.2.2.1, va_K.moved (u := U) (U := U.calling g mk a) (Vm.Alike.refl U.vm) q.2.2.2.1, kext_same (u := U) (U := U.calling g mk a) rfl q.2.2.2.2.1, va_AO.moved (u := U) (U := U.calling g mk a) (Vm.Alike.refl U.vm) q.2.2.2.2.2.1, va_AO.moved (u := U) (U := U.calling g mk a) (Vm.Alike.refl U.vm) q.2.2.2.2.2.2.1, va_AO.moved (u := U) (U := U.calling g mk a) (Vm.Alike.refl U.vm) q.2.2.2.2.2.2.2⟩
theorem jrv_of {t : Option FieldType} {r : Option Value} {K : List Value → Prop} (h : jrv t r K) : K r.toList := by
  unfold jrv at h
  split at h
  · unfold jrN at h; split at h <;> first | exact h | exact h.elim
  · unfold jrL at h; split at h <;> first | exact h | exact h.elim
  · unfold jrA at h; split at h <;> first | exact (jisr_of h).2 | exact h.elim
  · unfold jrA at h; split at h <;> first | exact (jisr_of h).2 | exact h.elim
  · unfold jrI at h; split at h <;> first | exact h | exact h.elim
theorem jrm_of {M M2 : JM} {c s : Nat} {K : Nat → Nat → Prop} (hc : c ≤ M.mc) (hs : s ≤ M.ms) (h : jrm M M2 c s K) : c + M2.mc ≤ M.mc ∧ s + M2.ms ≤ M.ms ∧ K (c + M2.mc) (s + M2.ms) := by
  unfold jrm at h
  split at h
  next hz => rw [hz.1, hz.2]; exact ⟨hc, hs, h⟩
  next => exact h
theorem jcl_of {call : JCall} {M M2 : JM} {i : Nat} {as rest : List Value} {h : JH} {c s : Nat} {K : List Value → JH → Nat → Nat → Prop} (hc : c ≤ M.mc) (hs : s ≤ M.ms) (hj : jcl call M M2 i as rest h c s K) :
    jsum rest ≤ 8 ∧ c + M2.mc ≤ M.mc ∧ s + M2.ms ≤ M.ms ∧ call i as h fun r h2 => jrv M2.ret r fun vs => K (vs ++ rest) h2 (c + M2.mc) (s + M2.ms) := by
  obtain ⟨h1, h2⟩ := jif_of hj
  obtain ⟨h3, h4, h5⟩ := jrm_of hc hs h2
  exact ⟨h1, h3, h4, h5⟩
theorem jrc_of {h : JH} {v : Value} {ci : Nat} {K : Prop} (hj : jrc h v ci K) : (∃ a fs, v = .ref a ∧ h[a]? = some (.inr (ci, fs)) ∧ K) ∨ ∃ b, v = .float b ∧ ci = 13 ∧ 2 ≤ b.toNat ∧ b.toNat < 13 ∧ K := by
  unfold jrc at hj
  split at hj
  next a =>
    split at hj
    next cj hcj =>
      obtain ⟨hc, hj1⟩ := jif_of hj
      obtain ⟨fs, hfs⟩ := jcls_of hcj
      exact Or.inl ⟨a, fs, rfl, by rw [hfs, hc], hj1⟩
    next => exact hj.elim
  next b =>
    obtain ⟨⟨h1, h2, h3⟩, hj1⟩ := jif_of hj
    exact Or.inr ⟨b, rfl, h1, h2, h3, hj1⟩
  next => exact hj.elim
theorem jcv_of {call : JCall} {M M2 : JM} {i : Nat} {st : List Value} {h : JH} {c s : Nat} {K : List Value → JH → Nat → Nat → Prop} (hj : jcv call M M2 i st h c s K) :
    ∃ v rest, st = st.take M2.np ++ v :: rest ∧ (st.take M2.np).length = M2.np ∧ jrc h v M2.own (jcl call M M2 i (v :: (st.take M2.np).reverse) rest h c s K) := by
  unfold jcv at hj
  split at hj
  next v rest hd =>
    refine ⟨v, rest, ?_, ?_, hj⟩
    · rw [← hd, List.take_append_drop]
    · rw [List.length_take]
      have : M2.np < st.length := by
        rcases Nat.lt_or_ge M2.np st.length with q | q
        · exact q
        · rw [List.drop_eq_nil_iff.mpr q] at hd; cases hd
      omega
  next => exact hj.elim
section KG
variable {p : Program} {l : Launch} {e : Env} {R : Room} {s : State} {m : MethodId} {args : Array Value} {below : List Frame} {meth : Method} {c : Code} {M : JM} {d base : Nat} {EX : Nat → Value} {D : va_G} {dA : FieldType → ClassId} {X : JX} {Qp : State → Prop} {call : JCall} {Q : JQ} {pc : Nat} {ls : JL} {st : List Value} {h : JH} {n1 n2 tg kk : Nat}
theorem kgo {H : Heap} {locs : List Loc} {lsl : Array Slot} {rest st0 : List Value} {a : Array Value} {mc ms : Nat} {Q2 : JQ} (hr : va_Run p l e R s m args below meth c H locs n1 n2 mc ms (F0 m pc lsl st0) rest (kQc base EX D dA Q2 a) (fun q => base ≤ q)) (hS : va_S (fun q => base ≤ q) s.heap H locs)
    (kk : ∀ (r : Option Value) (h2 : JH) (H1 : Heap) (locs1 : List Loc), Q2 r h2 → kwd base EX D dA h2 H1 → va_S (fun q => base ≤ q) s.heap H1 locs1 → W p l e R s m args below meth c H1 locs1 (n1 + mc) (n2 + ms) Qp (F0 m (pc + 3) lsl ((r.map (kv base EX)).toList ++ rest))) : W p l e R s m args below meth c H locs n1 n2 Qp (F0 m pc lsl st0) := by
  intro T hT X
  obtain ⟨v, st₀, t, T', L, h0, X', hL, e1, e2, ⟨⟨r, h2, hq, hv, hb⟩, hz, hk⟩, stp⟩ := hr T hT X
  have hv' : v = r.map (kv base EX) := by injection hv
  subst hv'
  rw [h0] at hz hk
  obtain ⟨t2, a1, b1⟩ := kk r h2 T'.heap (locs ++ L) hq (by rw [e1]; exact hb)
    ⟨Nat.le_trans hS.1 (by rw [e1]; exact hz), fun q h1 h2 => by rw [e1, hk q (Nat.lt_of_lt_of_le h1 hS.1) h2]; exact hS.2.1 q h1 h2, fun q hq => by
      rcases List.mem_append.mp hq with h | h
      · exact hS.2.2 q h
      · exact hL q h⟩ T' rfl X'
  exact ⟨t2, stp t2 a1, b1⟩
theorem kpre (C : KC p R s m args meth c M d base EX D dA X) {H : Heap} {locs : List Loc} (hw : kwd base EX D dA h H) (hS : va_S (fun q => base ≤ q) s.heap H locs) (as : List Value) : ∀ U : State, U.heap = H → s.WarmedH U.vm → kPc base EX D dA X as h ((as.map (kv base EX)).toArray) U := by
  intro U hU hW
  refine ⟨rfl, ?_, by rw [hU]; exact hw, va_K.moved hW.alike C.2.2.2.2.2.1, ?_, va_AO.moved hW.alike C.2.2.2.2.2.2.2.2.2.2.2.1.1, va_AO.moved hW.alike C.2.2.2.2.2.2.2.2.2.2.2.1.2.1, va_AO.moved hW.alike C.2.2.2.2.2.2.2.2.2.2.2.1.2.2⟩
  · rw [hU]; exact Nat.le_trans C.2.2.2.2.2.2.2.1 hS.1
  · rw [hU]
    exact kext_warm hW (kext_kept (fun a h1 h2 => hS.2.1 a h1 h2) C.2.2.2.2.2.2.1)
theorem kfin {H1 : Heap} {locs1 : List Loc} {lsl : Array Slot} {M2 : JM} {rest : List Value} {r : Option Value} {h2 : JH} (hr : krel base EX lsl M.maxL ls) (z1 : n1 + M2.mc ≤ M.mc) (z2 : n2 + M2.ms ≤ M.ms) (hq : jrv M2.ret r fun vs => KW p l e R s m args below meth c M base EX D dA Qp (pc + 3) ls (vs ++ rest) h2 (n1 + M2.mc) (n2 + M2.ms)) (hw : kwd base EX D dA h2 H1) (hS : va_S (fun q => base ≤ q) s.heap H1 locs1) :
    W p l e R s m args below meth c H1 locs1 (n1 + M2.mc) (n2 + M2.ms) Qp (F0 m (pc + 3) lsl ((r.map (kv base EX)).toList ++ rest.map (kv base EX))) := by
  have := jrv_of hq H1 locs1 lsl z1 z2 hw hS hr
  rw [List.map_append] at this
  cases r <;> exact this
theorem krecv (C : KC p R s m args meth c M d base EX D dA X) {H : Heap} {locs : List Loc} {M2 : JM} {v : Value} {K : Prop} (ho : jmo M2) (hw : kwd base EX D dA h H) (hS : va_S (fun q => base ≤ q) s.heap H locs) (hj : jrc h v M2.own K) : ∃ b, kv base EX v = .ref b ∧ (∃ cellB : Cell, H[b]? = some cellB ∧ cellB.vm.isStatics = false ∧ s.vm.findClass M2.y.cls = some cellB.cls) ∧ K := by
  rcases jrc_of hj with ⟨a, fs, rfl, g1, hj1⟩ | ⟨b, rfl, g1, g2, g3, hj1⟩
  · refine ⟨base + a, rfl, ?_, hj1⟩
    obtain ⟨r, h1, -⟩ := hw.2.1 a _ (kw_get g1)
    have h2 := va_recv C.2.2.2.2.2.1 hw.2.1 h1 (kw_get g1)
    have hci := jcl_lt h1
    have h3 := (jcl_at hci).symm.trans h1
    cases h3
    rw [← ho.2.2.2.2.2.2.2.1]
    exact h2
  · obtain ⟨adK, adV, e1, e2, e3⟩ := C.2.2.2.2.2.2.1.2.2.2.2.1
    have hi : b.toNat - 2 < 11 := by omega
    refine ⟨adK (b.toNat - 2), ?_, ?_, hj1⟩
    · show EX b.toNat = _
      rw [← (e2 _ hi).1]
      congr 1
      omega
    · obtain ⟨cell, f1, f2, f3, f4⟩ := (e1.1 _ hi).1.kept (fun a h1 h2 => hS.2.1 a h1 h2)
      refine ⟨cell, f1, f2, ?_⟩
      rw [← ho.2.2.2.2.2.2.2.1, g1]
      exact f3
theorem kcallV (C : KC p R s m args meth c M d base EX D dA X) (hKS : KS l base EX D dA X d) {i idx : Nat} {M2 : JM} (hM : jM i = some M2) (hd : decode M.bytes pc = .ok (.invokevirtual idx, 3)) (hm : Cond.methodLink (jcn M.own) idx M2.y ∈ wsL_law ∧ Cond.instanceMethod M2.y ∈ wsL_law ∧ Cond.selects M2.y.cls M2.y M2.y ∈ wsL_law)
    (hj : jcv (jex X d) M M2 i st h n1 n2 fun st2 h2 c2 s2 => (KW p l e R s m args below meth c M base EX D dA Qp) (pc + 3) ls st2 h2 c2 s2) : (KW p l e R s m args below meth c M base EX D dA Qp) pc ls st h n1 n2 := by
  intro H locs lsl z1 z2 hw hS hr
  have ho := jM_ok hM
  obtain ⟨v, rest, est, eln, hj1⟩ := jcv_of hj
  obtain ⟨b, ekv, hcell, hj2⟩ := krecv C ho hw hS hj1
  obtain ⟨y1, y2, y3, hj3⟩ := jcl_of z1 z2 hj2
  have hmet := hKS i M2 _ h _ hM hj3
  have hts := C.2.2.2.2.1
  have hmap : st.map (kv base EX) = (st.take M2.np).map (kv base EX) ++ .ref b :: rest.map (kv base EX) := by
    conv => lhs; rw [est]
    rw [List.map_append, List.map_cons, ekv]
  rw [hmap]
  have hargs : (v :: (st.take M2.np).reverse).map (kv base EX) = .ref b :: (st.take M2.np).reverse.map (kv base EX) := by rw [List.map_cons, ekv]
  refine kgo (D := D) (dA := dA) (Q2 := fun r h2 => jrv M2.ret r fun vs => KW p l e R s m args below meth c M base EX D dA Qp (pc + 3) ls (vs ++ rest) h2 (n1 + M2.mc) (n2 + M2.ms)) (a := (Value.ref b :: (st.take M2.np).reverse.map (kv base EX)).toArray) (mc := M2.mc) (ms := M2.ms) (rest := rest.map (kv base EX)) ?_ hS (fun r h2 H1 locs1 hq hw1 hS1 => kfin hr y2 y3 hq hw1 hS1)
  have hpre := kpre C hw hS (v :: (st.take M2.np).reverse)
  rw [hargs] at hpre
  exact va_runV (C := M2.y.cls) (b := b) (As := (st.take M2.np).reverse.map (kv base EX)) (rest := rest.map (kv base EX)) (own := jcn M.own) (Ts := wsL_law) (nL := M.maxL) ⟨C.1, C.2.1, C.2.2.1, C.2.2.2.1, hts⟩ hmet
    (cwV M2.np hts (jGI (fun w hw => by
      rcases List.mem_append.mp hw with q | q
      · simp only [List.mem_cons, List.not_mem_nil, or_false] at q
        rcases q with rfl | rfl | rfl | rfl
        · exact hm.1
        · exact hm.2.1
        · exact hm.2.2
        · exact ho.2.2.2.2.2.1
      · exact kws_in ho w q)) rfl rfl rfl ⟨rfl, ho.2.2.1, ho.2.2.2.1, ho.2.2.2.2.1⟩ ⟨C.2.2.2.2.2.2.2.2.2.1.2.2.1, by have := C.2.2.2.2.2.2.2.2.2.1.2.2.2; have := ho.2.2.2.2.2.2.2.2.2; show 8 + (M2.maxL + 11) + 40 * d ≤ R.locals; omega⟩)
    ⟨kPc_blind, hcell, hpre⟩ rfl (by rw [List.length_map, List.length_reverse]; exact eln) (hr.1.trans rfl) (show (st.take M2.np).map (kv base EX) ++ .ref b :: rest.map (kv base EX) = ((st.take M2.np).reverse.map (kv base EX)).reverse ++ .ref b :: rest.map (kv base EX) by rw [← List.map_reverse, List.reverse_reverse]) (lv_room (by rw [jsum_cat C.2.2.2.2.2.2.2.2.1]; exact y1)) hd ⟨Nat.le_trans y2 C.2.2.2.2.2.2.2.2.2.1.1, Nat.le_trans y3 C.2.2.2.2.2.2.2.2.2.1.2.1⟩
theorem kcallI (C : KC p R s m args meth c M d base EX D dA X) (hKS : KS l base EX D dA X d) {i idx : Nat} {M2 : JM} (hM : jM i = some M2) (hd : decode M.bytes pc = .ok (.invokespecial idx, 3)) (hm : Cond.methodLink (jcn M.own) idx M2.y ∈ wsL_law ∧ Cond.instanceMethod M2.y ∈ wsL_law ∧ M2.y.name = "<init>" ∧ M2.ret = none)
    (hj : jcv (jex X d) M M2 i st h n1 n2 fun st2 h2 c2 s2 => (KW p l e R s m args below meth c M base EX D dA Qp) (pc + 3) ls st2 h2 c2 s2) : (KW p l e R s m args below meth c M base EX D dA Qp) pc ls st h n1 n2 := by
  intro H locs lsl z1 z2 hw hS hr
  have ho := jM_ok hM
  obtain ⟨v, rest, est, eln, hj1⟩ := jcv_of hj
  obtain ⟨b, ekv, hcell, hj2⟩ := krecv C ho hw hS hj1
  obtain ⟨y1, y2, y3, hj3⟩ := jcl_of z1 z2 hj2
  have hmet := hKS i M2 _ h _ hM hj3
  have hts := C.2.2.2.2.1
  have hmap : st.map (kv base EX) = (st.take M2.np).map (kv base EX) ++ .ref b :: rest.map (kv base EX) := by
    conv => lhs; rw [est]
    rw [List.map_append, List.map_cons, ekv]
  rw [hmap]
  have hargs : (v :: (st.take M2.np).reverse).map (kv base EX) = .ref b :: (st.take M2.np).reverse.map (kv base EX) := by rw [List.map_cons, ekv]
  refine kgo (D := D) (dA := dA) (Q2 := fun r h2 => jrv M2.ret r fun vs => KW p l e R s m args below meth c M base EX D dA Qp (pc + 3) ls (vs ++ rest) h2 (n1 + M2.mc) (n2 + M2.ms)) (a := (Value.ref b :: (st.take M2.np).reverse.map (kv base EX)).toArray) (mc := M2.mc) (ms := M2.ms) (rest := rest.map (kv base EX)) ?_ hS (fun r h2 H1 locs1 hq hw1 hS1 => kfin hr y2 y3 hq hw1 hS1)
  have hpre := kpre C hw hS (v :: (st.take M2.np).reverse)
  rw [hargs] at hpre
  have hret : M2.ret = none := hm.2.2.2
  have hws : kws M2 = Cond.code M2.y M2.bytes M2.maxL none :: wsL_law := by rw [kws, hret]
  exact va_runI (b := b) (As := (st.take M2.np).reverse.map (kv base EX)) (rest := rest.map (kv base EX)) (own := jcn M.own) (Ts := wsL_law) (nL := M.maxL) ⟨C.1, C.2.1, C.2.2.1, C.2.2.2.1, hts⟩ hmet
    (cwI M2.np hts (jGI (kws_in ho)) hws rfl rfl (hts _ ho.2.2.2.2.2.1) (hts _ hm.1) (hts _ hm.2.1) hm.2.2.1 ⟨ho.2.2.1, ho.2.2.2.1, ho.2.2.2.2.1⟩ ⟨C.2.2.2.2.2.2.2.2.2.1.2.2.1, by have := C.2.2.2.2.2.2.2.2.2.1.2.2.2; have := ho.2.2.2.2.2.2.2.2.2; show 8 + (M2.maxL + 11) + 40 * d ≤ R.locals; omega⟩)
    ⟨kPc_blind, hpre⟩ rfl (by rw [List.length_map, List.length_reverse]; exact eln) (hr.1.trans rfl) (show (st.take M2.np).map (kv base EX) ++ .ref b :: rest.map (kv base EX) = ((st.take M2.np).reverse.map (kv base EX)).reverse ++ .ref b :: rest.map (kv base EX) by rw [← List.map_reverse, List.reverse_reverse]) (lv_room (by rw [jsum_cat C.2.2.2.2.2.2.2.2.1]; exact y1)) hd ⟨Nat.le_trans y2 C.2.2.2.2.2.2.2.2.2.1.1, Nat.le_trans y3 C.2.2.2.2.2.2.2.2.2.1.2.1⟩
theorem kcallS (C : KC p R s m args meth c M d base EX D dA X) (hKS : KS l base EX D dA X d) {i idx : Nat} {M2 : JM} (hM : jM i = some M2) (hd : decode M.bytes pc = .ok (.invokestatic idx, 3)) (hm : Cond.methodLink (jcn M.own) idx M2.y ∈ wsL_law ∧ Cond.static M2.y ∈ wsL_law)
    (hj : jcs (jex X d) M M2 i st h n1 n2 fun st2 h2 c2 s2 => (KW p l e R s m args below meth c M base EX D dA Qp) (pc + 3) ls st2 h2 c2 s2) : (KW p l e R s m args below meth c M base EX D dA Qp) pc ls st h n1 n2 := by
  intro H locs lsl z1 z2 hw hS hr
  have ho := jM_ok hM
  obtain ⟨hle, hj2⟩ := jif_of hj
  obtain ⟨y1, y2, y3, hj3⟩ := jcl_of z1 z2 hj2
  have hmet := hKS i M2 _ h _ hM hj3
  have hts := C.2.2.2.2.1
  have hmap : st.map (kv base EX) = (st.take M2.np).map (kv base EX) ++ (st.drop M2.np).map (kv base EX) := by rw [← List.map_append, List.take_append_drop]
  rw [hmap]
  refine kgo (D := D) (dA := dA) (Q2 := fun r h2 => jrv M2.ret r fun vs => KW p l e R s m args below meth c M base EX D dA Qp (pc + 3) ls (vs ++ st.drop M2.np) h2 (n1 + M2.mc) (n2 + M2.ms)) (a := ((st.take M2.np).reverse.map (kv base EX)).toArray) (mc := M2.mc) (ms := M2.ms) (rest := (st.drop M2.np).map (kv base EX)) ?_ hS (fun r h2 H1 locs1 hq hw1 hS1 => kfin hr y2 y3 hq hw1 hS1)
  have hpre := kpre C hw hS (st.take M2.np).reverse
  exact va_runS (As := (st.take M2.np).reverse.map (kv base EX)) (rest := (st.drop M2.np).map (kv base EX)) (own := jcn M.own) (Ts := wsL_law) (nL := M.maxL) ⟨C.1, C.2.1, C.2.2.1, C.2.2.2.1, hts⟩ hmet
    (va_cwS M2.np hts (jGI (fun w hw => by
      rcases List.mem_append.mp hw with q | q
      · simp only [List.mem_cons, List.not_mem_nil, or_false] at q
        rcases q with rfl | rfl | rfl
        · exact hm.1
        · exact hm.2
        · exact ho.2.2.2.2.2.1
      · exact kws_in ho w q)) rfl rfl rfl ⟨ho.2.2.1, ho.2.2.2.1, ho.2.2.2.2.1⟩ ⟨C.2.2.2.2.2.2.2.2.2.1.2.2.1, by have := C.2.2.2.2.2.2.2.2.2.1.2.2.2; have := ho.2.2.2.2.2.2.2.2.2; show 8 + (M2.maxL + 11) + 40 * d ≤ R.locals; omega⟩)
    ⟨kPc_blind, hpre⟩ rfl (by rw [List.length_map, List.length_reverse, List.length_take]; omega) (hr.1.trans rfl) (show (st.take M2.np).map (kv base EX) ++ (st.drop M2.np).map (kv base EX) = ((st.take M2.np).reverse.map (kv base EX)).reverse ++ (st.drop M2.np).map (kv base EX) by rw [← List.map_reverse, List.reverse_reverse]) (lv_room (by rw [jsum_cat C.2.2.2.2.2.2.2.2.1]; exact y1)) hd ⟨Nat.le_trans y2 C.2.2.2.2.2.2.2.2.2.1.1, Nat.le_trans y3 C.2.2.2.2.2.2.2.2.2.1.2.1⟩
theorem kcallIN (C : KC p R s m args meth c M d base EX D dA X) (hKS : KS l base EX D dA X d) {i idx : Nat} {M2 : JM} (hM : jM i = some M2) (hd : decode M.bytes pc = .ok (.invokespecial idx, 3)) (hm : jcn M.own = RX7 ∧ idx = 30 ∧ M2 = jm_X10_init ∧ Cond.instanceMethod yX10_init ∈ wsL_law)
    (hj : jcv (jex X d) M M2 i st h n1 n2 fun st2 h2 c2 s2 => (KW p l e R s m args below meth c M base EX D dA Qp) (pc + 3) ls st2 h2 c2 s2) : (KW p l e R s m args below meth c M base EX D dA Qp) pc ls st h n1 n2 := by
  intro H locs lsl z1 z2 hw hS hr
  have ho := jM_ok hM
  obtain ⟨v, rest, est, eln, hj1⟩ := jcv_of hj
  obtain ⟨b, ekv, hcell, hj2⟩ := krecv C ho hw hS hj1
  obtain ⟨y1, y2, y3, hj3⟩ := jcl_of z1 z2 hj2
  have hmet := hKS i M2 _ h _ hM hj3
  have hts := C.2.2.2.2.1
  have hmap : st.map (kv base EX) = (st.take M2.np).map (kv base EX) ++ .ref b :: rest.map (kv base EX) := by
    conv => lhs; rw [est]
    rw [List.map_append, List.map_cons, ekv]
  rw [hmap]
  have hargs : (v :: (st.take M2.np).reverse).map (kv base EX) = .ref b :: (st.take M2.np).reverse.map (kv base EX) := by rw [List.map_cons, ekv]
  refine kgo (D := D) (dA := dA) (Q2 := fun r h2 => jrv M2.ret r fun vs => KW p l e R s m args below meth c M base EX D dA Qp (pc + 3) ls (vs ++ rest) h2 (n1 + M2.mc) (n2 + M2.ms)) (a := (Value.ref b :: (st.take M2.np).reverse.map (kv base EX)).toArray) (mc := M2.mc) (ms := M2.ms) (rest := rest.map (kv base EX)) ?_ hS (fun r h2 H1 locs1 hq hw1 hS1 => kfin hr y2 y3 hq hw1 hS1)
  have hpre := kpre C hw hS (v :: (st.take M2.np).reverse)
  rw [hargs] at hpre
  obtain ⟨ho1, rfl, rfl, hin⟩ := hm
  exact va_runIN (host := RX11) (b := b) (As := (st.take (JM.np jm_X10_init)).reverse.map (kv base EX)) (rest := rest.map (kv base EX)) (own := jcn M.own) (Ts := wsL_law) (nL := M.maxL) (index := 30) ⟨C.1, C.2.1, C.2.2.1, C.2.2.2.1, hts⟩ hmet
    ⟨va_cnB 0 hts (jGI (kws_in ho)) rfl rfl rfl (by rw [ho1]; exact C.2.2.2.2.2.2.1.2.2.2.2.2) (hts _ ho.2.2.2.2.2.1) ⟨ho.2.2.1, ho.2.2.2.1, ho.2.2.2.2.1⟩ ⟨C.2.2.2.2.2.2.2.2.2.1.2.2.1, by have := C.2.2.2.2.2.2.2.2.2.1.2.2.2; show 8 + (1 + 11) + 40 * d ≤ R.locals; omega⟩, rfl, hts _ hin⟩
    ⟨kPc_blind, hpre⟩ rfl (by rw [List.length_map, List.length_reverse]; exact eln) (hr.1.trans rfl) (show (st.take jm_X10_init.np).map (kv base EX) ++ .ref b :: rest.map (kv base EX) = ((st.take jm_X10_init.np).reverse.map (kv base EX)).reverse ++ .ref b :: rest.map (kv base EX) by rw [← List.map_reverse, List.reverse_reverse]) (lv_room (by rw [jsum_cat C.2.2.2.2.2.2.2.2.1]; exact y1)) hd ⟨Nat.le_trans y2 C.2.2.2.2.2.2.2.2.2.1.1, Nat.le_trans y3 C.2.2.2.2.2.2.2.2.2.1.2.1⟩
end KG
