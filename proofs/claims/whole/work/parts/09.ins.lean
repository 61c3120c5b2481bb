section KI
variable {p : Program} {l : Launch} {e : Env} {R : Room} {s : State} {m : MethodId} {args : Array Value} {below : List Frame} {meth : Method} {c : Code} {M : JM} {d base : Nat} {EX : Nat → Value} {D : va_G} {dA : FieldType → ClassId} {X : JX} {Qp : State → Prop} {call : JCall} {Q : JQ} {pc : Nat} {ls : JL} {st : List Value} {h : JH} {n1 n2 tg kk : Nat}
theorem k_aload_n {n : Fin 4} (C : KC p R s m args meth c M d base EX D dA X) (hd : decode M.bytes pc = .ok (.aload_n n, 1)) (hj : jins X call M Q (KW p l e R s m args below meth c M base EX D dA Qp) (.aload_n n) pc ls st h n1 n2 tg kk) : (KW p l e R s m args below meth c M base EX D dA Qp) pc ls st h n1 n2 := by
  intro H locs lsl z1 z2 hw hS hr
  unfold jins at hj
  obtain ⟨v, hv, hi, hj1⟩ := jldA_of hj
  exact kl_aload_n C.1 C.2.1 (kv_isv C.2.2.2.2.2.2.2.2.1 hi) hd (hr.2.2.2 _ _ hv (Or.inl (kisr_cat hi))) (hj1 H locs lsl z1 z2 hw hS hr)
theorem k_aload {n : Nat} (C : KC p R s m args meth c M d base EX D dA X) (hd : decode M.bytes pc = .ok (.aload n, 2)) (hj : jins X call M Q (KW p l e R s m args below meth c M base EX D dA Qp) (.aload n) pc ls st h n1 n2 tg kk) : (KW p l e R s m args below meth c M base EX D dA Qp) pc ls st h n1 n2 := by
  intro H locs lsl z1 z2 hw hS hr
  unfold jins at hj
  obtain ⟨v, hv, hi, hj1⟩ := jldA_of hj
  exact kl_aload C.1 C.2.1 (kv_isv C.2.2.2.2.2.2.2.2.1 hi) hd (hr.2.2.2 _ _ hv (Or.inl (kisr_cat hi))) (hj1 H locs lsl z1 z2 hw hS hr)
theorem k_iload_n {n : Fin 4} (C : KC p R s m args meth c M d base EX D dA X) (hd : decode M.bytes pc = .ok (.iload_n n, 1)) (hj : jins X call M Q (KW p l e R s m args below meth c M base EX D dA Qp) (.iload_n n) pc ls st h n1 n2 tg kk) : (KW p l e R s m args below meth c M base EX D dA Qp) pc ls st h n1 n2 := by
  intro H locs lsl z1 z2 hw hS hr
  unfold jins at hj
  obtain ⟨x, hv, hj1⟩ := jldI_of hj
  exact lv_iload_n C.1 C.2.1 hd rfl (hr.2.2.2 _ _ hv (Or.inl rfl)) (hj1 H locs lsl z1 z2 hw hS hr)
theorem k_iload {n : Nat} (C : KC p R s m args meth c M d base EX D dA X) (hd : decode M.bytes pc = .ok (.iload n, 2)) (hj : jins X call M Q (KW p l e R s m args below meth c M base EX D dA Qp) (.iload n) pc ls st h n1 n2 tg kk) : (KW p l e R s m args below meth c M base EX D dA Qp) pc ls st h n1 n2 := by
  intro H locs lsl z1 z2 hw hS hr
  unfold jins at hj
  obtain ⟨x, hv, hj1⟩ := jldI_of hj
  exact lv_iload C.1 C.2.1 hd (hr.2.2.2 _ _ hv (Or.inl rfl)) (hj1 H locs lsl z1 z2 hw hS hr)
theorem k_lload_n {n : Fin 4} (C : KC p R s m args meth c M d base EX D dA X) (hd : decode M.bytes pc = .ok (.lload_n n, 1)) (hj : jins X call M Q (KW p l e R s m args below meth c M base EX D dA Qp) (.lload_n n) pc ls st h n1 n2 tg kk) : (KW p l e R s m args below meth c M base EX D dA Qp) pc ls st h n1 n2 := by
  intro H locs lsl z1 z2 hw hS hr
  unfold jins at hj
  obtain ⟨x, hv, hn, hj1⟩ := jldL_of hj
  exact lv_lload_n C.1 C.2.1 hd rfl (hr.2.2.2 _ _ hv (Or.inr hn)) (hj1 H locs lsl z1 z2 hw hS hr)
theorem k_lconst {n : Fin 2} (C : KC p R s m args meth c M d base EX D dA X) (hd : decode M.bytes pc = .ok (.lconst n, 1)) (hj : jins X call M Q (KW p l e R s m args below meth c M base EX D dA Qp) (.lconst n) pc ls st h n1 n2 tg kk) : (KW p l e R s m args below meth c M base EX D dA Qp) pc ls st h n1 n2 := by
  intro H locs lsl z1 z2 hw hS hr
  unfold jins at hj
  exact lv_lconst C.1 C.2.1 hd rfl (hj H locs lsl z1 z2 hw hS hr)
theorem k_iconst {n : Int} (hk : Int32.ofInt n = jcon n kk) (C : KC p R s m args meth c M d base EX D dA X) (hd : decode M.bytes pc = .ok (.iconst n, 1)) (hj : jins X call M Q (KW p l e R s m args below meth c M base EX D dA Qp) (.iconst n) pc ls st h n1 n2 tg kk) : (KW p l e R s m args below meth c M base EX D dA Qp) pc ls st h n1 n2 := by
  intro H locs lsl z1 z2 hw hS hr
  unfold jins at hj
  exact lv_iconst C.1 C.2.1 hd hk (hj H locs lsl z1 z2 hw hS hr)
theorem k_bipush {n : Int} (hk : (Int8.ofInt n).toInt32 = jcon n kk) (C : KC p R s m args meth c M d base EX D dA X) (hd : decode M.bytes pc = .ok (.bipush n, 2)) (hj : jins X call M Q (KW p l e R s m args below meth c M base EX D dA Qp) (.bipush n) pc ls st h n1 n2 tg kk) : (KW p l e R s m args below meth c M base EX D dA Qp) pc ls st h n1 n2 := by
  intro H locs lsl z1 z2 hw hS hr
  unfold jins at hj
  exact lv_bipush C.1 C.2.1 hd hk (hj H locs lsl z1 z2 hw hS hr)
theorem k_sipush {n : Int} (hk : (Int16.ofInt n).toInt32 = jcon n kk) (C : KC p R s m args meth c M d base EX D dA X) (hd : decode M.bytes pc = .ok (.sipush n, 3)) (hj : jins X call M Q (KW p l e R s m args below meth c M base EX D dA Qp) (.sipush n) pc ls st h n1 n2 tg kk) : (KW p l e R s m args below meth c M base EX D dA Qp) pc ls st h n1 n2 := by
  intro H locs lsl z1 z2 hw hS hr
  unfold jins at hj
  exact lv_sipush C.1 C.2.1 hd hk (hj H locs lsl z1 z2 hw hS hr)
theorem k_aconst_null (C : KC p R s m args meth c M d base EX D dA X) (hd : decode M.bytes pc = .ok (.aconst_null, 1)) (hj : jins X call M Q (KW p l e R s m args below meth c M base EX D dA Qp) (.aconst_null) pc ls st h n1 n2 tg kk) : (KW p l e R s m args below meth c M base EX D dA Qp) pc ls st h n1 n2 := by
  intro H locs lsl z1 z2 hw hS hr
  unfold jins at hj
  exact lv_null C.1 C.2.1 hd (hj H locs lsl z1 z2 hw hS hr)
theorem k_istore_n {n : Fin 4} (C : KC p R s m args meth c M d base EX D dA X) (hd : decode M.bytes pc = .ok (.istore_n n, 1)) (hj : jins X call M Q (KW p l e R s m args below meth c M base EX D dA Qp) (.istore_n n) pc ls st h n1 n2 tg kk) : (KW p l e R s m args below meth c M base EX D dA Qp) pc ls st h n1 n2 := by
  intro H locs lsl z1 z2 hw hS hr
  unfold jins at hj
  obtain ⟨x, r, rfl, hj1⟩ := jpI_of hj
  obtain ⟨hl, hj2⟩ := jif_of hj1
  exact lv_istore_n C.1 C.2.1 hd rfl (krel_has hr) (hr.2.2.1 ▸ hl) rfl (fun ls2 h2 => hj2 H locs ls2 z1 z2 hw hS (krel_st1 C.2.2.2.2.2.2.2.2.1 (v := .int x) hr hl rfl h2))
theorem k_istore {n : Nat} (C : KC p R s m args meth c M d base EX D dA X) (hd : decode M.bytes pc = .ok (.istore n, 2)) (hj : jins X call M Q (KW p l e R s m args below meth c M base EX D dA Qp) (.istore n) pc ls st h n1 n2 tg kk) : (KW p l e R s m args below meth c M base EX D dA Qp) pc ls st h n1 n2 := by
  intro H locs lsl z1 z2 hw hS hr
  unfold jins at hj
  obtain ⟨x, r, rfl, hj1⟩ := jpI_of hj
  obtain ⟨hl, hj2⟩ := jif_of hj1
  exact lv_istore C.1 C.2.1 hd (krel_has hr) (hr.2.2.1 ▸ hl) rfl (fun ls2 h2 => hj2 H locs ls2 z1 z2 hw hS (krel_st1 C.2.2.2.2.2.2.2.2.1 (v := .int x) hr hl rfl h2))
theorem k_lstore_n {n : Fin 4} (C : KC p R s m args meth c M d base EX D dA X) (hd : decode M.bytes pc = .ok (.lstore_n n, 1)) (hj : jins X call M Q (KW p l e R s m args below meth c M base EX D dA Qp) (.lstore_n n) pc ls st h n1 n2 tg kk) : (KW p l e R s m args below meth c M base EX D dA Qp) pc ls st h n1 n2 := by
  intro H locs lsl z1 z2 hw hS hr
  unfold jins at hj
  obtain ⟨x, r, rfl, hj1⟩ := jpL_of hj
  obtain ⟨hl, hj2⟩ := jif_of hj1
  exact lv_lstore_n C.1 C.2.1 hd rfl (krel_has hr) (hr.2.2.1 ▸ hl) rfl (fun ls2 h2 => hj2 H locs ls2 z1 z2 hw hS (krel_st2 C.2.2.2.2.2.2.2.2.1 hr hl h2))
theorem k_astore_n {n : Fin 4} (C : KC p R s m args meth c M d base EX D dA X) (hd : decode M.bytes pc = .ok (.astore_n n, 1)) (hj : jins X call M Q (KW p l e R s m args below meth c M base EX D dA Qp) (.astore_n n) pc ls st h n1 n2 tg kk) : (KW p l e R s m args below meth c M base EX D dA Qp) pc ls st h n1 n2 := by
  intro H locs lsl z1 z2 hw hS hr
  unfold jins at hj
  obtain ⟨v, r, rfl, hj1⟩ := jpV_of hj
  obtain ⟨hi, hj2⟩ := jisr_of hj1
  obtain ⟨hl, hj3⟩ := jif_of hj2
  exact kl_astore_n C.1 C.2.1 (kv_isv C.2.2.2.2.2.2.2.2.1 hi) hd (krel_has hr) (hr.2.2.1 ▸ hl) (fun ls2 h2 => hj3 H locs ls2 z1 z2 hw hS (krel_st1 C.2.2.2.2.2.2.2.2.1 hr hl (kisr_cat hi) h2))
theorem k_astore {n : Nat} (C : KC p R s m args meth c M d base EX D dA X) (hd : decode M.bytes pc = .ok (.astore n, 2)) (hj : jins X call M Q (KW p l e R s m args below meth c M base EX D dA Qp) (.astore n) pc ls st h n1 n2 tg kk) : (KW p l e R s m args below meth c M base EX D dA Qp) pc ls st h n1 n2 := by
  intro H locs lsl z1 z2 hw hS hr
  unfold jins at hj
  obtain ⟨v, r, rfl, hj1⟩ := jpV_of hj
  obtain ⟨hi, hj2⟩ := jisr_of hj1
  obtain ⟨hl, hj3⟩ := jif_of hj2
  exact kl_astore C.1 C.2.1 (kv_isv C.2.2.2.2.2.2.2.2.1 hi) hd (krel_has hr) (hr.2.2.1 ▸ hl) (fun ls2 h2 => hj3 H locs ls2 z1 z2 hw hS (krel_st1 C.2.2.2.2.2.2.2.2.1 hr hl (kisr_cat hi) h2))
theorem k_iinc {n : Nat} {k : Int} {len : Nat} (hln : (len = 3 ∨ len = 6) ∧ tg = pc + len ∧ Int32.ofInt k = jcon k kk) (C : KC p R s m args meth c M d base EX D dA X) (hd : decode M.bytes pc = .ok (.iinc n k, len)) (hj : jins X call M Q (KW p l e R s m args below meth c M base EX D dA Qp) (.iinc n k) pc ls st h n1 n2 tg kk) : (KW p l e R s m args below meth c M base EX D dA Qp) pc ls st h n1 n2 := by
  intro H locs lsl z1 z2 hw hS hr
  unfold jins at hj
  obtain ⟨x, hv, hj1⟩ := jldI_of hj
  obtain ⟨hl, hj2⟩ := jif_of hj1
  obtain ⟨t, ht⟩ := List.getElem?_of_mem (kprs_mem.mpr ⟨_, hv, Or.inl rfl, rfl⟩ : (n, kv base EX (.int x)) ∈ kprs base EX ls)
  obtain ⟨hln1, rfl, hk⟩ := hln
  rw [← hk] at hj2
  rcases hln1 with rfl | rfl
  · exact lv_iinc C.1 C.2.1 hd (krel_has hr) ht rfl (hr.2.2.1 ▸ hl) rfl (fun ls2 h2 => hj2 H locs ls2 z1 z2 hw hS (krel_st1 C.2.2.2.2.2.2.2.2.1 (v := .int (x + Int32.ofInt k)) hr hl rfl h2))
  · exact lv_iincW C.1 C.2.1 hd (krel_has hr) ht rfl (hr.2.2.1 ▸ hl) rfl (fun ls2 h2 => hj2 H locs ls2 z1 z2 hw hS (krel_st1 C.2.2.2.2.2.2.2.2.1 (v := .int (x + Int32.ofInt k)) hr hl rfl h2))
theorem k_iadd (C : KC p R s m args meth c M d base EX D dA X) (hd : decode M.bytes pc = .ok (.iadd, 1)) (hj : jins X call M Q (KW p l e R s m args below meth c M base EX D dA Qp) (.iadd) pc ls st h n1 n2 tg kk) : (KW p l e R s m args below meth c M base EX D dA Qp) pc ls st h n1 n2 := by
  intro H locs lsl z1 z2 hw hS hr
  unfold jins at hj
  obtain ⟨y, r, rfl, hj1⟩ := jpI_of hj
  obtain ⟨x, r, rfl, hj2⟩ := jpI_of hj1
  exact lv_iadd C.1 C.2.1 hd (hj2 H locs lsl z1 z2 hw hS hr)
theorem k_isub (C : KC p R s m args meth c M d base EX D dA X) (hd : decode M.bytes pc = .ok (.isub, 1)) (hj : jins X call M Q (KW p l e R s m args below meth c M base EX D dA Qp) (.isub) pc ls st h n1 n2 tg kk) : (KW p l e R s m args below meth c M base EX D dA Qp) pc ls st h n1 n2 := by
  intro H locs lsl z1 z2 hw hS hr
  unfold jins at hj
  obtain ⟨y, r, rfl, hj1⟩ := jpI_of hj
  obtain ⟨x, r, rfl, hj2⟩ := jpI_of hj1
  exact lv_isub C.1 C.2.1 hd (hj2 H locs lsl z1 z2 hw hS hr)
theorem k_imul (C : KC p R s m args meth c M d base EX D dA X) (hd : decode M.bytes pc = .ok (.imul, 1)) (hj : jins X call M Q (KW p l e R s m args below meth c M base EX D dA Qp) (.imul) pc ls st h n1 n2 tg kk) : (KW p l e R s m args below meth c M base EX D dA Qp) pc ls st h n1 n2 := by
  intro H locs lsl z1 z2 hw hS hr
  unfold jins at hj
  obtain ⟨y, r, rfl, hj1⟩ := jpI_of hj
  obtain ⟨x, r, rfl, hj2⟩ := jpI_of hj1
  exact lv_imul C.1 C.2.1 hd (hj2 H locs lsl z1 z2 hw hS hr)
theorem k_iand (C : KC p R s m args meth c M d base EX D dA X) (hd : decode M.bytes pc = .ok (.iand, 1)) (hj : jins X call M Q (KW p l e R s m args below meth c M base EX D dA Qp) (.iand) pc ls st h n1 n2 tg kk) : (KW p l e R s m args below meth c M base EX D dA Qp) pc ls st h n1 n2 := by
  intro H locs lsl z1 z2 hw hS hr
  unfold jins at hj
  obtain ⟨y, r, rfl, hj1⟩ := jpI_of hj
  obtain ⟨x, r, rfl, hj2⟩ := jpI_of hj1
  exact lv_iand C.1 C.2.1 hd (hj2 H locs lsl z1 z2 hw hS hr)
theorem k_ior (C : KC p R s m args meth c M d base EX D dA X) (hd : decode M.bytes pc = .ok (.ior, 1)) (hj : jins X call M Q (KW p l e R s m args below meth c M base EX D dA Qp) (.ior) pc ls st h n1 n2 tg kk) : (KW p l e R s m args below meth c M base EX D dA Qp) pc ls st h n1 n2 := by
  intro H locs lsl z1 z2 hw hS hr
  unfold jins at hj
  obtain ⟨y, r, rfl, hj1⟩ := jpI_of hj
  obtain ⟨x, r, rfl, hj2⟩ := jpI_of hj1
  exact lv_ior C.1 C.2.1 hd (hj2 H locs lsl z1 z2 hw hS hr)
theorem k_ixor (C : KC p R s m args meth c M d base EX D dA X) (hd : decode M.bytes pc = .ok (.ixor, 1)) (hj : jins X call M Q (KW p l e R s m args below meth c M base EX D dA Qp) (.ixor) pc ls st h n1 n2 tg kk) : (KW p l e R s m args below meth c M base EX D dA Qp) pc ls st h n1 n2 := by
  intro H locs lsl z1 z2 hw hS hr
  unfold jins at hj
  obtain ⟨y, r, rfl, hj1⟩ := jpI_of hj
  obtain ⟨x, r, rfl, hj2⟩ := jpI_of hj1
  exact lv_ixor C.1 C.2.1 hd (hj2 H locs lsl z1 z2 hw hS hr)
theorem k_ishl (C : KC p R s m args meth c M d base EX D dA X) (hd : decode M.bytes pc = .ok (.ishl, 1)) (hj : jins X call M Q (KW p l e R s m args below meth c M base EX D dA Qp) (.ishl) pc ls st h n1 n2 tg kk) : (KW p l e R s m args below meth c M base EX D dA Qp) pc ls st h n1 n2 := by
  intro H locs lsl z1 z2 hw hS hr
  unfold jins at hj
  obtain ⟨y, r, rfl, hj1⟩ := jpI_of hj
  obtain ⟨x, r, rfl, hj2⟩ := jpI_of hj1
  exact lv_ishl C.1 C.2.1 hd (hj2 H locs lsl z1 z2 hw hS hr)
theorem k_ishr (C : KC p R s m args meth c M d base EX D dA X) (hd : decode M.bytes pc = .ok (.ishr, 1)) (hj : jins X call M Q (KW p l e R s m args below meth c M base EX D dA Qp) (.ishr) pc ls st h n1 n2 tg kk) : (KW p l e R s m args below meth c M base EX D dA Qp) pc ls st h n1 n2 := by
  intro H locs lsl z1 z2 hw hS hr
  unfold jins at hj
  obtain ⟨y, r, rfl, hj1⟩ := jpI_of hj
  obtain ⟨x, r, rfl, hj2⟩ := jpI_of hj1
  exact lv_ishr C.1 C.2.1 hd (hj2 H locs lsl z1 z2 hw hS hr)
theorem k_iushr (C : KC p R s m args meth c M d base EX D dA X) (hd : decode M.bytes pc = .ok (.iushr, 1)) (hj : jins X call M Q (KW p l e R s m args below meth c M base EX D dA Qp) (.iushr) pc ls st h n1 n2 tg kk) : (KW p l e R s m args below meth c M base EX D dA Qp) pc ls st h n1 n2 := by
  intro H locs lsl z1 z2 hw hS hr
  unfold jins at hj
  obtain ⟨y, r, rfl, hj1⟩ := jpI_of hj
  obtain ⟨x, r, rfl, hj2⟩ := jpI_of hj1
  exact lv_iushr C.1 C.2.1 hd rfl (hj2 H locs lsl z1 z2 hw hS hr)
theorem k_idiv (C : KC p R s m args meth c M d base EX D dA X) (hd : decode M.bytes pc = .ok (.idiv, 1)) (hj : jins X call M Q (KW p l e R s m args below meth c M base EX D dA Qp) (.idiv) pc ls st h n1 n2 tg kk) : (KW p l e R s m args below meth c M base EX D dA Qp) pc ls st h n1 n2 := by
  intro H locs lsl z1 z2 hw hS hr
  unfold jins at hj
  obtain ⟨y, r, rfl, hj1⟩ := jpI_of hj
  obtain ⟨x, r, rfl, hn, hj2⟩ := jpI_of hj1
  exact lv_idiv C.1 C.2.1 hd hn (hj2 H locs lsl z1 z2 hw hS hr)
theorem k_irem (C : KC p R s m args meth c M d base EX D dA X) (hd : decode M.bytes pc = .ok (.irem, 1)) (hj : jins X call M Q (KW p l e R s m args below meth c M base EX D dA Qp) (.irem) pc ls st h n1 n2 tg kk) : (KW p l e R s m args below meth c M base EX D dA Qp) pc ls st h n1 n2 := by
  intro H locs lsl z1 z2 hw hS hr
  unfold jins at hj
  obtain ⟨y, r, rfl, hj1⟩ := jpI_of hj
  obtain ⟨x, r, rfl, hn, hj2⟩ := jpI_of hj1
  exact lv_irem C.1 C.2.1 hd hn (hj2 H locs lsl z1 z2 hw hS hr)
theorem k_ineg (C : KC p R s m args meth c M d base EX D dA X) (hd : decode M.bytes pc = .ok (.ineg, 1)) (hj : jins X call M Q (KW p l e R s m args below meth c M base EX D dA Qp) (.ineg) pc ls st h n1 n2 tg kk) : (KW p l e R s m args below meth c M base EX D dA Qp) pc ls st h n1 n2 := by
  intro H locs lsl z1 z2 hw hS hr
  unfold jins at hj
  obtain ⟨x, r, rfl, hj1⟩ := jpI_of hj
  exact lv_ineg C.1 C.2.1 hd (hj1 H locs lsl z1 z2 hw hS hr)
theorem k_ladd (C : KC p R s m args meth c M d base EX D dA X) (hd : decode M.bytes pc = .ok (.ladd, 1)) (hj : jins X call M Q (KW p l e R s m args below meth c M base EX D dA Qp) (.ladd) pc ls st h n1 n2 tg kk) : (KW p l e R s m args below meth c M base EX D dA Qp) pc ls st h n1 n2 := by
  intro H locs lsl z1 z2 hw hS hr
  unfold jins at hj
  obtain ⟨y, r, rfl, hj1⟩ := jpL_of hj
  obtain ⟨x, r, rfl, hj2⟩ := jpL_of hj1
  exact lv_ladd C.1 C.2.1 hd (hj2 H locs lsl z1 z2 hw hS hr)
theorem k_lmul (C : KC p R s m args meth c M d base EX D dA X) (hd : decode M.bytes pc = .ok (.lmul, 1)) (hj : jins X call M Q (KW p l e R s m args below meth c M base EX D dA Qp) (.lmul) pc ls st h n1 n2 tg kk) : (KW p l e R s m args below meth c M base EX D dA Qp) pc ls st h n1 n2 := by
  intro H locs lsl z1 z2 hw hS hr
  unfold jins at hj
  obtain ⟨y, r, rfl, hj1⟩ := jpL_of hj
  obtain ⟨x, r, rfl, hj2⟩ := jpL_of hj1
  exact lv_lmul C.1 C.2.1 hd (hj2 H locs lsl z1 z2 hw hS hr)
theorem k_lor (C : KC p R s m args meth c M d base EX D dA X) (hd : decode M.bytes pc = .ok (.lor, 1)) (hj : jins X call M Q (KW p l e R s m args below meth c M base EX D dA Qp) (.lor) pc ls st h n1 n2 tg kk) : (KW p l e R s m args below meth c M base EX D dA Qp) pc ls st h n1 n2 := by
  intro H locs lsl z1 z2 hw hS hr
  unfold jins at hj
  obtain ⟨y, r, rfl, hj1⟩ := jpL_of hj
  obtain ⟨x, r, rfl, hj2⟩ := jpL_of hj1
  exact lv_lor C.1 C.2.1 hd (hj2 H locs lsl z1 z2 hw hS hr)
theorem k_ldiv (C : KC p R s m args meth c M d base EX D dA X) (hd : decode M.bytes pc = .ok (.ldiv, 1)) (hj : jins X call M Q (KW p l e R s m args below meth c M base EX D dA Qp) (.ldiv) pc ls st h n1 n2 tg kk) : (KW p l e R s m args below meth c M base EX D dA Qp) pc ls st h n1 n2 := by
  intro H locs lsl z1 z2 hw hS hr
  unfold jins at hj
  obtain ⟨y, r, rfl, hj1⟩ := jpL_of hj
  obtain ⟨x, r, rfl, hn, hj2⟩ := jpL_of hj1
  exact lv_ldiv C.1 C.2.1 hd hn (hj2 H locs lsl z1 z2 hw hS hr)
theorem k_lshl (C : KC p R s m args meth c M d base EX D dA X) (hd : decode M.bytes pc = .ok (.lshl, 1)) (hj : jins X call M Q (KW p l e R s m args below meth c M base EX D dA Qp) (.lshl) pc ls st h n1 n2 tg kk) : (KW p l e R s m args below meth c M base EX D dA Qp) pc ls st h n1 n2 := by
  intro H locs lsl z1 z2 hw hS hr
  unfold jins at hj
  obtain ⟨y, r, rfl, hj1⟩ := jpI_of hj
  obtain ⟨x, r, rfl, hj2⟩ := jpL_of hj1
  exact lv_lshl C.1 C.2.1 hd rfl (hj2 H locs lsl z1 z2 hw hS hr)
theorem k_lcmp (C : KC p R s m args meth c M d base EX D dA X) (hd : decode M.bytes pc = .ok (.lcmp, 1)) (hj : jins X call M Q (KW p l e R s m args below meth c M base EX D dA Qp) (.lcmp) pc ls st h n1 n2 tg kk) : (KW p l e R s m args below meth c M base EX D dA Qp) pc ls st h n1 n2 := by
  intro H locs lsl z1 z2 hw hS hr
  unfold jins at hj
  obtain ⟨y, r, rfl, hj1⟩ := jpL_of hj
  obtain ⟨x, r, rfl, hj2⟩ := jpL_of hj1
  exact W.lcmp C.1 C.2.1 hd (hj2 H locs lsl z1 z2 hw hS hr)
theorem k_i2l (C : KC p R s m args meth c M d base EX D dA X) (hd : decode M.bytes pc = .ok (.i2l, 1)) (hj : jins X call M Q (KW p l e R s m args below meth c M base EX D dA Qp) (.i2l) pc ls st h n1 n2 tg kk) : (KW p l e R s m args below meth c M base EX D dA Qp) pc ls st h n1 n2 := by
  intro H locs lsl z1 z2 hw hS hr
  unfold jins at hj
  obtain ⟨x, r, rfl, hj1⟩ := jpI_of hj
  exact lv_i2l C.1 C.2.1 hd rfl (hj1 H locs lsl z1 z2 hw hS hr)
theorem k_i2b (C : KC p R s m args meth c M d base EX D dA X) (hd : decode M.bytes pc = .ok (.i2b, 1)) (hj : jins X call M Q (KW p l e R s m args below meth c M base EX D dA Qp) (.i2b) pc ls st h n1 n2 tg kk) : (KW p l e R s m args below meth c M base EX D dA Qp) pc ls st h n1 n2 := by
  intro H locs lsl z1 z2 hw hS hr
  unfold jins at hj
  obtain ⟨x, r, rfl, hj1⟩ := jpI_of hj
  exact lv_i2b C.1 C.2.1 hd rfl (hj1 H locs lsl z1 z2 hw hS hr)
theorem k_i2c (C : KC p R s m args meth c M d base EX D dA X) (hd : decode M.bytes pc = .ok (.i2c, 1)) (hj : jins X call M Q (KW p l e R s m args below meth c M base EX D dA Qp) (.i2c) pc ls st h n1 n2 tg kk) : (KW p l e R s m args below meth c M base EX D dA Qp) pc ls st h n1 n2 := by
  intro H locs lsl z1 z2 hw hS hr
  unfold jins at hj
  obtain ⟨x, r, rfl, hj1⟩ := jpI_of hj
  exact lv_i2c C.1 C.2.1 hd rfl (hj1 H locs lsl z1 z2 hw hS hr)
theorem k_dup (C : KC p R s m args meth c M d base EX D dA X) (hd : decode M.bytes pc = .ok (.dup, 1)) (hj : jins X call M Q (KW p l e R s m args below meth c M base EX D dA Qp) (.dup) pc ls st h n1 n2 tg kk) : (KW p l e R s m args below meth c M base EX D dA Qp) pc ls st h n1 n2 := by
  intro H locs lsl z1 z2 hw hS hr
  unfold jins at hj
  obtain ⟨v, r, rfl, hj1⟩ := jpV_of hj
  obtain ⟨hc, hj2⟩ := jcat1_of hj1
  exact lv_dup C.1 C.2.1 hd ((kv_cat C.2.2.2.2.2.2.2.2.1 v).trans hc) (hj2 H locs lsl z1 z2 hw hS hr)
theorem k_pop (C : KC p R s m args meth c M d base EX D dA X) (hd : decode M.bytes pc = .ok (.pop, 1)) (hj : jins X call M Q (KW p l e R s m args below meth c M base EX D dA Qp) (.pop) pc ls st h n1 n2 tg kk) : (KW p l e R s m args below meth c M base EX D dA Qp) pc ls st h n1 n2 := by
  intro H locs lsl z1 z2 hw hS hr
  unfold jins at hj
  obtain ⟨v, r, rfl, hj1⟩ := jpV_of hj
  obtain ⟨hc, hj2⟩ := jcat1_of hj1
  exact lv_pop C.1 C.2.1 hd ((kv_cat C.2.2.2.2.2.2.2.2.1 v).trans hc) (hj2 H locs lsl z1 z2 hw hS hr)
theorem k_dup2 (C : KC p R s m args meth c M d base EX D dA X) (hd : decode M.bytes pc = .ok (.dup2, 1)) (hj : jins X call M Q (KW p l e R s m args below meth c M base EX D dA Qp) (.dup2) pc ls st h n1 n2 tg kk) : (KW p l e R s m args below meth c M base EX D dA Qp) pc ls st h n1 n2 := by
  intro H locs lsl z1 z2 hw hS hr
  unfold jins at hj
  obtain ⟨v, r, rfl, hj1⟩ := jpV_of hj
  obtain ⟨w, r, rfl, hj2⟩ := jpV_of hj1
  obtain ⟨hc, hj3⟩ := jcat1_of hj2
  obtain ⟨hc2, hj4⟩ := jcat1_of hj3
  exact lv_dup2_11 C.1 C.2.1 hd ((kv_cat C.2.2.2.2.2.2.2.2.1 v).trans hc) ((kv_cat C.2.2.2.2.2.2.2.2.1 w).trans hc2) (hj4 H locs lsl z1 z2 hw hS hr)
theorem k_goto {off : Int} (ht : (pc : Int) + off = (tg : Int)) (C : KC p R s m args meth c M d base EX D dA X) (hd : decode M.bytes pc = .ok (.goto off, 3)) (hj : jins X call M Q (KW p l e R s m args below meth c M base EX D dA Qp) (.goto off) pc ls st h n1 n2 tg kk) : (KW p l e R s m args below meth c M base EX D dA Qp) pc ls st h n1 n2 := by
  intro H locs lsl z1 z2 hw hS hr
  unfold jins at hj
  exact lv_goto C.1 C.2.1 hd ht (hj H locs lsl z1 z2 hw hS hr)
theorem k_if_icmp {k : Jvm.ClassFile.Cond} {off : Int} (ht : (pc : Int) + off = (tg : Int)) (C : KC p R s m args meth c M d base EX D dA X) (hd : decode M.bytes pc = .ok (.if_icmp k off, 3)) (hj : jins X call M Q (KW p l e R s m args below meth c M base EX D dA Qp) (.if_icmp k off) pc ls st h n1 n2 tg kk) : (KW p l e R s m args below meth c M base EX D dA Qp) pc ls st h n1 n2 := by
  intro H locs lsl z1 z2 hw hS hr
  unfold jins at hj
  obtain ⟨y, r, rfl, hj1⟩ := jpI_of hj
  obtain ⟨x, r, rfl, hj2⟩ := jpI_of hj1
  cases k <;> dsimp only [jbr] at hj2
  · exact lv_icmp_eq C.1 C.2.1 hd ht (fun q => by rw [if_pos q] at hj2; exact hj2 H locs lsl z1 z2 hw hS hr) (fun q => by rw [if_neg q] at hj2; exact hj2 H locs lsl z1 z2 hw hS hr)
  · exact lv_icmp_ne C.1 C.2.1 hd ht (fun q => by rw [if_neg q] at hj2; exact hj2 H locs lsl z1 z2 hw hS hr) (fun q => by rw [if_pos q] at hj2; exact hj2 H locs lsl z1 z2 hw hS hr)
  · exact lv_icmp_lt C.1 C.2.1 hd ht (fun q => by rw [if_pos q] at hj2; exact hj2 H locs lsl z1 z2 hw hS hr) (fun q => by rw [if_neg q] at hj2; exact hj2 H locs lsl z1 z2 hw hS hr)
  · exact lv_icmp_ge C.1 C.2.1 hd ht (fun q => by rw [if_neg (Int32.not_lt.mpr q)] at hj2; exact hj2 H locs lsl z1 z2 hw hS hr) (fun q => by rw [if_pos (Int32.not_le.mp q)] at hj2; exact hj2 H locs lsl z1 z2 hw hS hr)
  · exact lv_icmp_gt C.1 C.2.1 hd ht (fun q => by rw [if_pos q] at hj2; exact hj2 H locs lsl z1 z2 hw hS hr) (fun q => by rw [if_neg q] at hj2; exact hj2 H locs lsl z1 z2 hw hS hr)
  · exact lv_icmp_le C.1 C.2.1 hd ht (fun q => by rw [if_neg (Int32.not_lt.mpr q)] at hj2; exact hj2 H locs lsl z1 z2 hw hS hr) (fun q => by rw [if_pos (Int32.not_le.mp q)] at hj2; exact hj2 H locs lsl z1 z2 hw hS hr)
theorem k_ifCond {k : Jvm.ClassFile.Cond} {off : Int} (ht : (pc : Int) + off = (tg : Int)) (C : KC p R s m args meth c M d base EX D dA X) (hd : decode M.bytes pc = .ok (.ifCond k off, 3)) (hj : jins X call M Q (KW p l e R s m args below meth c M base EX D dA Qp) (.ifCond k off) pc ls st h n1 n2 tg kk) : (KW p l e R s m args below meth c M base EX D dA Qp) pc ls st h n1 n2 := by
  intro H locs lsl z1 z2 hw hS hr
  unfold jins at hj
  obtain ⟨x, r, rfl, hj1⟩ := jpI_of hj
  cases k <;> dsimp only [jbr] at hj1
  · exact lv_if_eq C.1 C.2.1 hd ht (fun q => by rw [if_pos q] at hj1; exact hj1 H locs lsl z1 z2 hw hS hr) (fun q => by rw [if_neg q] at hj1; exact hj1 H locs lsl z1 z2 hw hS hr)
  · exact lv_if_ne C.1 C.2.1 hd ht (fun q => by rw [if_neg q] at hj1; exact hj1 H locs lsl z1 z2 hw hS hr) (fun q => by rw [if_pos q] at hj1; exact hj1 H locs lsl z1 z2 hw hS hr)
  · exact lv_if_lt C.1 C.2.1 hd ht (fun q => by rw [if_pos q] at hj1; exact hj1 H locs lsl z1 z2 hw hS hr) (fun q => by rw [if_neg q] at hj1; exact hj1 H locs lsl z1 z2 hw hS hr)
  · exact lv_if_ge C.1 C.2.1 hd ht (fun q => by rw [if_neg (Int32.not_lt.mpr q)] at hj1; exact hj1 H locs lsl z1 z2 hw hS hr) (fun q => by rw [if_pos (Int32.not_le.mp q)] at hj1; exact hj1 H locs lsl z1 z2 hw hS hr)
  · exact lv_if_gt C.1 C.2.1 hd ht (fun q => by rw [if_pos q] at hj1; exact hj1 H locs lsl z1 z2 hw hS hr) (fun q => by rw [if_neg q] at hj1; exact hj1 H locs lsl z1 z2 hw hS hr)
  · exact lv_if_le C.1 C.2.1 hd ht (fun q => by rw [if_neg (Int32.not_lt.mpr q)] at hj1; exact hj1 H locs lsl z1 z2 hw hS hr) (fun q => by rw [if_pos (Int32.not_le.mp q)] at hj1; exact hj1 H locs lsl z1 z2 hw hS hr)
theorem jnul_of {v : Value} {A B : Prop} (hj : jnul v A B) : (v = .null ∧ A) ∨ ((∃ a, v = .ref a) ∧ B) := by
  unfold jnul at hj
  split at hj
  · exact Or.inl ⟨rfl, hj⟩
  · exact Or.inr ⟨⟨_, rfl⟩, hj⟩
  · exact hj.elim
theorem k_ifnull {off : Int} (ht : (pc : Int) + off = (tg : Int)) (C : KC p R s m args meth c M d base EX D dA X) (hd : decode M.bytes pc = .ok (.ifnull off, 3)) (hj : jins X call M Q (KW p l e R s m args below meth c M base EX D dA Qp) (.ifnull off) pc ls st h n1 n2 tg kk) : (KW p l e R s m args below meth c M base EX D dA Qp) pc ls st h n1 n2 := by
  intro H locs lsl z1 z2 hw hS hr
  unfold jins at hj
  obtain ⟨v, r, rfl, hj1⟩ := jpV_of hj
  rcases jnul_of hj1 with ⟨rfl, hj2⟩ | ⟨⟨a, rfl⟩, hj2⟩
  · exact lv_ifnullN C.1 C.2.1 hd ht (hj2 H locs lsl z1 z2 hw hS hr)
  · exact lv_ifnull C.1 C.2.1 hd (hj2 H locs lsl z1 z2 hw hS hr)
theorem k_ifnonnull {off : Int} (ht : (pc : Int) + off = (tg : Int)) (C : KC p R s m args meth c M d base EX D dA X) (hd : decode M.bytes pc = .ok (.ifnonnull off, 3)) (hj : jins X call M Q (KW p l e R s m args below meth c M base EX D dA Qp) (.ifnonnull off) pc ls st h n1 n2 tg kk) : (KW p l e R s m args below meth c M base EX D dA Qp) pc ls st h n1 n2 := by
  intro H locs lsl z1 z2 hw hS hr
  unfold jins at hj
  obtain ⟨v, r, rfl, hj1⟩ := jpV_of hj
  rcases jnul_of hj1 with ⟨rfl, hj2⟩ | ⟨⟨a, rfl⟩, hj2⟩
  · exact lv_ifnonnullN C.1 C.2.1 hd (hj2 H locs lsl z1 z2 hw hS hr)
  · exact lv_ifnonnull C.1 C.2.1 hd ht (hj2 H locs lsl z1 z2 hw hS hr)
theorem Int32_ofInt_toInt {x : Int32} {z : Int} (h1 : -2147483648 ≤ z) (h2 : z < 2147483648) : x = Int32.ofInt z ↔ x.toInt = z := by
  constructor
  · rintro rfl
    rw [Int32.toInt_ofInt_of_le (by simpa using h1) (by simpa using h2)]
  · intro hz
    rw [← hz, Int32.ofInt_toInt]
theorem jtsw_of {x : Int32} {Dp : Prop} {K : Nat → Prop} : ∀ {os : List Int} {lo : Int}, -2147483648 ≤ lo → lo + os.length ≤ 2147483648 → jtsw pc lo os x Dp K → ((x.toInt < lo ∨ lo + os.length ≤ x.toInt) ∧ Dp) ∨ (lo ≤ x.toInt ∧ x.toInt < lo + os.length ∧ ∃ o, os[(x.toInt - lo).toNat]? = some o ∧ K ((pc : Int) + o).toNat)
  | [], lo, _, _, hj => by
    left
    refine ⟨?_, hj⟩
    simp only [List.length_nil]
    omega
  | o :: r, lo, h1, h2, hj => by
    unfold jtsw at hj
    rw [List.length_cons] at h2 ⊢
    by_cases hx : x = Int32.ofInt lo
    · rw [if_pos hx] at hj
      have e := (Int32_ofInt_toInt h1 (by omega)).mp hx
      right
      refine ⟨by omega, by omega, o, ?_, hj⟩
      rw [show (x.toInt - lo).toNat = 0 by omega]
      rfl
    · rw [if_neg hx] at hj
      have e : x.toInt ≠ lo := fun q => hx ((Int32_ofInt_toInt h1 (by omega)).mpr q)
      rcases jtsw_of (by omega) (by omega) hj with ⟨q, hd⟩ | ⟨q1, q2, o2, q3, q4⟩
      · left
        exact ⟨by omega, hd⟩
      · right
        refine ⟨by omega, by omega, o2, ?_, q4⟩
        rw [show (x.toInt - lo).toNat = (x.toInt - (lo + 1)).toNat + 1 by omega]
        simpa using q3
theorem jlsw_of {x : Int32} {Dp : Prop} {K : Nat → Prop} {dflt : Int} : ∀ {os : List (Int × Int)}, (∀ q ∈ os, -2147483648 ≤ q.1 ∧ q.1 < 2147483648) → jlsw pc os x Dp K → (Op.lookupswitch.offset os dflt x.toInt = dflt ∧ Dp) ∨ ∃ q ∈ os, Op.lookupswitch.offset os dflt x.toInt = q.2 ∧ K ((pc : Int) + q.2).toNat
  | [], _, hj => Or.inl ⟨by simp [Op.lookupswitch.offset], hj⟩
  | q :: r, h1, hj => by
    unfold jlsw at hj
    have hq := h1 q List.mem_cons_self
    obtain ⟨a, o⟩ := q
    rw [Op.lookupswitch.offset_cons]
    by_cases hx : x = Int32.ofInt a
    · rw [if_pos hx] at hj
      have e := (Int32_ofInt_toInt hq.1 hq.2).mp hx
      exact Or.inr ⟨(a, o), List.mem_cons_self, by first | rw [if_pos e.symm] | rw [if_pos e], hj⟩
    · rw [if_neg hx] at hj
      have e : ¬ x.toInt = a := fun q => hx ((Int32_ofInt_toInt hq.1 hq.2).mpr q)
      rcases jlsw_of (dflt := dflt) (fun q hq => h1 q (List.mem_cons_of_mem _ hq)) hj with ⟨q1, q2⟩ | ⟨q, q1, q2, q3⟩
      · exact Or.inl ⟨by rw [if_neg (fun z => e z.symm)]; exact q1, q2⟩
      · exact Or.inr ⟨q, List.mem_cons_of_mem _ q1, by rw [if_neg (fun z => e z.symm)]; exact q2, q3⟩
theorem k_tableswitch {dflt lo hi : Int} {offs : Array Int} {len : Nat} (C : KC p R s m args meth c M d base EX D dA X) (hd : decode M.bytes pc = .ok (.tableswitch dflt lo hi offs, len)) (hj : jins X call M Q (KW p l e R s m args below meth c M base EX D dA Qp) (.tableswitch dflt lo hi offs) pc ls st h n1 n2 tg kk) : (KW p l e R s m args below meth c M base EX D dA Qp) pc ls st h n1 n2 := by
  intro H locs lsl z1 z2 hw hS hr
  unfold jins at hj
  obtain ⟨x, r, rfl, hj1⟩ := jpI_of hj
  obtain ⟨⟨g1, ⟨g2, g3⟩, g4, g5⟩, hj2⟩ := jif_of hj1
  have hsz : (offs.toList.length : Int) = offs.size := by simp
  rcases jtsw_of (by omega) (by omega) hj2 with ⟨q, hj3⟩ | ⟨q1, q2, o, q3, hj3⟩
  · exact lv_tableOut C.1 C.2.1 hd (by omega) (Int.toNat_of_nonneg g2).symm (hj3 H locs lsl z1 z2 hw hS hr)
  · have ho := List.all_eq_true.mp g3 o (List.mem_of_getElem? q3)
    exact lv_tableIn C.1 C.2.1 hd (by omega) (by omega) (by rw [← Array.getElem?_toList]; exact q3) (Int.toNat_of_nonneg (of_decide_eq_true ho)).symm (hj3 H locs lsl z1 z2 hw hS hr)
theorem k_lookupswitch {dflt : Int} {ps : Array (Int × Int)} {len : Nat} (C : KC p R s m args meth c M d base EX D dA X) (hd : decode M.bytes pc = .ok (.lookupswitch dflt ps, len)) (hj : jins X call M Q (KW p l e R s m args below meth c M base EX D dA Qp) (.lookupswitch dflt ps) pc ls st h n1 n2 tg kk) : (KW p l e R s m args below meth c M base EX D dA Qp) pc ls st h n1 n2 := by
  intro H locs lsl z1 z2 hw hS hr
  unfold jins at hj
  obtain ⟨x, r, rfl, hj1⟩ := jpI_of hj
  obtain ⟨⟨g1, g2, g3⟩, hj2⟩ := jif_of hj1
  have g4 : ∀ q ∈ ps.toList, 0 ≤ (pc : Int) + q.2 ∧ -2147483648 ≤ q.1 ∧ q.1 < 2147483648 := fun q hq => of_decide_eq_true (List.all_eq_true.mp g3 q hq)
  rcases jlsw_of (dflt := dflt) (fun q hq => (g4 q hq).2) hj2 with ⟨q, hj3⟩ | ⟨q, q1, q2, hj3⟩
  · exact lv_lookup C.1 C.2.1 hd g1 q (Int.toNat_of_nonneg g2).symm (hj3 H locs lsl z1 z2 hw hS hr)
  · exact lv_lookup C.1 C.2.1 hd g1 q2 (Int.toNat_of_nonneg (g4 q q1).1).symm (hj3 H locs lsl z1 z2 hw hS hr)
end KI
