theorem jdc0 : ∀ {k}, k < jnf 0 → (jtT 0 k).1 = jcn 0 := by
  intro k
  revert k
  show ∀ k, k < jnf 0 → (jtT 0 k).1 = jcn 0
  decide +kernel
theorem jdc1 : ∀ {k}, k < jnf 1 → (jtT 1 k).1 = jcn 1 := by
  intro k
  revert k
  show ∀ k, k < jnf 1 → (jtT 1 k).1 = jcn 1
  decide +kernel
theorem jdc2 : ∀ {k}, k < jnf 2 → (jtT 2 k).1 = jcn 2 := by
  intro k
  revert k
  show ∀ k, k < jnf 2 → (jtT 2 k).1 = jcn 2
  decide +kernel
theorem jdc3 : ∀ {k}, k < jnf 3 → (jtT 3 k).1 = jcn 3 := by
  intro k
  revert k
  show ∀ k, k < jnf 3 → (jtT 3 k).1 = jcn 3
  decide +kernel
theorem jdc4 : ∀ {k}, k < jnf 4 → (jtT 4 k).1 = jcn 4 := by
  intro k
  revert k
  show ∀ k, k < jnf 4 → (jtT 4 k).1 = jcn 4
  decide +kernel
theorem jdc5 : ∀ {k}, k < jnf 5 → (jtT 5 k).1 = jcn 5 := by
  intro k
  revert k
  show ∀ k, k < jnf 5 → (jtT 5 k).1 = jcn 5
  decide +kernel
theorem jdc6 : ∀ {k}, k < jnf 6 → (jtT 6 k).1 = jcn 6 := by
  intro k
  revert k
  show ∀ k, k < jnf 6 → (jtT 6 k).1 = jcn 6
  decide +kernel
theorem jdc7 : ∀ {k}, k < jnf 7 → (jtT 7 k).1 = jcn 7 := by
  intro k
  revert k
  show ∀ k, k < jnf 7 → (jtT 7 k).1 = jcn 7
  decide +kernel
theorem jdc8 : ∀ {k}, k < jnf 8 → (jtT 8 k).1 = jcn 8 := by
  intro k
  revert k
  show ∀ k, k < jnf 8 → (jtT 8 k).1 = jcn 8
  decide +kernel
theorem jdc9 : ∀ {k}, k < jnf 9 → (jtT 9 k).1 = jcn 9 := by
  intro k
  revert k
  show ∀ k, k < jnf 9 → (jtT 9 k).1 = jcn 9
  decide +kernel
theorem jdc10 : ∀ {k}, k < jnf 10 → (jtT 10 k).1 = jcn 10 := by
  intro k
  revert k
  show ∀ k, k < jnf 10 → (jtT 10 k).1 = jcn 10
  decide +kernel
theorem jdc11 : ∀ {k}, k < jnf 11 → (jtT 11 k).1 = jcn 11 := by
  intro k
  revert k
  show ∀ k, k < jnf 11 → (jtT 11 k).1 = jcn 11
  decide +kernel
theorem jdc12 : ∀ {k}, k < jnf 12 → (jtT 12 k).1 = jcn 12 := by
  intro k
  revert k
  show ∀ k, k < jnf 12 → (jtT 12 k).1 = jcn 12
  decide +kernel
theorem jcl_dc : ∀ {ci : Nat}, ci < 13 → ∀ {k}, k < jnf ci → (jtT ci k).1 = jcn ci
  | 0, _ => jdc0
  | 1, _ => jdc1
  | 2, _ => jdc2
  | 3, _ => jdc3
  | 4, _ => jdc4
  | 5, _ => jdc5
  | 6, _ => jdc6
  | 7, _ => jdc7
  | 8, _ => jdc8
  | 9, _ => jdc9
  | 10, _ => jdc10
  | 11, _ => jdc11
  | 12, _ => jdc12
  | n + 13, h => absurd h (by omega)
theorem kwd_set {base : Nat} {EX : Nat → Value} {D : va_G} {dA : FieldType → ClassId} {h : JH} {H H1 : Heap} {a : Nat} {c0 c1 : JC} (hw : kwd base EX D dA h H) (ha : h[a]? = some c0) (z : H1.size = H.size) (oq : ∀ q : Nat, q ≠ base + a → H1[q]? = H[q]?) (he : va_at D vwCl (base + a, ke base EX dA c1) H1) (hk : kok c1) : kwd base EX D dA (h.set a c1) H1 :=
  ⟨by rw [z, hw.1, List.length_set], by rw [← kw_set]; exact hw.2.1.set kw_D (kw_get ha) he oq, fun k c hc => by
    rw [List.getElem?_set] at hc
    by_cases e : a = k
    · rw [if_pos e] at hc
      split at hc
      · cases hc; exact hk
      · cases hc
    · rw [if_neg e] at hc; exact hw.2.2 k c hc⟩
theorem kwd_push {base : Nat} {EX : Nat → Value} {D : va_G} {dA : FieldType → ClassId} {h : JH} {H H1 : Heap} {c1 : JC} (hw : kwd base EX D dA h H) (z : H1.size = H.size + 1) (o : ∀ q : Nat, q < H.size → H1[q]? = H[q]?) (he : va_at D vwCl (base + h.length, ke base EX dA c1) H1) (hk : kok c1) : kwd base EX D dA (h ++ [c1]) H1 := by
  refine ⟨by rw [z, hw.1, List.length_append]; rfl, ?_, fun k c hc => ?_⟩
  · rw [← kw_push]
    refine (hw.2.1.kept (fun k q hk => o _ (hw.2.1 k q hk).lt)).app (fun k q hk => ?_)
    have hz : k < 1 := (List.getElem?_eq_some_iff.mp hk).1
    rw [show k = 0 by omega] at hk
    cases hk
    exact he
  · rcases List.mem_append.mp (List.mem_of_getElem? hc) with g | g
    · obtain ⟨i, hi⟩ := List.getElem?_of_mem g
      exact hw.2.2 i c hi
    · rw [List.mem_singleton.mp g]; exact hk
theorem va_S.push {A : Nat → Prop} {H0 H H1 : Heap} {locs : List Loc} (hS : va_S A H0 H locs) (z : H1.size = H.size + 1) (o : ∀ q : Nat, q < H.size → H1[q]? = H[q]?) : va_S A H0 H1 locs :=
  ⟨Nat.le_trans hS.1 (by omega), fun x h1 h2 => (o x (Nat.lt_of_lt_of_le h1 hS.1)).trans (hS.2.1 x h1 h2), hS.2.2⟩
theorem jeOK12 {own : String} {idx a b : Nat} {z : Int} (h : jeOK own idx (12, a, b, z)) : (a = 0 ∧ Cond.fieldLink own idx RJ0 "value" "[B" ∈ wsL_law) ∨ (a = 1 ∧ Cond.fieldLink own idx RJ0 "coder" "B" ∈ wsL_law) := by
  match a, h with
  | 0, h => exact Or.inl ⟨rfl, h⟩
  | 1, h => exact Or.inr ⟨rfl, h⟩
  | n + 2, h => exact (show False from h).elim
theorem jgf_of {h : JH} {v : Value} {ci k : Nat} {K : Value → Prop} (hj : jgf h v ci k K) : ∃ a fs w, v = .ref a ∧ h[a]? = some (.inr (ci, fs)) ∧ fs[k]? = some w ∧ K w := by
  unfold jgf at hj
  split at hj
  next a =>
    split at hj
    next q hq =>
      obtain ⟨hc, hj1⟩ := jif_of hj
      split at hj1
      next w hwk => exact ⟨a, q.2, w, rfl, by rw [hq, ← hc], hwk, hj1⟩
      next => exact hj1.elim
    next => exact hj.elim
  next => exact hj.elim
theorem jgt0 {h : JH} {v : Value} {a b : Nat} {z : Int} {K : Value → Prop} : jgt h v (0, a, b, z) K = (match jty a b with
    | .long => jgL h v a b fun x => K (.long x)
    | .object _ => jgf h v a b K
    | .array _ => jgf h v a b K
    | _ => jgI h v a b fun x => K (.int x)) := rfl
theorem jgt12 {h : JH} {v : Value} {a b : Nat} {z : Int} {K : Value → Prop} : jgt h v (12, a, b, z) K = (match v with
    | .float q => if 2 ≤ q.toNat ∧ q.toNat < 13 then (if a = 0 then K (.float (UInt32.ofNat (18 + q.toNat))) else K (.int 0)) else False
    | _ => False) := rfl
theorem jpt0 {M : JM} {h : JH} {v w : Value} {a b : Nat} {z : Int} {K : JH → Prop} : jpt M h v w (0, a, b, z) K = (if (jtT a b).2.2.2 = true then (if M.ini = 1 ∧ M.own = a then jpz (jty a b) w (jpf h v a b w K) else False) else jpz (jty a b) w (jpf h v a b w K)) := rfl
theorem jpt_no {M : JM} {h : JH} {v w : Value} {k a b : Nat} {z : Int} {K : JH → Prop} (h0 : k ≠ 0) (hj : jpt M h v w (k, a, b, z) K) : False := by
  unfold jpt at hj
  split at hj
  · rename_i heq
    exact h0 heq
  · exact hj
theorem jgt_of {h : JH} {v : Value} {a b : Nat} {z : Int} {K : Value → Prop} (hj : jgt h v (0, a, b, z) K) : ∃ p fs w, v = .ref p ∧ h[p]? = some (.inr (a, fs)) ∧ fs[b]? = some w ∧ K w := by
  rw [jgt0] at hj
  split at hj
  · obtain ⟨p, fs, w, e1, e2, e3, hj1⟩ := jgf_of hj
    cases w <;> first | exact hj1.elim | exact ⟨p, fs, _, e1, e2, e3, hj1⟩
  · exact jgf_of hj
  · exact jgf_of hj
  · obtain ⟨p, fs, w, e1, e2, e3, hj1⟩ := jgf_of hj
    cases w <;> first | exact hj1.elim | exact ⟨p, fs, _, e1, e2, e3, hj1⟩
theorem jgt_of2 {h : JH} {v : Value} {a b : Nat} {z : Int} {K : Value → Prop} (hj : jgt h v (12, a, b, z) K) : ∃ q : UInt32, v = .float q ∧ 2 ≤ q.toNat ∧ q.toNat < 13 ∧ (if a = 0 then K (.float (UInt32.ofNat (18 + q.toNat))) else K (.int 0)) := by
  rw [jgt12] at hj
  split at hj
  next q =>
    obtain ⟨⟨h1, h2⟩, h3⟩ := jif_of hj
    exact ⟨q, rfl, h1, h2, h3⟩
  next => exact hj.elim
theorem jgt_no {h : JH} {v : Value} {k a b : Nat} {z : Int} {K : Value → Prop} (h0 : k ≠ 0) (h1 : k ≠ 12) (hj : jgt h v (k, a, b, z) K) : False := by
  unfold jgt at hj
  split at hj
  · rename_i heq
    exact h0 heq
  · rename_i heq
    exact h1 heq
  · exact hj
theorem jpf_of {h : JH} {v w : Value} {ci k : Nat} {K : JH → Prop} (hj : jpf h v ci k w K) : ∃ a fs, v = .ref a ∧ h[a]? = some (.inr (ci, fs)) ∧ k < fs.length ∧ K (h.set a (.inr (ci, fs.set k w))) := by
  unfold jpf at hj
  split at hj
  next a =>
    split at hj
    next q hq =>
      obtain ⟨⟨hc, hl⟩, hj1⟩ := jif_of hj
      exact ⟨a, q.2, rfl, by rw [hq, ← hc], hl, hj1⟩
    next => exact hj.elim
  next => exact hj.elim
theorem jpz_of {base : Nat} {EX : Nat → Value} (hE : ∀ k, kisv (EX k)) {t : FieldType} {w : Value} {K : Prop} (hj : jpz t w K) : narrow t (kv base EX w) = kv base EX w ∧ fits t (kv base EX w) = true ∧ K := by
  unfold jpz at hj
  split at hj
  · split at hj
    · exact ⟨rfl, rfl, hj⟩
    · exact hj.elim
  · split at hj
    · obtain ⟨hx, hj⟩ := hj
      rcases hx with rfl | rfl
      · exact ⟨(by decide : narrow .boolean (.int 0) = .int 0), (by decide : fits .boolean (.int 0) = true), hj⟩
      · exact ⟨(by decide : narrow .boolean (.int 1) = .int 1), (by decide : fits .boolean (.int 1) = true), hj⟩
    · exact hj.elim
  · split at hj
    · exact ⟨rfl, rfl, hj⟩
    · exact hj.elim
  · obtain ⟨h1, h2⟩ := jisr_of hj
    rcases kv_isv (base := base) hE h1 with e | ⟨a, e⟩ <;> rw [e] <;> exact ⟨rfl, rfl, h2⟩
  · obtain ⟨h1, h2⟩ := jisr_of hj
    rcases kv_isv (base := base) hE h1 with e | ⟨a, e⟩ <;> rw [e] <;> exact ⟨rfl, rfl, h2⟩
  · exact hj.elim
theorem jins_getfield {X : JX} {call : JCall} {M : JM} {Q : JQ} {P : JP} {i pc : Nat} {ls : JL} {st : List Value} {h : JH} {c s tg kk : Nat} : jins X call M Q P (.getfield i) pc ls st h c s tg kk = (match jcp M.own i with
    | some e => jpV st fun v r => jgt h v e fun w => P (pc + 3) ls (w :: r) h c s
    | none => False) := rfl
theorem jins_putfield {X : JX} {call : JCall} {M : JM} {Q : JQ} {P : JP} {i pc : Nat} {ls : JL} {st : List Value} {h : JH} {c s tg kk : Nat} : jins X call M Q P (.putfield i) pc ls st h c s tg kk = (match jcp M.own i with
    | some e => jpV st fun w r => jpV r fun v r => jpt M h v w e fun h2 => P (pc + 3) ls r h2 c s
    | none => False) := rfl
section KF
variable {p : Program} {l : Launch} {e : Env} {R : Room} {s : State} {m : MethodId} {args : Array Value} {below : List Frame} {meth : Method} {c : Code} {M : JM} {d base : Nat} {EX : Nat → Value} {D : va_G} {dA : FieldType → ClassId} {X : JX} {Qp : State → Prop} {call : JCall} {Q : JQ} {pc : Nat} {ls : JL} {st : List Value} {h : JH} {n1 n2 tg kk : Nat}
theorem k_getfield {n : Nat} (C : KC p R s m args meth c M d base EX D dA X) (hd : decode M.bytes pc = .ok (.getfield n, 3)) (hj : jins X call M Q (KW p l e R s m args below meth c M base EX D dA Qp) (.getfield n) pc ls st h n1 n2 tg kk) : (KW p l e R s m args below meth c M base EX D dA Qp) pc ls st h n1 n2 := by
  intro H locs lsl z1 z2 hw hS hr
  rw [jins_getfield] at hj
  split at hj
  next en hen =>
    obtain ⟨v, r, rfl, hj1⟩ := jpV_of hj
    have hok := jcp_ok hen
    obtain ⟨k, a, b, z⟩ := en
    by_cases h0 : k = 0
    · subst h0
      obtain ⟨q, hq, hlt, hmem⟩ := hok
      have hci := jcl_lt hq
      obtain ⟨a1, fs, w, rfl, g1, g2, hj2⟩ := jgt_of hj1
      exact va_get (q0 := a1) (ws := kw base EX dA h) (D := D) (cl := vwCl) (tys := ktys dA) (ci := a) (fs := fs.map (kv base EX)) (C := q.1) (T := q.2.1) (N := q.2.2) (own := jcn M.own) C.1 C.2.1 C.2.2.2.2.1 (by have := (jcl_at hci).symm.trans hq; cases this; exact jcl_in hci) C.2.2.2.1 C.2.2.2.2.2.1 hw.2.1 (kw_get g1) hq b hlt (C.2.2.2.2.1 _ hmem) (fun _ h9 => h9) (by rw [List.getElem?_map, g2]; rfl) hd (hj2 H locs lsl z1 z2 hw hS hr)
    · by_cases h12 : k = 12
      · subst h12
        obtain ⟨q, rfl, q1, q2, hj2⟩ := jgt_of2 hj1
        obtain ⟨adK, adV, e1, e2, e3⟩ := C.2.2.2.2.2.2.1.2.2.2.2.1
        have hi : q.toNat - 2 < 11 := by omega
        have ek : kv base EX (.float q) = .ref (adK (q.toNat - 2)) := by
          show EX q.toNat = _
          rw [← (e2 _ hi).1]
          congr 1
          omega
        show W p l e R s m args below meth c H locs n1 n2 Qp (F0 m pc lsl (kv base EX (.float q) :: r.map (kv base EX)))
        rw [ek]
        rcases jeOK12 hok with ⟨rfl, hok⟩ | ⟨rfl, hok⟩
        · rw [if_pos rfl] at hj2
          refine va_getX (N := 11) (o := "java/lang/String") (n := "value") (d := "[B") (own := jcn M.own) (ref := RJ0) (v := fun i => .ref (adV i)) (ad := adK) (i := q.toNat - 2) C.1 C.2.1 (fun i hi => (e1.1 i hi).2.2.1) hi hS C.2.2.2.1 (C.2.2.2.2.1 _ hok) (fun _ h9 => h9) hd ?_
          have hz := hj2 H locs lsl z1 z2 hw hS hr
          have ev : kv base EX (.float (UInt32.ofNat (18 + q.toNat))) = .ref (adV (q.toNat - 2)) := by
            show EX (UInt32.ofNat (18 + q.toNat)).toNat = _
            rw [UInt32.toNat_ofNat_of_lt' (by show 18 + q.toNat < 4294967296; omega), ← (e2 _ hi).2]
            congr 1
            omega
          rw [List.map_cons, ev] at hz
          exact hz
        · rw [if_neg (by decide : ¬ (1 : Nat) = 0)] at hj2
          exact va_getX (N := 11) (o := "java/lang/String") (n := "coder") (d := "B") (own := jcn M.own) (ref := RJ0) (v := fun _ => .int 0) (ad := adK) (i := q.toNat - 2) C.1 C.2.1 (fun i hi => (e1.1 i hi).2.1) hi hS C.2.2.2.1 (C.2.2.2.2.1 _ hok) (fun _ h9 => h9) hd (hj2 H locs lsl z1 z2 hw hS hr)
      · exact (jgt_no h0 h12 hj1).elim
  next => exact hj.elim
theorem k_putfield {n : Nat} (C : KC p R s m args meth c M d base EX D dA X) (hd : decode M.bytes pc = .ok (.putfield n, 3)) (hj : jins X call M Q (KW p l e R s m args below meth c M base EX D dA Qp) (.putfield n) pc ls st h n1 n2 tg kk) : (KW p l e R s m args below meth c M base EX D dA Qp) pc ls st h n1 n2 := by
  intro H locs lsl z1 z2 hw hS hr
  rw [jins_putfield] at hj
  split at hj
  next en hen =>
    obtain ⟨w, r0, rfl, hj1⟩ := jpV_of hj
    obtain ⟨v, r, rfl, hj2⟩ := jpV_of hj1
    have hok := jcp_ok hen
    obtain ⟨k, a, b, z⟩ := en
    by_cases h0 : k = 0
    · subst h0
      rw [jpt0] at hj2
      obtain ⟨q, hq, hlt, hmem⟩ := hok
      have hci := jcl_lt hq
      have hqe := (jcl_at hci).symm.trans hq
      cases hqe
      have hts := C.2.2.2.2.1
      have hK := C.2.2.2.2.2.1
      have hin := jcl_in hci
      have hap := va_apart (own := jcn M.own) (ci := a) hts hin (jty a) (jcl_ty hci) (jcl_nm hci) hK hq
      have hlink := hts _ hmem
      have hlay := hts _ (hin _ (u_in_lay hlt))
      unfold u_lay at hlay
      have main : ∀ (a1 : Nat) (fs : List Value), h[a1]? = some (.inr (a, fs)) → b < fs.length → narrow (jty a b) (kv base EX w) = kv base EX w → fits (jty a b) (kv base EX w) = true → ∀ cell : Cell, ∀ H1 : Heap, H[base + a1]? = some cell → cell.cls = D.1 a → cell.vm = .none → (∀ (x : Nat), x < jnf a → cell.slots[D.2 a x]? = some (vp_V (fs.map (kv base EX)) x)) → H1[base + a1]? = some (cell.setSlot (D.2 a b) (kv base EX w)) → H1.size = H.size → (∀ q : Nat, q ≠ base + a1 → H1[q]? = H[q]?) → kwd base EX D dA (h.set a1 (.inr (a, fs.set b w))) H1 := by
        intro a1 fs g1 g2 g3 g4 cell H1 f1 f2 f3 f4 f5 f6 f7
        refine kwd_set hw g1 f6 f7 ⟨_, hq, ?_⟩ trivial
        have ht := t_OB.to (V := updV (vp_V (fs.map (kv base EX))) b (kv base EX w)) (V' := vp_V ((fs.set b w).map (kv base EX))) (o := base + a1) (cC := D.1 a) (N := jnf a) (iS := D.2 a) ⟨_, f5, f2, f3, t_set f4 hap hlt (kv base EX w)⟩ (fun j _ => by rw [List.map_set]; exact vp_updV_set (by rw [List.length_map]; exact g2) (kv base EX w) j)
        exact ht
      by_cases hfin : (jtT a b).2.2.2 = true
      · rw [if_pos hfin] at hj2
        obtain ⟨⟨i1, i2⟩, hj3⟩ := jif_of hj2
        obtain ⟨g3, g4, hj4⟩ := jpz_of (base := base) C.2.2.2.2.2.2.2.2.1 hj3
        obtain ⟨a1, fs, rfl, g1, g2, hj5⟩ := jpf_of hj4
        obtain ⟨r', h1, cell, f1, f2, f3, f4⟩ := hw.2.1 a1 _ (kw_get g1)
        have hr' := h1.symm.trans hq
        cases hr'
        obtain ⟨hSl, hfc, kC, hkC, hkind⟩ := hK.1 a _ hq
        obtain ⟨cf, kf, fi, f, hi, hsl⟩ := hSl b hlt
        rw [if_pos hfin] at hlay
        have hst := (u_facts hfc hkC (u_lays hts hin hlt) hi).1
        have hcf : m.cls = cf := by
          obtain ⟨_, _, c', _, _, _, -, -, hf', -, -, -, hown2, -⟩ := Cond.laysFinal_spec hlay
          have e1 : c' = cf := by have := hi.symm.trans hf'; simp at this; exact this.1.symm
          have e2 : s.vm.findClass (jtT a b).1 = some m.cls := by
            rw [show (jtT a b).1 = jcn M.own by rw [i2]; exact jcl_dc hci hlt]
            exact C.2.2.2.1
          rw [← e1]; exact Option.some.inj (e2.symm.trans hown2)
        have h6 := u_fits hfc hkC hkind (Or.inr hlay) hi (jcl_ty hci b hlt) g3 g4
        refine W.putFinK C.1 C.2.1 C.2.2.2.1 hlink hi hst hcf (C.2.2.2.2.2.2.2.2.2.2.1 i1) (by rw [f2]; exact h6) f1 f3 (by rw [hsl]; exact k2_hasslot (f4 b hlt)) rfl rfl hd fun H1 t1 t2 t3 => ?_
        rw [hsl] at t1 ⊢
        exact hj5 H1 _ lsl z1 z2 (main a1 fs g1 g2 g3 g4 cell H1 f1 f2 f3 f4 t1 t2 t3) (hS.put t2 t3 (Nat.le_add_right _ _)) hr
      · rw [if_neg hfin] at hj2 hlay
        obtain ⟨g3, g4, hj4⟩ := jpz_of (base := base) C.2.2.2.2.2.2.2.2.1 hj2
        obtain ⟨a1, fs, rfl, g1, g2, hj5⟩ := jpf_of hj4
        obtain ⟨r', h1, cell, f1, f2, f3, f4⟩ := hw.2.1 a1 _ (kw_get g1)
        have hr' := h1.symm.trans hq
        cases hr'
        obtain ⟨hSl, hfc, kC, hkC, hkind⟩ := hK.1 a _ hq
        obtain ⟨cf, kf, fi, f, hi, hsl⟩ := hSl b hlt
        have hst := (u_facts hfc hkC (u_lays hts hin hlt) hi).1
        have h6 := u_store hfc hkC hkind hlay hi (jcl_ty hci b hlt) g3 g4
        refine W.putK C.1 C.2.1 (f := f) ⟨C.2.2.2.1, hlink, ⟨_, _, _, hi⟩, hst⟩ (by rw [f2]; exact h6) f1 f3 (by rw [hsl]; exact k2_hasslot (f4 b hlt)) rfl rfl hd fun H1 t1 t2 t3 => ?_
        rw [hsl] at t1 ⊢
        exact hj5 H1 _ lsl z1 z2 (main a1 fs g1 g2 g3 g4 cell H1 f1 f2 f3 f4 t1 t2 t3) (hS.put t2 t3 (Nat.le_add_right _ _)) hr
    · exact (jpt_no h0 hj2).elim
  next => exact hj.elim
end KF
