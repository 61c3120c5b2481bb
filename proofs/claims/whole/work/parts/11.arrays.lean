theorem kst_i (cA : ClassId) (n : Nat) (f : Nat → Int32) (k : Nat) (x : Int32) : (vp_cell cA (n, .inl f)).setSlot k (.int x) = vp_cell cA (n, .inl (upd f k x)) := by
  rw [vp_cell_i, vp_cell_i, arrV_store]
  congr 1
  funext q
  by_cases hq : q = k
  · subst hq; simp [updV, upd]
  · simp [updV, upd, hq]
theorem kst_l (cA : ClassId) (n : Nat) (f : Nat → Int64) (k : Nat) (x : Int64) : (vp_cell cA (n, .inr (.inl f))).setSlot k (.long x) = vp_cell cA (n, .inr (.inl (vp_updL f k x))) := by
  rw [vp_cell_l, vp_cell_l, arrV_store]
  congr 1
  funext q
  by_cases hq : q = k
  · subst hq; simp [updV, vp_updL]
  · simp [updV, vp_updL, hq]
theorem kst_q (cA : ClassId) (n : Nat) (f : Nat → Option Nat) (k x : Nat) : (vp_cell cA (n, .inr (.inr (.inr (.inr f))))).setSlot k (.ref x) = vp_cell cA (n, .inr (.inr (.inr (.inr (va_up f k (some x)))))) := by
  rw [vp_cell_q, vp_cell_q, arrV_store]
  congr 1
  funext q
  by_cases hq : q = k
  · subst hq; simp [updV, va_up, va_rf]
  · simp [updV, va_up, hq]
theorem jtxt_len : ∀ i, i < 11 → (jtxt.map List.length).getD i 0 = jtxtL i := by decide
theorem jextI_of {X : JX} {b : UInt32} {q : Nat × (Nat → Int32)} (h : jextI X b = some q) : (b.toNat = 0 ∧ q = X) ∨ (b.toNat = 1 ∧ q = (7, jsteps)) := by
  unfold jextI at h
  split at h
  next e => subst e; cases h; exact Or.inl ⟨rfl, rfl⟩
  next =>
    split at h
    next e => subst e; cases h; exact Or.inr ⟨rfl, rfl⟩
    next => cases h
theorem jextB_of {b : UInt32} {q : Nat × (Nat → Int32)} (h : jextB b = some q) : ∃ i, i < 11 ∧ b.toNat = 20 + i ∧ q = (jtxtL i, jtxtB i) := by
  unfold jextB at h
  split at h
  next e => cases h; exact ⟨b.toNat - 20, by omega, by omega, rfl⟩
  next => cases h
theorem jaI_of {X : JX} {h : JH} {v : Value} {i : Int32} {K : Int32 → Prop} (hj : jaI X h v i K) : (∃ a n f, v = .ref a ∧ h[a]? = some (.inl (.int, n, .inl f)) ∧ vp_in i n ∧ K (f i.toNatClampNeg)) ∨ ∃ b q, v = .float b ∧ jextI X b = some q ∧ vp_in i q.1 ∧ K (q.2 i.toNatClampNeg) := by
  unfold jaI at hj
  split at hj
  · split at hj
    next n f hq => exact Or.inl ⟨_, n, f, rfl, hq, hj.1, hj.2⟩
    next => exact hj.elim
  · split at hj
    next q hq => exact Or.inr ⟨_, q, rfl, hq, hj.1, hj.2⟩
    next => exact hj.elim
  · exact hj.elim
theorem jaB_of {h : JH} {v : Value} {i : Int32} {K : Int32 → Prop} (hj : jaB h v i K) : (∃ a n f, v = .ref a ∧ (h[a]? = some (.inl (.byte, n, .inl f)) ∨ h[a]? = some (.inl (.boolean, n, .inl f))) ∧ vp_in i n ∧ K (f i.toNatClampNeg)) ∨ ∃ b q, v = .float b ∧ jextB b = some q ∧ vp_in i q.1 ∧ K (q.2 i.toNatClampNeg) := by
  unfold jaB at hj
  split at hj
  · split at hj
    next n f hq => exact Or.inl ⟨_, n, f, rfl, Or.inl hq, hj.1, hj.2⟩
    next n f hq => exact Or.inl ⟨_, n, f, rfl, Or.inr hq, hj.1, hj.2⟩
    next => exact hj.elim
  · split at hj
    next q hq => exact Or.inr ⟨_, q, rfl, hq, hj.1, hj.2⟩
    next => exact hj.elim
  · exact hj.elim
theorem jaL_of {h : JH} {v : Value} {i : Int32} {K : Int64 → Prop} (hj : jaL h v i K) : ∃ a n f, v = .ref a ∧ h[a]? = some (.inl (.long, n, .inr (.inl f))) ∧ vp_in i n ∧ K (f i.toNatClampNeg) := by
  unfold jaL at hj
  split at hj
  · split at hj
    next n f hq => exact ⟨_, n, f, rfl, hq, hj.1, hj.2⟩
    next => exact hj.elim
  · exact hj.elim
theorem jaA_of {h : JH} {v : Value} {i : Int32} {K : Value → Prop} (hj : jaA h v i K) : ∃ a C n f, v = .ref a ∧ h[a]? = some (.inl (.object C, n, .inr (.inr (.inr (.inr f))))) ∧ vp_in i n ∧ K (va_rf (f i.toNatClampNeg)) := by
  unfold jaA at hj
  split at hj
  · split at hj
    next C n f hq => exact ⟨_, C, n, f, rfl, hq, hj.1, hj.2⟩
    next => exact hj.elim
  · exact hj.elim
theorem jwI_of {h : JH} {v : Value} {i x : Int32} {K : JH → Prop} (hj : jwI h v i x K) : ∃ a n f, v = .ref a ∧ h[a]? = some (.inl (.int, n, .inl f)) ∧ vp_in i n ∧ K (h.set a (.inl (.int, n, .inl (upd f i.toNatClampNeg x)))) := by
  unfold jwI at hj
  split at hj
  · split at hj
    next n f hq => exact ⟨_, n, f, rfl, hq, hj.1, hj.2⟩
    next => exact hj.elim
  · exact hj.elim
theorem jwB_of {h : JH} {v : Value} {i x : Int32} {K : JH → Prop} (hj : jwB h v i x K) : ∃ a n f, v = .ref a ∧ vp_in i n ∧ ((h[a]? = some (.inl (.byte, n, .inl f)) ∧ K (h.set a (.inl (.byte, n, .inl (upd f i.toNatClampNeg (vp_nar .byte x)))))) ∨ (h[a]? = some (.inl (.boolean, n, .inl f)) ∧ K (h.set a (.inl (.boolean, n, .inl (upd f i.toNatClampNeg (vp_nar .boolean x))))))) := by
  unfold jwB at hj
  split at hj
  · split at hj
    next n f hq => exact ⟨_, n, f, rfl, hj.1, Or.inl ⟨hq, hj.2⟩⟩
    next n f hq => exact ⟨_, n, f, rfl, hj.1, Or.inr ⟨hq, hj.2⟩⟩
    next => exact hj.elim
  · exact hj.elim
theorem jwL_of {h : JH} {v : Value} {i : Int32} {x : Int64} {K : JH → Prop} (hj : jwL h v i x K) : ∃ a n f, v = .ref a ∧ h[a]? = some (.inl (.long, n, .inr (.inl f))) ∧ vp_in i n ∧ K (h.set a (.inl (.long, n, .inr (.inl (vp_updL f i.toNatClampNeg x))))) := by
  unfold jwL at hj
  split at hj
  · split at hj
    next n f hq => exact ⟨_, n, f, rfl, hq, hj.1, hj.2⟩
    next => exact hj.elim
  · exact hj.elim
theorem jcls_of {h : JH} {b ci : Nat} (hc : jcls h b = some ci) : ∃ vs, h[b]? = some (.inr (ci, vs)) := by
  unfold jcls at hc
  split at hc
  next q hq => cases hc; exact ⟨q.2, hq⟩
  next => cases hc
theorem jwA_of {h : JH} {v w : Value} {i : Int32} {K : JH → Prop} (hj : jwA h v i w K) : ∃ a C n f b ci vs, v = .ref a ∧ w = .ref b ∧ h[a]? = some (.inl (.object C, n, .inr (.inr (.inr (.inr f))))) ∧ h[b]? = some (.inr (ci, vs)) ∧ vp_in i n ∧ (vwCl[ci]?.map (·.1)) = some C ∧ K (h.set a (.inl (.object C, n, .inr (.inr (.inr (.inr (va_up f i.toNatClampNeg (some b)))))))) := by
  unfold jwA at hj
  split at hj
  · split at hj
    next C n f hq =>
      split at hj
      · split at hj
        next ci hci =>
          obtain ⟨vs, hvs⟩ := jcls_of hci
          exact ⟨_, C, n, f, _, ci, vs, rfl, rfl, hq, hvs, hj.1, hj.2.1, hj.2.2⟩
        next => exact hj.elim
      · exact hj.elim
    next => exact hj.elim
  · exact hj.elim
theorem jaln_of {X : JX} {h : JH} {v : Value} {K : Int32 → Prop} (hj : jaln X h v K) : (∃ a q, v = .ref a ∧ h[a]? = some (.inl q) ∧ K (Int32.ofNat q.2.1)) ∨ (∃ b q, v = .float b ∧ jextI X b = some q ∧ K (Int32.ofNat q.1)) ∨ ∃ b q, v = .float b ∧ jextB b = some q ∧ K (Int32.ofNat q.1) := by
  unfold jaln at hj
  split at hj
  · split at hj
    next q hq => exact Or.inl ⟨_, q, rfl, hq, hj⟩
    next => exact hj.elim
  · split at hj
    next q hq => exact Or.inr (Or.inl ⟨_, q, rfl, hq, hj⟩)
    next =>
      split at hj
      next q hq => exact Or.inr (Or.inr ⟨_, q, rfl, hq, hj⟩)
      next => exact hj.elim
  · exact hj.elim
theorem ka_up {base : Nat} {f : Nat → Option Nat} {k b : Nat} : (fun j => (va_up f k (some b) j).map fun z => base + z) = va_up (fun j => (f j).map fun z => base + z) k (some (base + b)) := by
  funext j
  by_cases hj : j = k
  · subst hj; simp [va_up]
  · simp [va_up, hj]
theorem kv_rf {base : Nat} {EX : Nat → Value} {r : Option Nat} : kv base EX (va_rf r) = va_rf (r.map fun z => base + z) := by
  cases r <;> rfl
theorem jeOK9 {own : String} {idx a b : Nat} {z : Int} (h : jeOK own idx (9, a, b, z)) : own = RX9 ∧ ∃ tx, kstr[a]? = some (idx, tx) := h
theorem jeOK7 {own : String} {idx a b : Nat} {z : Int} (h : jeOK own idx (7, a, b, z)) : Cond.constant own idx (Int32.ofInt z) ∈ wsL_law := h
theorem jeOK8 {own : String} {idx a b : Nat} {z : Int} (h : jeOK own idx (8, a, b, z)) : Cond.constantLong own idx (Int64.ofInt z) ∈ wsL_law := h
theorem jeOK10 {own : String} {idx a b : Nat} {z : Int} (h : jeOK own idx (10, a, b, z)) : ∃ q : vw_C, vwCl[a]? = some q ∧ Cond.classLink own idx q.1 ∈ wsL_law := h
theorem jeOK11 {own : String} {idx a b : Nat} {z : Int} (h : jeOK own idx (11, a, b, z)) : (a = 0 ∧ Cond.fieldLink own idx RX8 "STEPS" "[I" ∈ wsL_law) ∨ (a = 1 ∧ Cond.fieldLink own idx RJ0 "COMPACT_STRINGS" "Z" ∈ wsL_law) ∨ (a = 2 ∧ Cond.fieldLink own idx RJ3 "SIOOBE_FORMATTER" "Ljava/util/function/BiFunction;" ∈ wsL_law) := by
  match a, h with
  | 0, h => exact Or.inl ⟨rfl, h⟩
  | 1, h => exact Or.inr (Or.inl ⟨rfl, h⟩)
  | 2, h => exact Or.inr (Or.inr ⟨rfl, h⟩)
  | n + 3, h => exact (show False from h).elim
theorem jldc_of {k a b : Nat} {z : Int} {K : Value → Prop} (hj : jldc (k, a, b, z) K) : (k = 7 ∧ K (.int (Int32.ofInt z))) ∨ (k = 9 ∧ K (.float (UInt32.ofNat (2 + a)))) := by
  unfold jldc at hj
  split at hj
  next h => exact Or.inl ⟨h, hj⟩
  next h => exact Or.inr ⟨h, hj⟩
  next => exact hj.elim
theorem jgs_of {k a b : Nat} {z : Int} {K : Value → Prop} (hj : jgs (k, a, b, z) K) : k = 11 ∧ ((a = 0 ∧ K (.float 1)) ∨ (a = 1 ∧ K (.int 1)) ∨ (a = 2 ∧ K (.float 50))) := by
  unfold jgs at hj
  split at hj
  next h =>
    refine ⟨h, ?_⟩
    split at hj
    next h => exact Or.inl ⟨h, hj⟩
    next h => exact Or.inr (Or.inl ⟨h, hj⟩)
    next h => exact Or.inr (Or.inr ⟨h, hj⟩)
    next => exact hj.elim
  next => exact hj.elim
theorem jins_ldc {X : JX} {call : JCall} {M : JM} {Q : JQ} {P : JP} {i : Nat} {pc : Nat} {ls : JL} {st : List Value} {h : JH} {c s tg kk : Nat} : jins X call M Q P (.ldc i) pc ls st h c s tg kk = (match jcp M.own i with
    | some e => jldc e fun v => P (pc + 2) ls (v :: st) h c s
    | none => False) := rfl
theorem jins_ldc2_w {X : JX} {call : JCall} {M : JM} {Q : JQ} {P : JP} {i : Nat} {pc : Nat} {ls : JL} {st : List Value} {h : JH} {c s tg kk : Nat} : jins X call M Q P (.ldc2_w i) pc ls st h c s tg kk = (match jcp M.own i with
    | some e => if e.1 = 8 then P (pc + 3) ls (.long (Int64.ofInt e.2.2.2) :: st) h c s else False
    | none => False) := rfl
theorem jins_getstatic {X : JX} {call : JCall} {M : JM} {Q : JQ} {P : JP} {i : Nat} {pc : Nat} {ls : JL} {st : List Value} {h : JH} {c s tg kk : Nat} : jins X call M Q P (.getstatic i) pc ls st h c s tg kk = (match jcp M.own i with
    | some e => jgs e fun w => P (pc + 3) ls (w :: st) h c s
    | none => False) := rfl
theorem jins_anewarray {X : JX} {call : JCall} {M : JM} {Q : JQ} {P : JP} {i : Nat} {pc : Nat} {ls : JL} {st : List Value} {h : JH} {c s tg kk : Nat} : jins X call M Q P (.anewarray i) pc ls st h c s tg kk = (match jcp M.own i with
    | some e => if e.1 = 10 then jpI st fun n r => jnr M e.2.1 n h c s fun h2 c2 s2 => P (pc + 3) ls (.ref h.length :: r) h2 c2 s2 else False
    | none => False) := rfl
theorem jins_new {X : JX} {call : JCall} {M : JM} {Q : JQ} {P : JP} {i : Nat} {pc : Nat} {ls : JL} {st : List Value} {h : JH} {c s tg kk : Nat} : jins X call M Q P (.new i) pc ls st h c s tg kk = (match jcp M.own i with
    | some e => if e.1 = 10 then jno M e.2.1 h c s fun h2 c2 s2 => P (pc + 3) ls (.ref h.length :: st) h2 c2 s2 else False
    | none => False) := rfl
section KA
variable {p : Program} {l : Launch} {e : Env} {R : Room} {s : State} {m : MethodId} {args : Array Value} {below : List Frame} {meth : Method} {c : Code} {M : JM} {d base : Nat} {EX : Nat → Value} {D : va_G} {dA : FieldType → ClassId} {X : JX} {Qp : State → Prop} {call : JCall} {Q : JQ} {pc : Nat} {ls : JL} {st : List Value} {h : JH} {n1 n2 tg kk : Nat}
theorem k_iaload (C : KC p R s m args meth c M d base EX D dA X) (hd : decode M.bytes pc = .ok (.iaload, 1)) (hj : jins X call M Q (KW p l e R s m args below meth c M base EX D dA Qp) (.iaload) pc ls st h n1 n2 tg kk) : (KW p l e R s m args below meth c M base EX D dA Qp) pc ls st h n1 n2 := by
  intro H locs lsl z1 z2 hw hS hr
  unfold jins at hj
  obtain ⟨i, r0, rfl, hj1⟩ := jpI_of hj
  obtain ⟨v, r, rfl, hj2⟩ := jpV_of hj1
  rcases jaI_of hj2 with ⟨a, n, f, rfl, g1, g2, hj3⟩ | ⟨b, q, rfl, g1, g2, hj3⟩
  · exact va_iald C.1 C.2.1 C.2.2.2.2.2.1 hw.2.1 a 0 (kw_get g1) rfl g2 hd (hj3 H locs lsl z1 z2 hw hS hr)
  · rcases jextI_of g1 with ⟨e1, rfl⟩ | ⟨e1, rfl⟩
    · obtain ⟨b0, t1, t2, t3⟩ := C.2.2.2.2.2.2.1.1
      have ek : kv base EX (.float b) = .ref b0 := by show EX b.toNat = _; rw [e1, t1]
      show W p l e R s m args below meth c H locs n1 n2 Qp (F0 m pc lsl (.int i :: kv base EX (.float b) :: r.map (kv base EX)))
      rw [ek]
      exact va_sld C.1 C.2.1 t2 (Nat.lt_of_lt_of_le t3 C.2.2.2.2.2.2.2.1) (Nat.not_le.mpr t3) hS g2 hd (hj3 H locs lsl z1 z2 hw hS hr)
    · obtain ⟨b0, t1, t2, t3⟩ := C.2.2.2.2.2.2.1.2.1
      have ek : kv base EX (.float b) = .ref b0 := by show EX b.toNat = _; rw [e1, t1]
      show W p l e R s m args below meth c H locs n1 n2 Qp (F0 m pc lsl (.int i :: kv base EX (.float b) :: r.map (kv base EX)))
      rw [ek]
      exact va_ti C.1 C.2.1 t3 hS g2 rfl hd (hj3 H locs lsl z1 z2 hw hS hr)
theorem k_baload (C : KC p R s m args meth c M d base EX D dA X) (hd : decode M.bytes pc = .ok (.baload, 1)) (hj : jins X call M Q (KW p l e R s m args below meth c M base EX D dA Qp) (.baload) pc ls st h n1 n2 tg kk) : (KW p l e R s m args below meth c M base EX D dA Qp) pc ls st h n1 n2 := by
  intro H locs lsl z1 z2 hw hS hr
  unfold jins at hj
  obtain ⟨i, r0, rfl, hj1⟩ := jpI_of hj
  obtain ⟨v, r, rfl, hj2⟩ := jpV_of hj1
  rcases jaB_of hj2 with ⟨a, n, f, rfl, g1, g2, hj3⟩ | ⟨b, q, rfl, g1, g2, hj3⟩
  · rcases g1 with g1 | g1
    · exact va_bald C.1 C.2.1 C.2.2.2.2.2.1 hw.2.1 a 3 (kw_get g1) rfl g2 hd (hj3 H locs lsl z1 z2 hw hS hr)
    · exact va_zald C.1 C.2.1 C.2.2.2.2.2.1 hw.2.1 a 2 (kw_get g1) rfl g2 hd (hj3 H locs lsl z1 z2 hw hS hr)
  · obtain ⟨k, hk, e1, rfl⟩ := jextB_of g1
    obtain ⟨adK, adV, t1, t2, t3⟩ := C.2.2.2.2.2.2.1.2.2.2.2.1
    have ek : kv base EX (.float b) = .ref (adV k) := by show EX b.toNat = _; rw [e1, (t2 k hk).2]
    show W p l e R s m args below meth c H locs n1 n2 Qp (F0 m pc lsl (.int i :: kv base EX (.float b) :: r.map (kv base EX)))
    rw [ek]
    exact va_tb C.1 C.2.1 (t1.1 k hk).2.2.2 hS (by rw [jtxt_len k hk]; exact g2) rfl hd (hj3 H locs lsl z1 z2 hw hS hr)
theorem k_laload (C : KC p R s m args meth c M d base EX D dA X) (hd : decode M.bytes pc = .ok (.laload, 1)) (hj : jins X call M Q (KW p l e R s m args below meth c M base EX D dA Qp) (.laload) pc ls st h n1 n2 tg kk) : (KW p l e R s m args below meth c M base EX D dA Qp) pc ls st h n1 n2 := by
  intro H locs lsl z1 z2 hw hS hr
  unfold jins at hj
  obtain ⟨i, r0, rfl, hj1⟩ := jpI_of hj
  obtain ⟨v, r, rfl, hj2⟩ := jpV_of hj1
  obtain ⟨a, n, f, rfl, g1, g2, hj3⟩ := jaL_of hj2
  exact va_lald C.1 C.2.1 C.2.2.2.2.2.1 hw.2.1 a 1 (kw_get g1) rfl g2 hd (hj3 H locs lsl z1 z2 hw hS hr)
theorem k_aaload (C : KC p R s m args meth c M d base EX D dA X) (hd : decode M.bytes pc = .ok (.aaload, 1)) (hj : jins X call M Q (KW p l e R s m args below meth c M base EX D dA Qp) (.aaload) pc ls st h n1 n2 tg kk) : (KW p l e R s m args below meth c M base EX D dA Qp) pc ls st h n1 n2 := by
  intro H locs lsl z1 z2 hw hS hr
  unfold jins at hj
  obtain ⟨i, r0, rfl, hj1⟩ := jpI_of hj
  obtain ⟨v, r, rfl, hj2⟩ := jpV_of hj1
  obtain ⟨a, Cn, n, f, rfl, g1, g2, hj3⟩ := jaA_of hj2
  obtain ⟨t0, ht0⟩ := hw.2.2 a _ g1
  have hz := hj3 H locs lsl z1 z2 hw hS hr
  rw [List.map_cons, kv_rf] at hz
  exact va_aldq (f := fun j => (f j).map fun z => base + z) C.1 C.2.1 C.2.2.2.2.2.1 hw.2.1 a t0 (kw_get g1) (ktys_at ht0) g2 hd hz
theorem k_arraylength (C : KC p R s m args meth c M d base EX D dA X) (hd : decode M.bytes pc = .ok (.arraylength, 1)) (hj : jins X call M Q (KW p l e R s m args below meth c M base EX D dA Qp) (.arraylength) pc ls st h n1 n2 tg kk) : (KW p l e R s m args below meth c M base EX D dA Qp) pc ls st h n1 n2 := by
  intro H locs lsl z1 z2 hw hS hr
  unfold jins at hj
  obtain ⟨v, r, rfl, hj2⟩ := jpV_of hj
  rcases jaln_of hj2 with ⟨a, q, rfl, g1, hj3⟩ | ⟨b, q, rfl, g1, hj3⟩ | ⟨b, q, rfl, g1, hj3⟩
  · obtain ⟨t0, ht0⟩ := hw.2.2 a _ g1
    exact va_alen (x := ka base q.2) C.1 C.2.1 C.2.2.2.2.2.1 hw.2.1 a t0 (kw_get g1) (ktys_at ht0) rfl hd (hj3 H locs lsl z1 z2 hw hS hr)
  · rcases jextI_of g1 with ⟨e1, rfl⟩ | ⟨e1, rfl⟩
    · obtain ⟨b0, t1, t2, t3⟩ := C.2.2.2.2.2.2.1.1
      have ek : kv base EX (.float b) = .ref b0 := by show EX b.toNat = _; rw [e1, t1]
      show W p l e R s m args below meth c H locs n1 n2 Qp (F0 m pc lsl (kv base EX (.float b) :: r.map (kv base EX)))
      rw [ek]
      exact va_slen C.1 C.2.1 t2 (Nat.lt_of_lt_of_le t3 C.2.2.2.2.2.2.2.1) (Nat.not_le.mpr t3) hS hd (hj3 H locs lsl z1 z2 hw hS hr)
    · obtain ⟨b0, t1, t2, t3⟩ := C.2.2.2.2.2.2.1.2.1
      have ek : kv base EX (.float b) = .ref b0 := by show EX b.toNat = _; rw [e1, t1]
      show W p l e R s m args below meth c H locs n1 n2 Qp (F0 m pc lsl (kv base EX (.float b) :: r.map (kv base EX)))
      rw [ek]
      exact va_tlen C.1 C.2.1 t3 hS rfl hd (hj3 H locs lsl z1 z2 hw hS hr)
  · obtain ⟨k, hk, e1, rfl⟩ := jextB_of g1
    obtain ⟨adK, adV, t1, t2, t3⟩ := C.2.2.2.2.2.2.1.2.2.2.2.1
    have ek : kv base EX (.float b) = .ref (adV k) := by show EX b.toNat = _; rw [e1, (t2 k hk).2]
    show W p l e R s m args below meth c H locs n1 n2 Qp (F0 m pc lsl (kv base EX (.float b) :: r.map (kv base EX)))
    rw [ek]
    exact va_tlen C.1 C.2.1 (t1.1 k hk).2.2.2 hS (by rw [jtxt_len k hk]) hd (hj3 H locs lsl z1 z2 hw hS hr)
theorem k_iastore (C : KC p R s m args meth c M d base EX D dA X) (hd : decode M.bytes pc = .ok (.iastore, 1)) (hj : jins X call M Q (KW p l e R s m args below meth c M base EX D dA Qp) (.iastore) pc ls st h n1 n2 tg kk) : (KW p l e R s m args below meth c M base EX D dA Qp) pc ls st h n1 n2 := by
  intro H locs lsl z1 z2 hw hS hr
  unfold jins at hj
  obtain ⟨x, r1, rfl, hj0⟩ := jpI_of hj
  obtain ⟨i, r0, rfl, hj1⟩ := jpI_of hj0
  obtain ⟨v, r, rfl, hj2⟩ := jpV_of hj1
  obtain ⟨a, n, f, rfl, g1, g2, hj3⟩ := jwI_of hj2
  have hc : H[base + a]? = some (vp_cell (dA .int) (n, .inl f)) := hw.2.1 a _ (kw_get g1)
  refine W.iast C.1 C.2.1 hc ((C.2.2.2.2.2.1.2 0 _ rfl).1 n (fun j => .int (f j))) (fun q => by cases q) (by show ¬ (i < 0 ∨ (arrV _ _ _).slots.size ≤ _); rw [arrV_size]; exact g2) rfl rfl hd fun H1 e1 z oq => ?_
  exact hj3 H1 _ lsl z1 z2 (kwd_set hw g1 z oq (show H1[base + a]? = some (vp_cell _ _) by rw [e1]; exact congrArg some (kst_i _ _ _ _ _)) ⟨0, rfl⟩) (hS.put z oq (Nat.le_add_right _ _)) hr
theorem k_bastore (C : KC p R s m args meth c M d base EX D dA X) (hd : decode M.bytes pc = .ok (.bastore, 1)) (hj : jins X call M Q (KW p l e R s m args below meth c M base EX D dA Qp) (.bastore) pc ls st h n1 n2 tg kk) : (KW p l e R s m args below meth c M base EX D dA Qp) pc ls st h n1 n2 := by
  intro H locs lsl z1 z2 hw hS hr
  unfold jins at hj
  obtain ⟨x, r1, rfl, hj0⟩ := jpI_of hj
  obtain ⟨i, r0, rfl, hj1⟩ := jpI_of hj0
  obtain ⟨v, r, rfl, hj2⟩ := jpV_of hj1
  obtain ⟨a, n, f, rfl, g2, hj3⟩ := jwB_of hj2
  rcases hj3 with ⟨g1, hj3⟩ | ⟨g1, hj3⟩
  · have hc : H[base + a]? = some (vp_cell (dA .byte) (n, .inl f)) := hw.2.1 a _ (kw_get g1)
    refine W.bast C.1 C.2.1 hc ((C.2.2.2.2.2.1.2 3 _ rfl).1 n (fun j => .int (f j))) (fun q => by cases q) (by show ¬ (i < 0 ∨ (arrV _ _ _).slots.size ≤ _); rw [arrV_size]; exact g2) rfl rfl hd fun H1 e1 z oq => ?_
    exact hj3 H1 _ lsl z1 z2 (kwd_set hw g1 z oq (show H1[base + a]? = some (vp_cell _ _) by rw [e1]; exact congrArg some (kst_i _ _ _ _ (vp_nar .byte x))) ⟨3, rfl⟩) (hS.put z oq (Nat.le_add_right _ _)) hr
  · have hc : H[base + a]? = some (vp_cell (dA .boolean) (n, .inl f)) := hw.2.1 a _ (kw_get g1)
    refine W.zast C.1 C.2.1 hc ((C.2.2.2.2.2.1.2 2 _ rfl).1 n (fun j => .int (f j))) (fun q => by cases q) (by show ¬ (i < 0 ∨ (arrV _ _ _).slots.size ≤ _); rw [arrV_size]; exact g2) rfl rfl hd fun H1 e1 z oq => ?_
    exact hj3 H1 _ lsl z1 z2 (kwd_set hw g1 z oq (show H1[base + a]? = some (vp_cell _ _) by rw [e1]; exact congrArg some (kst_i _ _ _ _ (vp_nar .boolean x))) ⟨2, rfl⟩) (hS.put z oq (Nat.le_add_right _ _)) hr
theorem k_lastore (C : KC p R s m args meth c M d base EX D dA X) (hd : decode M.bytes pc = .ok (.lastore, 1)) (hj : jins X call M Q (KW p l e R s m args below meth c M base EX D dA Qp) (.lastore) pc ls st h n1 n2 tg kk) : (KW p l e R s m args below meth c M base EX D dA Qp) pc ls st h n1 n2 := by
  intro H locs lsl z1 z2 hw hS hr
  unfold jins at hj
  obtain ⟨x, r1, rfl, hj0⟩ := jpL_of hj
  obtain ⟨i, r0, rfl, hj1⟩ := jpI_of hj0
  obtain ⟨v, r, rfl, hj2⟩ := jpV_of hj1
  obtain ⟨a, n, f, rfl, g1, g2, hj3⟩ := jwL_of hj2
  have hc : H[base + a]? = some (vp_cell (dA .long) (n, .inr (.inl f))) := hw.2.1 a _ (kw_get g1)
  refine W.last C.1 C.2.1 hc ((C.2.2.2.2.2.1.2 1 _ rfl).1 n (fun j => .long (f j))) (fun q => by cases q) (by show ¬ (i < 0 ∨ (arrV _ _ _).slots.size ≤ _); rw [arrV_size]; exact g2) rfl rfl hd fun H1 e1 z oq => ?_
  exact hj3 H1 _ lsl z1 z2 (kwd_set hw g1 z oq (show H1[base + a]? = some (vp_cell _ _) by rw [e1]; exact congrArg some (kst_l _ _ _ _ _)) ⟨1, rfl⟩) (hS.put z oq (Nat.le_add_right _ _)) hr
theorem k_aastore (C : KC p R s m args meth c M d base EX D dA X) (hd : decode M.bytes pc = .ok (.aastore, 1)) (hj : jins X call M Q (KW p l e R s m args below meth c M base EX D dA Qp) (.aastore) pc ls st h n1 n2 tg kk) : (KW p l e R s m args below meth c M base EX D dA Qp) pc ls st h n1 n2 := by
  intro H locs lsl z1 z2 hw hS hr
  unfold jins at hj
  obtain ⟨w, r1, rfl, hj0⟩ := jpV_of hj
  obtain ⟨i, r0, rfl, hj1⟩ := jpI_of hj0
  obtain ⟨v, r, rfl, hj2⟩ := jpV_of hj1
  obtain ⟨a, Cn, n, f, b, ci, vs, rfl, rfl, g1, gb, g2, gc, hj3⟩ := jwA_of hj2
  obtain ⟨q, hq, hqc⟩ := Option.map_eq_some_iff.mp gc
  subst hqc
  obtain ⟨t0, ht0⟩ := hw.2.2 a _ g1
  have hK := C.2.2.2.2.2.1
  have hc : H[base + a]? = some (vp_cell (dA (.object q.1)) (n, .inr (.inr (.inr (.inr fun j => (f j).map fun z => base + z))))) := hw.2.1 a _ (kw_get g1)
  obtain ⟨r', hr', cellV, f1, f2, f3, -⟩ := hw.2.1 b _ (kw_get gb)
  have hre := hr'.symm.trans hq
  cases hre
  have hcls := (hK.1 ci q hq).2
  obtain ⟨kA, comp, k1, k2, k3, -⟩ := (hK.2 t0 _ (ktys_at ht0)).2
  have hcomp : comp = D.1 ci := Option.some.inj (k3.symm.trans hcls.1)
  subst hcomp
  obtain ⟨kC, hkC, -⟩ := hcls.2
  have hlt : i.toNatClampNeg < n := Nat.not_le.mp fun q => g2 (Or.inr q)
  have h0 : ¬ i < 0 := fun q => g2 (Or.inl q)
  refine W.aast C.1 C.2.1 hc (fun q h => by cases h) (fun h => by cases h) k1 k2 rfl hkC ⟨h0, by show _ < (arrV _ _ _).slots.size; rw [arrV_size]; exact hlt⟩ f1 (fun q h => by rw [f3] at h; cases h) (by rw [f2]; exact hkC) (by rw [f2]; exact va_assign hcls) rfl rfl hd fun H1 e1 z oq => ?_
  exact hj3 H1 _ lsl z1 z2 (kwd_set hw g1 z oq (show H1[base + a]? = some (vp_cell (dA (.object q.1)) (n, .inr (.inr (.inr (.inr fun j => (va_up f i.toNatClampNeg (some b) j).map fun z => base + z))))) by rw [e1, ka_up]; exact congrArg some (kst_q _ _ _ _ _)) ⟨t0, ht0⟩) (hS.put z oq (Nat.le_add_right _ _)) hr
theorem k_getstatic {n : Nat} (C : KC p R s m args meth c M d base EX D dA X) (hd : decode M.bytes pc = .ok (.getstatic n, 3)) (hj : jins X call M Q (KW p l e R s m args below meth c M base EX D dA Qp) (.getstatic n) pc ls st h n1 n2 tg kk) : (KW p l e R s m args below meth c M base EX D dA Qp) pc ls st h n1 n2 := by
  intro H locs lsl z1 z2 hw hS hr
  rw [jins_getstatic] at hj
  split at hj
  next en hen =>
    have hok := jcp_ok hen
    obtain ⟨k, a, b, z⟩ := en
    obtain ⟨rfl, hj1⟩ := jgs_of hj
    have hS' : va_S (fun q => base ≤ q) s.heap H locs := hS
    rcases jeOK11 hok with ⟨ha, hm⟩ | ⟨ha, hm⟩ | ⟨ha, hm⟩
    · rcases hj1 with ⟨-, hj2⟩ | ⟨hb, hj2⟩ | ⟨hb, hj2⟩
      · obtain ⟨t, t1, t2, t3⟩ := C.2.2.2.2.2.2.1.2.1
        have hz := hj2 H locs lsl z1 z2 hw hS hr
        rw [List.map_cons, show kv base EX (.float 1) = .ref t from t1] at hz
        exact va_gets C.1 C.2.1 t2 hS' C.2.2.2.1 (C.2.2.2.2.1 _ hm) (fun _ h9 => h9) hd hz
      · omega
      · omega
    · rcases hj1 with ⟨hb, hj2⟩ | ⟨-, hj2⟩ | ⟨hb, hj2⟩
      · omega
      · exact va_gets C.1 C.2.1 C.2.2.2.2.2.2.1.2.2.1 hS' C.2.2.2.1 (C.2.2.2.2.1 _ hm) (fun _ h9 => h9) hd (hj2 H locs lsl z1 z2 hw hS hr)
      · omega
    · rcases hj1 with ⟨hb, hj2⟩ | ⟨hb, hj2⟩ | ⟨-, hj2⟩
      · omega
      · omega
      · exact va_gets C.1 C.2.1 C.2.2.2.2.2.2.1.2.2.2.1 hS' C.2.2.2.1 (C.2.2.2.2.1 _ hm) (fun _ h9 => h9) hd (hj2 H locs lsl z1 z2 hw hS hr)
  next => exact hj.elim
theorem k_ldc {n : Nat} (C : KC p R s m args meth c M d base EX D dA X) (hd : decode M.bytes pc = .ok (.ldc n, 2)) (hj : jins X call M Q (KW p l e R s m args below meth c M base EX D dA Qp) (.ldc n) pc ls st h n1 n2 tg kk) : (KW p l e R s m args below meth c M base EX D dA Qp) pc ls st h n1 n2 := by
  intro H locs lsl z1 z2 hw hS hr
  rw [jins_ldc] at hj
  split at hj
  next en hen =>
    have hok := jcp_ok hen
    obtain ⟨k, a, b, z⟩ := en
    rcases jldc_of hj with ⟨rfl, hj1⟩ | ⟨rfl, hj1⟩
    · exact lv_ldc C.1 C.2.1 C.2.2.2.1 (C.2.2.2.2.1 _ (jeOK7 hok)) hd (hj1 H locs lsl z1 z2 hw hS hr)
    · obtain ⟨ho, tx, htx⟩ := jeOK9 hok
      obtain ⟨adK, adV, t1, t2, t3⟩ := C.2.2.2.2.2.2.1.2.2.2.2.1
      have ha : a < 11 := (List.getElem?_eq_some_iff.mp htx).1
      have hz := hj1 H locs lsl z1 z2 hw hS hr
      have ek : kv base EX (.float (UInt32.ofNat (2 + a))) = .ref (adK a) := by
        show EX (UInt32.ofNat (2 + a)).toNat = _
        rw [UInt32.toNat_ofNat_of_lt' (by show 2 + a < 4294967296; omega), (t2 a ha).1]
      rw [List.map_cons, ek] at hz
      exact va_ldcS (own := RX9) C.1 C.2.1 (by rw [← ho]; exact C.2.2.2.1) (t3 a _ htx) hd hz
  next => exact hj.elim
theorem k_ldc2_w {n : Nat} (C : KC p R s m args meth c M d base EX D dA X) (hd : decode M.bytes pc = .ok (.ldc2_w n, 3)) (hj : jins X call M Q (KW p l e R s m args below meth c M base EX D dA Qp) (.ldc2_w n) pc ls st h n1 n2 tg kk) : (KW p l e R s m args below meth c M base EX D dA Qp) pc ls st h n1 n2 := by
  intro H locs lsl z1 z2 hw hS hr
  rw [jins_ldc2_w] at hj
  split at hj
  next en hen =>
    have hok := jcp_ok hen
    obtain ⟨k, a, b, z⟩ := en
    obtain ⟨hk, hj1⟩ := jif_of hj
    have hk : k = 8 := hk
    subst hk
    exact lv_ldc2 C.1 C.2.1 C.2.2.2.1 (C.2.2.2.2.1 _ (jeOK8 hok)) hd (hj1 H locs lsl z1 z2 hw hS hr)
  next => exact hj.elim
theorem jna_of {t : ArrayType} {n : Int32} {h : JH} {c s : Nat} {K : JH → Nat → Nat → Prop} (hj : jna M t n h c s K) : ∃ q, jdef t n.toNatClampNeg = some q ∧ ¬ n < 0 ∧ n.toNatClampNeg ≤ 60000000 ∧ c + 1 ≤ M.mc ∧ s + n.toNatClampNeg ≤ M.ms ∧ K (h ++ [q]) (c + 1) (s + n.toNatClampNeg) := by
  unfold jna at hj
  split at hj
  next q hq => exact ⟨q, hq, hj⟩
  next => exact hj.elim
theorem jnr_of {ci : Nat} {n : Int32} {h : JH} {c s : Nat} {K : JH → Nat → Nat → Prop} (hj : jnr M ci n h c s K) : ∃ q, vwCl[ci]? = some q ∧ ¬ n < 0 ∧ n.toNatClampNeg ≤ 60000000 ∧ c + 1 ≤ M.mc ∧ s + n.toNatClampNeg ≤ M.ms ∧ (ci = 6 ∨ ci = 8 ∨ ci = 10) ∧ K (h ++ [.inl (.object q.1, n.toNatClampNeg, .inr (.inr (.inr (.inr fun _ => none))))]) (c + 1) (s + n.toNatClampNeg) := by
  unfold jnr at hj
  split at hj
  next q hq => exact ⟨q, hq, hj⟩
  next => exact hj.elim
theorem jnew_in : ∀ {ci : Nat}, ci < 13 → Cond.instantiable (jcn ci) (jnf ci) ∈ wsL_law ∧ Cond.initialized (jcn ci) ∈ wsL_law
  | 0, _ => jnew_0
  | 1, _ => jnew_1
  | 2, _ => jnew_2
  | 3, _ => jnew_3
  | 4, _ => jnew_4
  | 5, _ => jnew_5
  | 6, _ => jnew_6
  | 7, _ => jnew_7
  | 8, _ => jnew_8
  | 9, _ => jnew_9
  | 10, _ => jnew_10
  | 11, _ => jnew_11
  | 12, _ => jnew_12
  | n + 13, h => absurd h (by omega)
theorem jdv_ok : ∀ {t : FieldType}, (t = .int ∨ t = .boolean ∨ t = .long ∨ (∃ C, t = .object C) ∨ ∃ u, t = .array u) → defaultValue t = jdv t := by
  rintro t (rfl | rfl | rfl | ⟨C, rfl⟩ | ⟨u, rfl⟩) <;> rfl
def jtok (t : FieldType) : Bool := match t with
  | .int => true
  | .boolean => true
  | .long => true
  | .object _ => true
  | .array _ => true
  | _ => false
theorem jtok_of {t : FieldType} (h : jtok t = true) : defaultValue t = jdv t := by
  cases t <;> first | rfl | cases h
theorem jty_tok : ∀ {ci : Nat}, ci < 13 → ∀ k, k < jnf ci → jtok (jty ci k) = true
  | 0, _ => by decide +kernel
  | 1, _ => by decide +kernel
  | 2, _ => by decide +kernel
  | 3, _ => by decide +kernel
  | 4, _ => by decide +kernel
  | 5, _ => by decide +kernel
  | 6, _ => by decide +kernel
  | 7, _ => by decide +kernel
  | 8, _ => by decide +kernel
  | 9, _ => by decide +kernel
  | 10, _ => by decide +kernel
  | 11, _ => by decide +kernel
  | 12, _ => by decide +kernel
  | n + 13, h => absurd h (by omega)
theorem jfs0_at {ci k : Nat} (hk : k < jnf ci) {base : Nat} {EX : Nat → Value} : vp_V ((jfs0 ci).map (kv base EX)) k = jdv (jty ci k) := by
  rw [vp_V, jfs0, List.map_map, List.getD_eq_getElem?_getD, List.getElem?_map, List.getElem?_range hk]
  show kv base EX (jdv (jty ci k)) = _
  generalize jty ci k = t
  cases t <;> rfl
theorem k_new {n : Nat} (C : KC p R s m args meth c M d base EX D dA X) (hd : decode M.bytes pc = .ok (.new n, 3)) (hj : jins X call M Q (KW p l e R s m args below meth c M base EX D dA Qp) (.new n) pc ls st h n1 n2 tg kk) : (KW p l e R s m args below meth c M base EX D dA Qp) pc ls st h n1 n2 := by
  intro H locs lsl z1 z2 hw hS hr
  rw [jins_new] at hj
  split at hj
  next en hen =>
    have hok := jcp_ok hen
    obtain ⟨k, a, b, z⟩ := en
    obtain ⟨hk, hj1⟩ := jif_of hj
    have hk : k = 10 := hk
    subst hk
    obtain ⟨q, hq, hm⟩ := jeOK10 hok
    obtain ⟨g1, g2, hci, hj2⟩ := hj1
    have hqe := (jcl_at hci).symm.trans hq
    cases hqe
    have hts := C.2.2.2.2.1
    have hK := C.2.2.2.2.2.1
    have hKn := hK.1 a _ hq
    refine W.newcK C.1 C.2.1 C.2.2.2.1 (hts _ hm) (hts _ (jnew_in hci).1) (hts _ (jnew_in hci).2) rfl hd (Nat.le_trans g1 C.2.2.2.2.2.2.2.2.2.1.1) (Nat.le_trans g2 C.2.2.2.2.2.2.2.2.2.1.2.1) hKn.2.1 hw.1 fun H1 kC hkC e1 zz oo => ?_
    exact hj2 H1 locs lsl g1 g2 (kwd_push hw (by rw [zz, hw.1]) (fun q hq => oo q (by rw [← hw.1]; exact hq)) ⟨_, hq, (u_born (jty a) hts (jcl_in hci) hKn hkC e1 (jcl_ty hci)).to (fun j hj => by rw [jfs0_at hj]; exact jtok_of (jty_tok hci j hj))⟩ trivial) (hS.push (by rw [zz, hw.1]) (fun q hq => oo q (by rw [← hw.1]; exact hq))) hr
  next => exact hj.elim
theorem k_newarray {t : ArrayType} (C : KC p R s m args meth c M d base EX D dA X) (hd : decode M.bytes pc = .ok (.newarray t, 2)) (hj : jins X call M Q (KW p l e R s m args below meth c M base EX D dA Qp) (.newarray t) pc ls st h n1 n2 tg kk) : (KW p l e R s m args below meth c M base EX D dA Qp) pc ls st h n1 n2 := by
  intro H locs lsl z1 z2 hw hS hr
  unfold jins at hj
  obtain ⟨n, r, rfl, hj1⟩ := jpI_of hj
  obtain ⟨q, hq, g1, g2, g3, g4, hj2⟩ := jna_of hj1
  have hts := C.2.2.2.2.1
  have hK := C.2.2.2.2.2.1
  have key : ∀ (t : ArrayType) (t0 : Nat) (ty : FieldType), newarray.typeOf t = ty → kty[t0]? = some ty → (Cond.arrayClass (newarray.typeOf t)).before args s = true → decode M.bytes pc = .ok (.newarray t, 2) → componentBytes ty ≤ 8 → (∀ cA : ClassId, s.vm.findClass ("[" ++ ty.toString) = some cA → cA = dA ty) → ∀ q : JC, (∀ H1 : Heap, H1[base + h.length]? = some (arrV (dA ty) n.toNatClampNeg (fun _ => defaultValue ty)) → va_at D vwCl (base + h.length, ke base EX dA q) H1) → kok q → KW p l e R s m args below meth c M base EX D dA Qp (pc + 2) ls (.ref h.length :: r) (h ++ [q]) (n1 + 1) (n2 + n.toNatClampNeg) → W p l e R s m args below meth c H locs n1 n2 Qp (F0 m pc lsl (.int n :: r.map (kv base EX))) := by
    intro t t0 ty hty hkt harr hd hcb hA q hat hkq hj2
    refine va_newaK C.1 C.2.1 harr rfl hd rfl g1 rfl (by rw [hty]; have := Nat.mul_le_mul g2 hcb; omega) (Nat.le_trans g3 C.2.2.2.2.2.2.2.2.2.1.1) (Nat.le_trans g4 C.2.2.2.2.2.2.2.2.2.1.2.1) hw.1 fun H1 cA e1 zz oo hAr hNm => ?_
    rw [hty] at e1 hNm
    have hcA := hA cA hNm
    subst hcA
    exact hj2 H1 locs lsl g3 g4 (kwd_push hw (by rw [zz, hw.1]) (fun q hq => oo q (by rw [← hw.1]; exact hq)) (hat H1 e1) hkq) (hS.push (by rw [zz, hw.1]) (fun q hq => oo q (by rw [← hw.1]; exact hq))) hr
  have hA : ∀ (t0 : Nat) (ty : FieldType), kty[t0]? = some ty → (∀ C, ty ≠ .object C) → ∀ cA : ClassId, s.vm.findClass ("[" ++ ty.toString) = some cA → cA = dA ty := by
    intro t0 ty h0 hno cA h1
    have h2 := (hK.2 t0 _ (ktys_at h0)).2
    unfold va_RA at h2
    split at h2
    next C hC => exact absurd hC (hno C)
    next => exact Option.some.inj (h1.symm.trans h2)
  cases t <;> first | cases hq; done | skip
  all_goals cases hq
  · exact key .boolean 2 .boolean rfl rfl (hts _ jar_boolean) hd (by decide) (hA 2 .boolean rfl (fun _ h => by cases h)) (.inl (.boolean, n.toNatClampNeg, .inl fun _ => 0)) (fun H1 hz => hz) ⟨2, rfl⟩ hj2
  · exact key .byte 3 .byte rfl rfl (hts _ jar_byte) hd (by decide) (hA 3 .byte rfl (fun _ h => by cases h)) (.inl (.byte, n.toNatClampNeg, .inl fun _ => 0)) (fun H1 hz => hz) ⟨3, rfl⟩ hj2
  · exact key .int 0 .int rfl rfl (hts _ jar_int) hd (by decide) (hA 0 .int rfl (fun _ h => by cases h)) (.inl (.int, n.toNatClampNeg, .inl fun _ => 0)) (fun H1 hz => hz) ⟨0, rfl⟩ hj2
  · exact key .long 1 .long rfl rfl (hts _ jar_long) hd (by decide) (hA 1 .long rfl (fun _ h => by cases h)) (.inl (.long, n.toNatClampNeg, .inr (.inl fun _ => 0))) (fun H1 hz => hz) ⟨1, rfl⟩ hj2
theorem k_anewarray {n : Nat} (C : KC p R s m args meth c M d base EX D dA X) (hd : decode M.bytes pc = .ok (.anewarray n, 3)) (hj : jins X call M Q (KW p l e R s m args below meth c M base EX D dA Qp) (.anewarray n) pc ls st h n1 n2 tg kk) : (KW p l e R s m args below meth c M base EX D dA Qp) pc ls st h n1 n2 := by
  intro H locs lsl z1 z2 hw hS hr
  rw [jins_anewarray] at hj
  split at hj
  next en hen =>
    have hok := jcp_ok hen
    obtain ⟨k, a, b, z⟩ := en
    obtain ⟨hk, hj0⟩ := jif_of hj
    have hk : k = 10 := hk
    subst hk
    obtain ⟨n, r, rfl, hj1⟩ := jpI_of hj0
    obtain ⟨q, hq, g1, g2, g3, g4, hci, hj2⟩ := jnr_of hj1
    obtain ⟨q', hq', hm⟩ := jeOK10 hok
    have hqq := hq'.symm.trans hq
    cases hqq
    have hts := C.2.2.2.2.1
    have hK := C.2.2.2.2.2.1
    obtain ⟨t0, ht0, hover⟩ : ∃ t0 : Nat, kty[t0]? = some (.object q.1) ∧ (Cond.arrayOver (.object q.1)).before args s = true := by
      have hao := C.2.2.2.2.2.2.2.2.2.2.2.1
      rcases hci with rfl | rfl | rfl <;> cases hq
      · exact ⟨4, rfl, va_AO.use hao.1⟩
      · exact ⟨5, rfl, va_AO.use hao.2.1⟩
      · exact ⟨6, rfl, va_AO.use hao.2.2⟩
    refine W.anew C.1 C.2.1 C.2.2.2.1 (hts _ hm) hover rfl hd rfl g1 (by omega) (Nat.le_trans g3 C.2.2.2.2.2.2.2.2.2.1.1) (Nat.le_trans g4 C.2.2.2.2.2.2.2.2.2.1.2.1) fun cA kA comp f1 f2 f3 f4 => ?_
    have hcA : cA = dA (.object q.1) := by
      obtain ⟨kA', comp', -, -, -, h4⟩ := (hK.2 t0 _ (ktys_at ht0)).2
      exact Option.some.inj (f1.symm.trans h4)
    subst hcA
    generalize hH1 : H.push ({ cls := dA (.object q.1), slots := Array.replicate n.toNatClampNeg .null, vm := .none } : Cell) = H1
    have zz : H1.size = H.size + 1 := by rw [← hH1, Array.size_push]
    have e1 : H1[H.size]? = some (arrV (dA (.object q.1)) n.toNatClampNeg (fun _ => .null)) := by rw [← hH1, Array.getElem?_push_size, ← arrV_new]
    have oo : ∀ q : Nat, q < H.size → H1[q]? = H[q]? := fun q hq => by rw [← hH1, Array.getElem?_push, if_neg (Nat.ne_of_lt hq)]
    have hz := hj2 H1 locs lsl g3 g4 (kwd_push hw zz oo (show H1[base + h.length]? = some (vp_cell (dA (.object q.1)) (n.toNatClampNeg, .inr (.inr (.inr (.inr fun _ => none))))) by rw [← hw.1, e1]; rfl) ⟨t0, ht0⟩) (hS.push zz oo) hr
    rw [List.map_cons, show kv base EX (.ref h.length) = .ref H.size by rw [hw.1]; rfl] at hz
    exact hz
  next => exact hj.elim
end KA
