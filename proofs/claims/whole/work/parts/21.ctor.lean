/-! CONSTRUCTORS: a heap with an object under way at p, and the cells that came behind -/
def jBk (h : JH) (p c : Nat) (fs : List Value) (L : JH) : JH := h.set p (.inr (c, fs)) ++ L
theorem bk_len {h : JH} {p c : Nat} {fs : List Value} {L : JH} : (jBk h p c fs L).length = h.length + L.length := by
  unfold jBk; rw [List.length_append, List.length_set]
theorem bk_get {h : JH} {p c : Nat} {fs : List Value} {L : JH} (hp : p < h.length) : (jBk h p c fs L)[p]? = some (.inr (c, fs)) := by
  unfold jBk
  rw [List.getElem?_append_left (by rw [List.length_set]; exact hp), List.getElem?_set_self hp]
theorem bk_new {h : JH} {p c i : Nat} {fs : List Value} {L : JH} : (jBk h p c fs L)[h.length + i]? = L[i]? := by
  unfold jBk
  rw [List.getElem?_append_right (by rw [List.length_set]; omega), List.length_set]
  congr 1
  omega
theorem bk_set {h : JH} {p c : Nat} {fs fs' : List Value} {L : JH} (hp : p < h.length) : (jBk h p c fs L).set p (.inr (c, fs')) = jBk h p c fs' L := by
  unfold jBk
  rw [List.set_append_left _ _ (by rw [List.length_set]; exact hp), List.set_set]
theorem bk_setL {h : JH} {p c i : Nat} {fs : List Value} {L : JH} {x : JC} : (jBk h p c fs L).set (h.length + i) x = jBk h p c fs (L.set i x) := by
  unfold jBk
  rw [List.set_append_right _ _ (by rw [List.length_set]; omega), List.length_set]
  congr 2
  omega
theorem bk_start {h : JH} {p c : Nat} {fs : List Value} (hp : h[p]? = some (.inr (c, fs))) : h = jBk h p c fs [] := by
  unfold jBk
  rw [List.append_nil]
  apply List.ext_getElem?
  intro i
  rw [List.getElem?_set]
  split
  next e => subst e; rw [if_pos (List.getElem?_eq_some_iff.mp hp).1]; exact hp
  next => rfl
theorem bk_app {h : JH} {p c : Nat} {fs : List Value} {L : JH} {q : JC} : jBk h p c fs L ++ [q] = jBk h p c fs (L ++ [q]) := by
  unfold jBk; rw [List.append_assoc]
theorem bk_sub {h : JH} {p c ci : Nat} {fs fs' : List Value} {L L' : JH} {q : JC} (hp : p < h.length) : jBk (jBk h p c fs (L ++ [q])) (h.length + L.length) ci fs' L' = jBk h p c fs (L ++ .inr (ci, fs') :: L') := by
  rw [show jBk (jBk h p c fs (L ++ [q])) (h.length + L.length) ci fs' L' = (jBk h p c fs (L ++ [q])).set (h.length + L.length) (.inr (ci, fs')) ++ L' from rfl, bk_setL]
  unfold jBk
  rw [List.append_assoc]
  congr 1
  rw [List.set_append_right _ _ (Nat.le_refl _), Nat.sub_self]
  simp
theorem bk_put {h : JH} {p c k : Nat} {fs : List Value} {L : JH} {w : Value} {K : JH → Prop} (hp : p < h.length) (hk : Nat.ble (k + 1) fs.length = true) (H : K (jBk h p c (fs.set k w) L)) : jpf (jBk h p c fs L) (.ref p) c k w K := by
  unfold jpf
  dsimp only
  rw [bk_get hp]
  dsimp only
  rw [if_pos ⟨rfl, Nat.lt_of_succ_le (Nat.le_of_ble_eq_true hk)⟩, bk_set hp]
  exact H
theorem bk_gf {h : JH} {p c k : Nat} {fs : List Value} {L : JH} {w : Value} {K : Value → Prop} (hp : p < h.length) (hk : fs[k]? = some w) (H : K w) : jgf (jBk h p c fs L) (.ref p) c k K := by
  unfold jgf
  dsimp only
  rw [bk_get hp]
  dsimp only
  rw [if_pos rfl, hk]
  exact H
theorem bk_gI {h : JH} {p c k : Nat} {fs : List Value} {L : JH} {x : Int32} {K : Int32 → Prop} (hp : p < h.length) (hk : fs[k]? = some (.int x)) (H : K x) : jgI (jBk h p c fs L) (.ref p) c k K := bk_gf hp hk H
theorem bk_na {M : JM} {t : ArrayType} {n : Int32} {m : Nat} {q : JC} {h : JH} {p c : Nat} {fs : List Value} {L : JH} {n1 n2 : Nat} {K : JH → Nat → Nat → Prop} (hm : n.toNatClampNeg = m) (hq : jdef t m = some q) (hn : ¬ n < 0) (hb : m ≤ 60000000) (hc : n1 + 1 ≤ M.mc) (hs : n2 + m ≤ M.ms) (H : K (jBk h p c fs (L ++ [q])) (n1 + 1) (n2 + m)) : jna M t n (jBk h p c fs L) n1 n2 K := by
  unfold jna
  rw [hm, hq]
  exact ⟨hn, hb, hc, hs, by rw [bk_app]; exact H⟩
theorem bk_nr {M : JM} {ci : Nat} {n : Int32} {m : Nat} {q : vw_C} {h : JH} {p c : Nat} {fs : List Value} {L : JH} {n1 n2 : Nat} {K : JH → Nat → Nat → Prop} (hq : vwCl[ci]? = some q) (hm : n.toNatClampNeg = m) (hn : ¬ n < 0) (hb : m ≤ 60000000) (hc : n1 + 1 ≤ M.mc) (hs : n2 + m ≤ M.ms) (h3 : ci = 6 ∨ ci = 8 ∨ ci = 10) (H : K (jBk h p c fs (L ++ [.inl (.object q.1, m, .inr (.inr (.inr (.inr fun _ => none))))])) (n1 + 1) (n2 + m)) : jnr M ci n (jBk h p c fs L) n1 n2 K := by
  unfold jnr
  rw [hq, hm]
  exact ⟨hn, hb, hc, hs, h3, by rw [bk_app]; exact H⟩
theorem bk_no {M : JM} {ci : Nat} {h : JH} {p c : Nat} {fs : List Value} {L : JH} {n1 n2 : Nat} {K : JH → Nat → Nat → Prop} (hc : n1 + 1 ≤ M.mc) (hs : n2 + jnf ci ≤ M.ms) (h3 : ci < 13) (H : K (jBk h p c fs (L ++ [.inr (ci, jfs0 ci)])) (n1 + 1) (n2 + jnf ci)) : jno M ci (jBk h p c fs L) n1 n2 K := ⟨hc, hs, h3, by rw [bk_app]; exact H⟩
theorem bk_rc {h : JH} {p c i ci : Nat} {fs fs' : List Value} {L : JH} {K : Prop} (hL : L[i]? = some (.inr (ci, fs'))) (H : K) : jrc (jBk h p c fs L) (.ref (h.length + i)) ci K := by
  unfold jrc jcls
  dsimp only
  rw [bk_new, hL]
  dsimp only
  rw [if_pos rfl]
  exact H
theorem bk_rcp {h : JH} {p c : Nat} {fs : List Value} {L : JH} {K : Prop} (hp : p < h.length) (H : K) : jrc (jBk h p c fs L) (.ref p) c K := by
  unfold jrc jcls
  dsimp only
  rw [bk_get hp]
  dsimp only
  rw [if_pos rfl]
  exact H
theorem bk_oth {h : JH} {p c q : Nat} {fs : List Value} {L : JH} (hn : p ≠ q) (hq : q < h.length) : (jBk h p c fs L)[q]? = h[q]? := by
  unfold jBk
  rw [List.getElem?_append_left (by rw [List.length_set]; exact hq), List.getElem?_set_ne hn]
theorem raw_gf {h : JH} {q c k : Nat} {fs : List Value} {w : Value} {K : Value → Prop} (hq : h[q]? = some (.inr (c, fs))) (hk : fs[k]? = some w) (H : K w) : jgf h (.ref q) c k K := by
  unfold jgf
  dsimp only
  rw [hq]
  dsimp only
  rw [if_pos rfl, hk]
  exact H
theorem raw_rc {h : JH} {q c : Nat} {fs : List Value} {K : Prop} (hq : h[q]? = some (.inr (c, fs))) (H : K) : jrc h (.ref q) c K := by
  unfold jrc jcls
  dsimp only
  rw [hq]
  dsimp only
  rw [if_pos rfl]
  exact H
theorem bk_at {h : JH} {p c : Nat} {fs : List Value} {L : JH} {x : JC} : (jBk h p c fs (L ++ [x]))[h.length + L.length]? = some x := by
  rw [bk_new]
  simp
theorem c_placesFor {X : JX} {d : Nat} {Q : JQ} {h : JH} {q : Nat} {f : Int32} {a b c : Nat} (hq : h[q]? = some (.inr (3, [.ref a, .ref b, .ref c]))) (H : Q (some (if f = 1 then .ref a else if f = 2 then .ref b else .ref c)) h) : jex X (d + 1) 25 [.ref q, .int f] h Q := by
  rw [jE_X3_placesFor]
  refine jT_X3_placesFor_0 ⟨fun h1 => ?_, fun h1 => ⟨fun h2 => ?_, fun h2 => ?_⟩⟩
  · rw [if_pos h1] at H
    exact raw_gf hq rfl H
  · rw [if_neg h1, if_pos h2] at H
    exact raw_gf hq rfl H
  · rw [if_neg h1, if_neg h2] at H
    exact raw_gf hq rfl H
theorem n_Hand {X : JX} {d : Nat} {Q : JQ} {h : JH} {p : Nat} {a b : Int32} (hp : h[p]? = some (.inr (2, jfs0 2))) (H : Q none (jBk h p 2 [.int a, .int b, .null, .int (-1), .int 0, .int 0, .int 0, .int 0, .int 0, .int 0, .int 0] [])) : jex X (d + 1) 5 [.ref p, .int a, .int b] h Q := by
  have hl : p < h.length := (List.getElem?_eq_some_iff.mp hp).1
  rw [show jfs0 2 = [.int 0, .int 0, .null, .int 0, .int 0, .int 0, .int 0, .int 0, .int 0, .int 0, .int 0] from rfl] at hp
  rw [jE_X2_init, bk_start hp]
  refine jT_X2_init_0 ?_
  refine bk_put hl rfl ?_
  refine bk_put hl rfl ?_
  refine bk_put hl rfl ?_
  have e : ∀ (fs : List Value) (L : JH), fs = [.int a, .int b, .null, .int (-1), .int 0, .int 0, .int 0, .int 0, .int 0, .int 0, .int 0] → L = [] → Q none (jBk h p 2 fs L) := fun _ _ e1 e2 => by rw [e1, e2]; exact H
  refine e _ _ ?_ ?_
  · simp only [bk_len, List.length_append, List.length_cons, List.length_nil, List.set_cons_zero, List.set_cons_succ, List.nil_append, List.cons_append, Nat.add_assoc, Nat.reduceAdd, Nat.add_zero, Nat.zero_add]
  · rfl
theorem n_Chart {X : JX} {d : Nat} {Q : JQ} {h : JH} {p : Nat} (hp : h[p]? = some (.inr (1, jfs0 1))) (H : Q none (jBk h p 1 [.int 1, .int 1, .int 4, .int 2] [])) : jex X (d + 1) 26 [.ref p] h Q := by
  have hl : p < h.length := (List.getElem?_eq_some_iff.mp hp).1
  rw [show jfs0 1 = [.int 0, .int 0, .int 0, .int 0] from rfl] at hp
  rw [jE_X1_init, bk_start hp]
  refine jT_X1_init_0 ?_
  refine bk_put hl rfl ?_
  refine bk_put hl rfl ?_
  refine bk_put hl rfl ?_
  refine bk_put hl rfl ?_
  have e : ∀ (fs : List Value) (L : JH), fs = [.int 1, .int 1, .int 4, .int 2] → L = [] → Q none (jBk h p 1 fs L) := fun _ _ e1 e2 => by rw [e1, e2]; exact H
  refine e _ _ ?_ ?_
  · simp only [bk_len, List.length_append, List.length_cons, List.length_nil, List.set_cons_zero, List.set_cons_succ, List.nil_append, List.cons_append, Nat.add_assoc, Nat.reduceAdd, Nat.add_zero, Nat.zero_add]
  · rfl
theorem n_Book {X : JX} {d : Nat} {Q : JQ} {h : JH} {p : Nat} (hp : h[p]? = some (.inr (0, jfs0 0))) (H : Q none (jBk h p 0 [.ref h.length, .ref (h.length + 1), .ref (h.length + 2), .ref (h.length + 3), .ref (h.length + 4), .int 0, .ref (h.length + 5), .ref (h.length + 6), .ref (h.length + 7), .int 0, .ref (h.length + 8)] [(.inl (.int, 80, .inl fun _ => 0)), (.inl (.int, 80, .inl fun _ => 0)), (.inl (.int, 80, .inl fun _ => 0)), (.inl (.int, 80, .inl fun _ => 0)), (.inl (.int, 80, .inl fun _ => 0)), (.inl (.boolean, 80, .inl fun _ => 0)), (.inl (.int, 5121, .inl fun _ => 0)), (.inl (.int, 5121, .inl fun _ => 0)), (.inl (.int, 80, .inl fun _ => 0))])) : jex X (d + 1) 27 [.ref p] h Q := by
  have hl : p < h.length := (List.getElem?_eq_some_iff.mp hp).1
  rw [show jfs0 0 = [.null, .null, .null, .null, .null, .int 0, .null, .null, .null, .int 0, .null] from rfl] at hp
  rw [jE_X0_init, bk_start hp]
  refine jT_X0_init_0 ?_
  refine bk_na (m := 80) (by decide) rfl (by decide) (by decide) (by decide) (by decide) ?_
  refine bk_put hl rfl ?_
  refine bk_na (m := 80) (by decide) rfl (by decide) (by decide) (by decide) (by decide) ?_
  refine bk_put hl rfl ?_
  refine bk_na (m := 80) (by decide) rfl (by decide) (by decide) (by decide) (by decide) ?_
  refine bk_put hl rfl ?_
  refine bk_na (m := 80) (by decide) rfl (by decide) (by decide) (by decide) (by decide) ?_
  refine bk_put hl rfl ?_
  refine bk_na (m := 80) (by decide) rfl (by decide) (by decide) (by decide) (by decide) ?_
  refine bk_put hl rfl ?_
  refine bk_na (m := 80) (by decide) rfl (by decide) (by decide) (by decide) (by decide) ?_
  refine bk_put hl rfl ?_
  refine bk_na (m := 5121) (by decide) rfl (by decide) (by decide) (by decide) (by decide) ?_
  refine bk_put hl rfl ?_
  refine bk_na (m := 5121) (by decide) rfl (by decide) (by decide) (by decide) (by decide) ?_
  refine bk_put hl rfl ?_
  refine bk_na (m := 80) (by decide) rfl (by decide) (by decide) (by decide) (by decide) ?_
  refine bk_put hl rfl ?_
  have e : ∀ (fs : List Value) (L : JH), fs = [.ref h.length, .ref (h.length + 1), .ref (h.length + 2), .ref (h.length + 3), .ref (h.length + 4), .int 0, .ref (h.length + 5), .ref (h.length + 6), .ref (h.length + 7), .int 0, .ref (h.length + 8)] → L = [(.inl (.int, 80, .inl fun _ => 0)), (.inl (.int, 80, .inl fun _ => 0)), (.inl (.int, 80, .inl fun _ => 0)), (.inl (.int, 80, .inl fun _ => 0)), (.inl (.int, 80, .inl fun _ => 0)), (.inl (.boolean, 80, .inl fun _ => 0)), (.inl (.int, 5121, .inl fun _ => 0)), (.inl (.int, 5121, .inl fun _ => 0)), (.inl (.int, 80, .inl fun _ => 0))] → Q none (jBk h p 0 fs L) := fun _ _ e1 e2 => by rw [e1, e2]; exact H
  refine e _ _ ?_ ?_
  · simp only [bk_len, List.length_append, List.length_cons, List.length_nil, List.set_cons_zero, List.set_cons_succ, List.nil_append, List.cons_append, Nat.add_assoc, Nat.reduceAdd, Nat.add_zero, Nat.zero_add]
  · rfl
theorem n_Program {X : JX} {d : Nat} {Q : JQ} {h : JH} {p : Nat} (hp : h[p]? = some (.inr (5, jfs0 5))) (H : Q none (jBk h p 5 [.ref h.length, .ref (h.length + 1), .ref (h.length + 2), .ref (h.length + 3), .int 0, .ref (h.length + 4), .int 0, .int 0, .ref (h.length + 5), .int 0, .int 0, .int (-1)] [(.inl (.int, 400, .inl fun _ => 0)), (.inl (.int, 400, .inl fun _ => 0)), (.inl (.int, 400, .inl fun _ => 0)), (.inl (.int, 400, .inl fun _ => 0)), (.inl (.long, 12, .inr (.inl fun _ => 0))), (.inl (.int, 6, .inl fun _ => 0))])) : jex X (d + 1) 20 [.ref p] h Q := by
  have hl : p < h.length := (List.getElem?_eq_some_iff.mp hp).1
  rw [show jfs0 5 = [.null, .null, .null, .null, .int 0, .null, .int 0, .int 0, .null, .int 0, .int 0, .int 0] from rfl] at hp
  rw [jE_X5_init, bk_start hp]
  refine jT_X5_init_0 ?_
  refine bk_na (m := 400) (by decide) rfl (by decide) (by decide) (by decide) (by decide) ?_
  refine bk_put hl rfl ?_
  refine bk_na (m := 400) (by decide) rfl (by decide) (by decide) (by decide) (by decide) ?_
  refine bk_put hl rfl ?_
  refine bk_na (m := 400) (by decide) rfl (by decide) (by decide) (by decide) (by decide) ?_
  refine bk_put hl rfl ?_
  refine bk_na (m := 400) (by decide) rfl (by decide) (by decide) (by decide) (by decide) ?_
  refine bk_put hl rfl ?_
  refine bk_na (m := 12) (by decide) rfl (by decide) (by decide) (by decide) (by decide) ?_
  refine bk_put hl rfl ?_
  refine bk_na (m := 6) (by decide) rfl (by decide) (by decide) (by decide) (by decide) ?_
  refine bk_put hl rfl ?_
  refine bk_put hl rfl ?_
  have e : ∀ (fs : List Value) (L : JH), fs = [.ref h.length, .ref (h.length + 1), .ref (h.length + 2), .ref (h.length + 3), .int 0, .ref (h.length + 4), .int 0, .int 0, .ref (h.length + 5), .int 0, .int 0, .int (-1)] → L = [(.inl (.int, 400, .inl fun _ => 0)), (.inl (.int, 400, .inl fun _ => 0)), (.inl (.int, 400, .inl fun _ => 0)), (.inl (.int, 400, .inl fun _ => 0)), (.inl (.long, 12, .inr (.inl fun _ => 0))), (.inl (.int, 6, .inl fun _ => 0))] → Q none (jBk h p 5 fs L) := fun _ _ e1 e2 => by rw [e1, e2]; exact H
  refine e _ _ ?_ ?_
  · simp only [bk_len, List.length_append, List.length_cons, List.length_nil, List.set_cons_zero, List.set_cons_succ, List.nil_append, List.cons_append, Nat.add_assoc, Nat.reduceAdd, Nat.add_zero, Nat.zero_add]
  · rfl
theorem n_Rule {X : JX} {d : Nat} {Q : JQ} {h : JH} {p : Nat} (hp : h[p]? = some (.inr (6, jfs0 6))) (H : ∀ q : vw_C, vwCl[8]? = some q → Q none (jBk h p 6 [.ref h.length, .int 0] [.inl (.object q.1, 8, .inr (.inr (.inr (.inr fun _ => none))))])) : jex X (d + 1) 99 [.ref p] h Q := by
  have hl : p < h.length := (List.getElem?_eq_some_iff.mp hp).1
  rw [show jfs0 6 = [.null, .int 0] from rfl] at hp
  rw [jE_X6_init, bk_start hp]
  refine jT_X6_init_0 ?_
  refine bk_nr (m := 8) rfl (by decide) (by decide) (by decide) (by decide) (by decide) (by decide) ?_
  refine bk_put hl rfl ?_
  have e : ∀ (fs : List Value), fs = [.ref h.length, .int 0] → Q none (jBk h p 6 fs _) := fun _ e1 => by rw [e1]; exact H _ rfl
  refine e _ ?_
  simp only [bk_len, List.length_append, List.length_cons, List.length_nil, List.set_cons_zero, List.set_cons_succ, List.nil_append, List.cons_append, Nat.add_assoc, Nat.reduceAdd, Nat.add_zero, Nat.zero_add]
theorem n_Scale {X : JX} {d : Nat} {Q : JQ} {h : JH} {p q : Nat} {a f t : Int32} {i j k : Nat} (hp : h[p]? = some (.inr (8, jfs0 8))) (hq : h[q]? = some (.inr (3, [.ref i, .ref j, .ref k]))) (ha : a = 0 ∨ a = 1) (ht : t = 0 ∨ t = 1) (H : Q none (jBk h p 8 [.int a, .int f, .int t, if f = 1 then .ref i else if f = 2 then .ref j else .ref k, .ref h.length, .int 0, .int 0, .int 0] [(.inl (.int, 17, .inl fun _ => 0))])) : jex X (d + 2) 24 [.ref p, .ref q, .int a, .int f, .int t] h Q := by
  have hl : p < h.length := (List.getElem?_eq_some_iff.mp hp).1
  have hlq : q < h.length := (List.getElem?_eq_some_iff.mp hq).1
  have hn : p ≠ q := by
    intro e
    subst e
    rw [hp] at hq
    cases hq
  rw [show jfs0 8 = [.int 0, .int 0, .int 0, .null, .null, .int 0, .int 0, .int 0] from rfl] at hp
  have e0 := bk_start hp
  rw [jE_X8_init]
  refine jT_X8_init_0 ⟨ha, ?_⟩
  rw [e0]
  refine bk_put hl rfl (bk_put hl rfl ⟨ht, bk_put hl rfl ?_⟩)
  have hq2 : ∀ fs, (jBk h p 8 fs [])[q]? = some (.inr (3, [.ref i, .ref j, .ref k])) := fun fs => by rw [bk_oth hn hlq]; exact hq
  refine raw_rc (hq2 _) (c_placesFor (hq2 _) ?_)
  refine jisr_k (by split <;> (try split) <;> rfl) (jisr_k (by split <;> (try split) <;> rfl) ?_)
  refine bk_put hl rfl ?_
  refine bk_na (m := 17) (by decide) rfl (by decide) (by decide) (by decide) (by decide) ?_
  refine bk_put hl rfl ?_
  have e : ∀ (fs : List Value), fs = [.int a, .int f, .int t, if f = 1 then .ref i else if f = 2 then .ref j else .ref k, .ref h.length, .int 0, .int 0, .int 0] → Q none (jBk h p 8 fs _) := fun _ e1 => by rw [e1]; exact H
  refine e _ ?_
  simp only [bk_len, List.length_append, List.length_cons, List.length_nil, List.set_cons_zero, List.set_cons_succ, List.nil_append, List.cons_append, Nat.add_assoc, Nat.reduceAdd, Nat.add_zero, Nat.zero_add]
theorem bk_subn {h : JH} {p c ci : Nat} {fs fs' : List Value} {L L' : JH} {q : JC} (hp : p < h.length) : jBk (jBk h p c fs (L ++ [q])) (List.length (jBk h p c fs L)) ci fs' L' = jBk h p c fs (L ++ .inr (ci, fs') :: L') := by
  rw [bk_len, bk_sub hp]
theorem bk_putr {h : JH} {p c k : Nat} {fs fs0 : List Value} {L L0 : JH} {K : JH → Prop} (hp : p < h.length) (hk : Nat.ble (k + 1) fs.length = true) (H : K (jBk h p c (fs.set k (.ref (h.length + L0.length))) L)) : jpf (jBk h p c fs L) (.ref p) c k (.ref (List.length (jBk h p c fs0 L0))) K := by
  rw [bk_len]
  exact bk_put hp hk H
theorem bk_atn {h : JH} {p c : Nat} {fs : List Value} {L : JH} {x : JC} : (jBk h p c fs (L ++ [x]))[List.length (jBk h p c fs L)]? = some x := by
  rw [bk_len]; exact bk_at
theorem bk_rcn {h : JH} {p c ci : Nat} {fs fs' : List Value} {L : JH} {K : Prop} (H : K) : jrc (jBk h p c fs (L ++ [.inr (ci, fs')])) (.ref (List.length (jBk h p c fs L))) ci K := raw_rc bk_atn H
theorem n_Product {X : JX} {d : Nat} {Q : JQ} {h : JH} {p q : Nat} {i j k : Nat} (hp : h[p]? = some (.inr (4, jfs0 4))) (hq : h[q]? = some (.inr (3, [.ref i, .ref j, .ref k]))) (H : Q none (jBk h p 4 [.ref h.length, .ref (h.length + 1), .ref (h.length + 2), .int 0, .ref (h.length + 3), .ref (h.length + 4), .ref (h.length + 6), .ref (h.length + 8), .ref (h.length + 9), .int 0, .int 0, .int 0, .int 0] [(.inl (.int, 7, .inl fun _ => 0)), (.inl (.int, 7, .inl fun _ => 0)), (.inl (.boolean, 7, .inl fun _ => 0)), .inr (2, [.int 0, .int 0, .null, .int (-1), .int 0, .int 0, .int 0, .int 0, .int 0, .int 0, .int 0]), .inr (8, [.int 1, .int 1, .int 0, .ref i, .ref (h.length + 5), .int 0, .int 0, .int 0]), (.inl (.int, 17, .inl fun _ => 0)), .inr (8, [.int 0, .int 1, .int 0, .ref i, .ref (h.length + 7), .int 0, .int 0, .int 0]), (.inl (.int, 17, .inl fun _ => 0)), (.inl (.int, 7, .inl fun _ => 0)), (.inl (.int, 7, .inl fun _ => 0))])) : jex X (d + 3) 23 [.ref p, .ref q] h Q := by
  have hl : p < h.length := (List.getElem?_eq_some_iff.mp hp).1
  have hlq : q < h.length := (List.getElem?_eq_some_iff.mp hq).1
  have hn : p ≠ q := by
    intro e
    subst e
    rw [hp] at hq
    cases hq
  rw [show jfs0 4 = [.null, .null, .null, .int 0, .null, .null, .null, .null, .null, .int 0, .int 0, .int 0, .int 0] from rfl] at hp
  have e0 := bk_start hp
  rw [jE_X4_init]
  refine jT_X4_init_0 ?_
  rw [e0]
  refine bk_na (m := 7) (by decide) rfl (by decide) (by decide) (by decide) (by decide) ?_
  refine bk_putr hl rfl ?_
  refine bk_na (m := 7) (by decide) rfl (by decide) (by decide) (by decide) (by decide) ?_
  refine bk_putr hl rfl ?_
  refine bk_na (m := 7) (by decide) rfl (by decide) (by decide) (by decide) (by decide) ?_
  refine bk_putr hl rfl ?_
  refine bk_no (by decide) (by decide) (by decide) ?_
  refine bk_rcn ?_
  refine n_Hand (a := 0) (b := 0) bk_atn ?_
  dsimp only [jrN]
  rw [bk_subn hl]
  refine bk_putr hl rfl ?_
  refine bk_no (by decide) (by decide) (by decide) ?_
  refine bk_rcn ⟨by decide, by decide, ?_⟩
  refine n_Scale (a := 1) (f := 1) (t := 0) bk_atn (by rw [bk_oth hn hlq]; exact hq) (by decide) (by decide) ?_
  dsimp only [jrN]
  rw [bk_subn hl]
  refine bk_putr hl rfl ?_
  refine bk_no (by decide) (by decide) (by decide) ?_
  refine bk_rcn ⟨by decide, by decide, ?_⟩
  refine n_Scale (a := 0) (f := 1) (t := 0) bk_atn (by rw [bk_oth hn hlq]; exact hq) (by decide) (by decide) ?_
  dsimp only [jrN]
  rw [bk_subn hl]
  refine bk_putr hl rfl ?_
  refine bk_na (m := 7) (by decide) rfl (by decide) (by decide) (by decide) (by decide) ?_
  refine bk_putr hl rfl ?_
  refine bk_na (m := 7) (by decide) rfl (by decide) (by decide) (by decide) (by decide) ?_
  refine bk_putr hl rfl ?_
  have e : ∀ (fs : List Value) (L : JH), fs = [.ref h.length, .ref (h.length + 1), .ref (h.length + 2), .int 0, .ref (h.length + 3), .ref (h.length + 4), .ref (h.length + 6), .ref (h.length + 8), .ref (h.length + 9), .int 0, .int 0, .int 0, .int 0] → L = [(.inl (.int, 7, .inl fun _ => 0)), (.inl (.int, 7, .inl fun _ => 0)), (.inl (.boolean, 7, .inl fun _ => 0)), .inr (2, [.int 0, .int 0, .null, .int (-1), .int 0, .int 0, .int 0, .int 0, .int 0, .int 0, .int 0]), .inr (8, [.int 1, .int 1, .int 0, .ref i, .ref (h.length + 5), .int 0, .int 0, .int 0]), (.inl (.int, 17, .inl fun _ => 0)), .inr (8, [.int 0, .int 1, .int 0, .ref i, .ref (h.length + 7), .int 0, .int 0, .int 0]), (.inl (.int, 17, .inl fun _ => 0)), (.inl (.int, 7, .inl fun _ => 0)), (.inl (.int, 7, .inl fun _ => 0))] → Q none (jBk h p 4 fs L) := fun _ _ e1 e2 => by rw [e1, e2]; exact H
  refine e _ _ ?_ ?_
  · simp only [bk_len, List.length_append, List.length_cons, List.length_nil, List.set_cons_zero, List.set_cons_succ, List.nil_append, List.cons_append, Nat.add_assoc, Nat.reduceAdd, Nat.add_zero, Nat.zero_add]
  · simp only [if_pos, bk_len, List.length_append, List.length_cons, List.length_nil, List.set_cons_zero, List.set_cons_succ, List.nil_append, List.cons_append, Nat.add_assoc, Nat.reduceAdd, Nat.add_zero, Nat.zero_add]
