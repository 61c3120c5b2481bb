/-! SLIDEWORKS' CONSTRUCTOR -/
def swF (n : Nat) : List Value := [.ref n, .ref (n + 4), .int 0, .ref (n + 5), .ref (n + 6), .ref (n + 9), .ref (n + 16), .int (-1), .ref (n + 23), .ref (n + 58), .ref (n + 69), .ref (n + 70)]
def swC (n : Nat) (q6 q10 : vw_C) : JH := [.inr (3, [.ref (n + 1), .ref (n + 2), .ref (n + 3)]), (.inl (.int, 901, .inl (tabF 1))), (.inl (.int, 1801, .inl (tabF 2))), (.inl (.int, 2701, .inl (tabF 3))), .inl (.object q6.1, 4, .inr (.inr (.inr (.inr fun _ => none)))), .inr (2, [.int 2, .int 10, .null, .int (-1), .int 0, .int 0, .int 0, .int 0, .int 0, .int 0, .int 0]), .inr (9, [.ref (n + 7), .int 0, .ref (n + 8), .int 0, .int 0, .long 0, .int 0, .int 0, .int 0, .int 0]), (.inl (.int, 2000, .inl fun _ => 0)), (.inl (.long, 15, .inr (.inl (wdK 11)))), .inr (5, [.ref (n + 10), .ref (n + 11), .ref (n + 12), .ref (n + 13), .int 0, .ref (n + 14), .int 0, .int 0, .ref (n + 15), .int 0, .int 0, .int (-1)]), (.inl (.int, 400, .inl fun _ => 0)), (.inl (.int, 400, .inl fun _ => 0)), (.inl (.int, 400, .inl fun _ => 0)), (.inl (.int, 400, .inl fun _ => 0)), (.inl (.long, 12, .inr (.inl fun _ => 0))), (.inl (.int, 6, .inl fun _ => 0)), .inr (5, [.ref (n + 17), .ref (n + 18), .ref (n + 19), .ref (n + 20), .int 0, .ref (n + 21), .int 0, .int 0, .ref (n + 22), .int 0, .int 0, .int (-1)]), (.inl (.int, 400, .inl fun _ => 0)), (.inl (.int, 400, .inl fun _ => 0)), (.inl (.int, 400, .inl fun _ => 0)), (.inl (.int, 400, .inl fun _ => 0)), (.inl (.long, 12, .inr (.inl fun _ => 0))), (.inl (.int, 6, .inl fun _ => 0)), .inr (7, [.ref (n + 5), .ref n, .null, .ref (n + 24), .ref (n + 25), .ref (n + 50), .ref (n + 51), .ref (n + 52), .ref (n + 53), .ref (n + 54), .ref (n + 55), .ref (n + 56), .int 0, .ref (n + 57), .int 0, .int 0, .int 0, .int 0, .int (-1), .int 0]), .inl (.object q10.1, 12, .inr (.inr (.inr (.inr (rK (n + 26) 12))))), .inl (.object q10.1, 12, .inr (.inr (.inr (.inr (rK (n + 27) 12))))), .inr (10, jfs0 10), .inr (10, jfs0 10), .inr (10, jfs0 10), .inr (10, jfs0 10), .inr (10, jfs0 10), .inr (10, jfs0 10), .inr (10, jfs0 10), .inr (10, jfs0 10), .inr (10, jfs0 10), .inr (10, jfs0 10), .inr (10, jfs0 10), .inr (10, jfs0 10), .inr (10, jfs0 10), .inr (10, jfs0 10), .inr (10, jfs0 10), .inr (10, jfs0 10), .inr (10, jfs0 10), .inr (10, jfs0 10), .inr (10, jfs0 10), .inr (10, jfs0 10), .inr (10, jfs0 10), .inr (10, jfs0 10), .inr (10, jfs0 10), .inr (10, jfs0 10), .inr (10, jfs0 10), .inr (10, jfs0 10), .inr (10, jfs0 10), (.inl (.int, 400, .inl fun _ => 0)), (.inl (.int, 400, .inl fun _ => 0)), (.inl (.int, 400, .inl fun _ => 0)), (.inl (.boolean, 400, .inl fun _ => 0)), (.inl (.int, 400, .inl fun _ => 0)), .inr (4, [.ref (n + 59), .ref (n + 60), .ref (n + 61), .int 0, .ref (n + 62), .ref (n + 63), .ref (n + 65), .ref (n + 67), .ref (n + 68), .int 0, .int 0, .int 0, .int 0]), (.inl (.int, 7, .inl fun _ => 0)), (.inl (.int, 7, .inl fun _ => 0)), (.inl (.boolean, 7, .inl fun _ => 0)), .inr (2, [.int 0, .int 0, .null, .int (-1), .int 0, .int 0, .int 0, .int 0, .int 0, .int 0, .int 0]), .inr (8, [.int 1, .int 1, .int 0, .ref (n + 1), .ref (n + 64), .int 0, .int 0, .int 0]), (.inl (.int, 17, .inl fun _ => 0)), .inr (8, [.int 0, .int 1, .int 0, .ref (n + 1), .ref (n + 66), .int 0, .int 0, .int 0]), (.inl (.int, 17, .inl fun _ => 0)), (.inl (.int, 7, .inl fun _ => 0)), (.inl (.int, 7, .inl fun _ => 0)), .inr (1, [.int 1, .int 1, .int 4, .int 2]), .inr (0, [.ref (n + 71), .ref (n + 72), .ref (n + 73), .ref (n + 74), .ref (n + 75), .int 0, .ref (n + 76), .ref (n + 77), .ref (n + 78), .int 0, .ref (n + 79)]), (.inl (.int, 80, .inl fun _ => 0)), (.inl (.int, 80, .inl fun _ => 0)), (.inl (.int, 80, .inl fun _ => 0)), (.inl (.int, 80, .inl fun _ => 0)), (.inl (.int, 80, .inl fun _ => 0)), (.inl (.boolean, 80, .inl fun _ => 0)), (.inl (.int, 5121, .inl fun _ => 0)), (.inl (.int, 5121, .inl fun _ => 0)), (.inl (.int, 80, .inl fun _ => 0))]
theorem m_Law {X : JX} {d : Nat} {Q : JQ} {h : JH} {p m : Nat} (hm : h.length = m) (hp : h[p]? = some (.inr (3, jfs0 3))) (H : Q none (jBk h p 3 [.ref m, .ref (m + 1), .ref (m + 2)] [(.inl (.int, 901, .inl (tabF 1))), (.inl (.int, 1801, .inl (tabF 2))), (.inl (.int, 2701, .inl (tabF 3)))])) : jex X (d + 3) 1 [.ref p] h Q := by
  subst hm
  exact n_Law hp H
theorem m_Tape {X : JX} {d : Nat} {Q : JQ} {h : JH} {p m : Nat} (hm : h.length = m) (hp : h[p]? = some (.inr (9, jfs0 9))) (H : Q none (jBk h p 9 [.ref m, .int 0, .ref (m + 1), .int 0, .int 0, .long 0, .int 0, .int 0, .int 0, .int 0] [(.inl (.int, 2000, .inl fun _ => 0)), (.inl (.long, 15, .inr (.inl (wdK 11))))])) : jex X (d + 6) 6 [.ref p] h Q := by
  subst hm
  exact n_Tape hp H
theorem m_Program {X : JX} {d : Nat} {Q : JQ} {h : JH} {p m : Nat} (hm : h.length = m) (hp : h[p]? = some (.inr (5, jfs0 5))) (H : Q none (jBk h p 5 [.ref m, .ref (m + 1), .ref (m + 2), .ref (m + 3), .int 0, .ref (m + 4), .int 0, .int 0, .ref (m + 5), .int 0, .int 0, .int (-1)] [(.inl (.int, 400, .inl fun _ => 0)), (.inl (.int, 400, .inl fun _ => 0)), (.inl (.int, 400, .inl fun _ => 0)), (.inl (.int, 400, .inl fun _ => 0)), (.inl (.long, 12, .inr (.inl fun _ => 0))), (.inl (.int, 6, .inl fun _ => 0))])) : jex X (d + 1) 20 [.ref p] h Q := by
  subst hm
  exact n_Program hp H
theorem m_Runner {X : JX} {d : Nat} {Q : JQ} {h : JH} {p m : Nat} {q1 q2 : Nat} (hm : h.length = m) (hp : h[p]? = some (.inr (7, jfs0 7))) (H : ∀ q : vw_C, vwCl[10]? = some q → Q none (jBk h p 7 [.ref q1, .ref q2, .null, .ref m, .ref (m + 1), .ref (m + 26), .ref (m + 27), .ref (m + 28), .ref (m + 29), .ref (m + 30), .ref (m + 31), .ref (m + 32), .int 0, .ref (m + 33), .int 0, .int 0, .int 0, .int 0, .int (-1), .int 0] [.inl (.object q.1, 12, .inr (.inr (.inr (.inr (rK (m + 2) 12))))), .inl (.object q.1, 12, .inr (.inr (.inr (.inr (rK (m + 3) 12))))), .inr (10, jfs0 10), .inr (10, jfs0 10), .inr (10, jfs0 10), .inr (10, jfs0 10), .inr (10, jfs0 10), .inr (10, jfs0 10), .inr (10, jfs0 10), .inr (10, jfs0 10), .inr (10, jfs0 10), .inr (10, jfs0 10), .inr (10, jfs0 10), .inr (10, jfs0 10), .inr (10, jfs0 10), .inr (10, jfs0 10), .inr (10, jfs0 10), .inr (10, jfs0 10), .inr (10, jfs0 10), .inr (10, jfs0 10), .inr (10, jfs0 10), .inr (10, jfs0 10), .inr (10, jfs0 10), .inr (10, jfs0 10), .inr (10, jfs0 10), .inr (10, jfs0 10), .inr (10, jfs0 10), .inr (10, jfs0 10), .inr (10, jfs0 10), (.inl (.int, 400, .inl fun _ => 0)), (.inl (.int, 400, .inl fun _ => 0)), (.inl (.int, 400, .inl fun _ => 0)), (.inl (.boolean, 400, .inl fun _ => 0)), (.inl (.int, 400, .inl fun _ => 0))])) : jex X (d + 2) 21 [.ref p, .ref q1, .ref q2] h Q := by
  subst hm
  exact n_Runner hp H
theorem m_Product {X : JX} {d : Nat} {Q : JQ} {h : JH} {p m : Nat} {q i j k : Nat} (hm : h.length = m) (hp : h[p]? = some (.inr (4, jfs0 4))) (hq : h[q]? = some (.inr (3, [.ref i, .ref j, .ref k]))) (H : Q none (jBk h p 4 [.ref m, .ref (m + 1), .ref (m + 2), .int 0, .ref (m + 3), .ref (m + 4), .ref (m + 6), .ref (m + 8), .ref (m + 9), .int 0, .int 0, .int 0, .int 0] [(.inl (.int, 7, .inl fun _ => 0)), (.inl (.int, 7, .inl fun _ => 0)), (.inl (.boolean, 7, .inl fun _ => 0)), .inr (2, [.int 0, .int 0, .null, .int (-1), .int 0, .int 0, .int 0, .int 0, .int 0, .int 0, .int 0]), .inr (8, [.int 1, .int 1, .int 0, .ref i, .ref (m + 5), .int 0, .int 0, .int 0]), (.inl (.int, 17, .inl fun _ => 0)), .inr (8, [.int 0, .int 1, .int 0, .ref i, .ref (m + 7), .int 0, .int 0, .int 0]), (.inl (.int, 17, .inl fun _ => 0)), (.inl (.int, 7, .inl fun _ => 0)), (.inl (.int, 7, .inl fun _ => 0))])) : jex X (d + 3) 23 [.ref p, .ref q] h Q := by
  subst hm
  exact n_Product hp hq H
theorem m_Book {X : JX} {d : Nat} {Q : JQ} {h : JH} {p m : Nat} (hm : h.length = m) (hp : h[p]? = some (.inr (0, jfs0 0))) (H : Q none (jBk h p 0 [.ref m, .ref (m + 1), .ref (m + 2), .ref (m + 3), .ref (m + 4), .int 0, .ref (m + 5), .ref (m + 6), .ref (m + 7), .int 0, .ref (m + 8)] [(.inl (.int, 80, .inl fun _ => 0)), (.inl (.int, 80, .inl fun _ => 0)), (.inl (.int, 80, .inl fun _ => 0)), (.inl (.int, 80, .inl fun _ => 0)), (.inl (.int, 80, .inl fun _ => 0)), (.inl (.boolean, 80, .inl fun _ => 0)), (.inl (.int, 5121, .inl fun _ => 0)), (.inl (.int, 5121, .inl fun _ => 0)), (.inl (.int, 80, .inl fun _ => 0))])) : jex X (d + 1) 27 [.ref p] h Q := by
  subst hm
  exact n_Book hp H
theorem bk_putm {h : JH} {p c k i : Nat} {fs fs0 : List Value} {L L0 : JH} {K : JH → Prop} (hp : p < h.length) (hL : L0.length = i) (hk : Nat.ble (k + 1) fs.length = true) (H : K (jBk h p c (fs.set k (.ref (h.length + i))) L)) : jpf (jBk h p c fs L) (.ref p) c k (.ref (List.length (jBk h p c fs0 L0))) K := by
  subst hL
  exact bk_putr hp hk H
theorem n_SW {X : JX} {d : Nat} {Q : JQ} {h : JH} {p : Nat} (hp : h[p]? = some (.inr (11, jfs0 11))) (H : ∀ q6 q10 : vw_C, vwCl[6]? = some q6 → vwCl[10]? = some q10 → Q none (jBk h p 11 (swF h.length) (swC h.length q6 q10))) : jex X (d + 7) 0 [.ref p] h Q := by
  have hl : p < h.length := (List.getElem?_eq_some_iff.mp hp).1
  obtain ⟨q6, hq6⟩ : ∃ q, vwCl[6]? = some q := ⟨_, rfl⟩
  rw [show jfs0 11 = [.null, .null, .int 0, .null, .null, .null, .null, .int 0, .null, .null, .null, .null] from rfl] at hp
  rw [jE_X11_init, bk_start hp]
  refine jT_X11_init_0 ?_
  refine bk_no (by decide) (by decide) (by decide) ?_
  refine bk_rcn ⟨by decide, by decide, ?_⟩
  refine m_Law (m := h.length + 1) (bk_len.trans rfl) bk_atn ?_
  dsimp only [jrN]
  rw [bk_subn hl]
  refine bk_putm (i := 0) hl rfl rfl ?_
  refine bk_nr (m := 4) hq6 (by decide) (by decide) (by decide) (by decide) (by decide) (by decide) ?_
  refine bk_putm (i := 4) hl rfl rfl ?_
  refine bk_no (by decide) (by decide) (by decide) ?_
  refine bk_rcn ?_
  refine n_Hand (a := 2) (b := 10) bk_atn ?_
  dsimp only [jrN]
  rw [bk_subn hl]
  refine bk_putm (i := 5) hl rfl rfl ?_
  refine bk_no (by decide) (by decide) (by decide) ?_
  refine bk_rcn ⟨by decide, by decide, ?_⟩
  refine m_Tape (m := h.length + 7) (bk_len.trans rfl) bk_atn ?_
  dsimp only [jrN]
  rw [bk_subn hl]
  refine bk_putm (i := 6) hl rfl rfl ?_
  refine bk_no (by decide) (by decide) (by decide) ?_
  refine bk_rcn ⟨by decide, by decide, ?_⟩
  refine m_Program (m := h.length + 10) (bk_len.trans rfl) bk_atn ?_
  dsimp only [jrN]
  rw [bk_subn hl]
  refine bk_putm (i := 9) hl rfl rfl ?_
  refine bk_no (by decide) (by decide) (by decide) ?_
  refine bk_rcn ⟨by decide, by decide, ?_⟩
  refine m_Program (m := h.length + 17) (bk_len.trans rfl) bk_atn ?_
  dsimp only [jrN]
  rw [bk_subn hl]
  refine bk_putm (i := 16) hl rfl rfl ?_
  refine bk_put hl rfl ?_
  refine bk_no (by decide) (by decide) (by decide) ?_
  refine bk_gf hl rfl (bk_gf hl rfl ?_)
  refine bk_rcn ⟨by decide, by decide, ?_⟩
  refine m_Runner (m := h.length + 24) (bk_len.trans rfl) bk_atn (fun q10 hq10 => ?_)
  dsimp only [jrN]
  rw [bk_subn hl]
  refine bk_putm (i := 23) hl rfl rfl ?_
  refine bk_no (by decide) (by decide) (by decide) ?_
  refine bk_gf hl rfl ?_
  refine bk_rcn ⟨by decide, by decide, ?_⟩
  refine m_Product (m := h.length + 59) (bk_len.trans rfl) bk_atn ((bk_new (i := 0)).trans rfl) ?_
  dsimp only [jrN]
  rw [bk_subn hl]
  refine bk_putm (i := 58) hl rfl rfl ?_
  refine bk_no (by decide) (by decide) (by decide) ?_
  refine bk_rcn ?_
  refine n_Chart bk_atn ?_
  dsimp only [jrN]
  rw [bk_subn hl]
  refine bk_putm (i := 69) hl rfl rfl ?_
  refine bk_no (by decide) (by decide) (by decide) ?_
  refine bk_rcn ⟨by decide, by decide, ?_⟩
  refine m_Book (m := h.length + 71) (bk_len.trans rfl) bk_atn ?_
  dsimp only [jrN]
  rw [bk_subn hl]
  refine bk_putm (i := 70) hl rfl rfl ?_
  have e : ∀ (fs : List Value) (L : JH), fs = swF h.length → L = swC h.length q6 q10 → Q none (jBk h p 11 fs L) := fun _ _ e1 e2 => by rw [e1, e2]; exact H q6 q10 hq6 hq10
  refine e _ _ ?_ ?_
  · simp only [bk_len, List.length_append, List.length_cons, List.length_nil, List.set_cons_zero, List.set_cons_succ, List.nil_append, List.cons_append, Nat.add_assoc, Nat.reduceAdd, Nat.add_zero, Nat.zero_add]
    rfl
  · simp only [bk_len, List.length_append, List.length_cons, List.length_nil, List.set_cons_zero, List.set_cons_succ, List.nil_append, List.cons_append, Nat.add_assoc, Nat.reduceAdd, Nat.add_zero, Nat.zero_add]
    rfl
