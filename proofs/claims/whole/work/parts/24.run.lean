/-! THE RUNNER'S AND THE MODEL'S CONSTRUCTORS -/
theorem raw_wA {h : JH} {a b m ci : Nat} {C : String} {f : Nat → Option Nat} {fs : List Value} {i : Int32} {K : JH → Prop} (hq : h[a]? = some (.inl (.object C, m, .inr (.inr (.inr (.inr f)))))) (hb : h[b]? = some (.inr (ci, fs))) (hC : vwCl[ci]?.map (·.1) = some C) (hi : vp_in i m) (H : K (h.set a (.inl (.object C, m, .inr (.inr (.inr (.inr (va_up f i.toNatClampNeg (some b))))))))) : jwA h (.ref a) i (.ref b) K := by
  unfold jwA jcls
  dsimp only
  rw [hq]
  dsimp only
  rw [hb]
  exact ⟨hi, hC, H⟩
def rK (n i : Nat) : Nat → Option Nat := fun j => if j < i then some (n + 2 * j) else none
theorem rK_0 (n : Nat) : rK n 0 = fun _ => none := by funext j; exact if_neg (Nat.not_lt_zero j)
theorem rK_up (n i : Nat) : va_up (rK n i) i (some (n + 2 * i)) = rK n (i + 1) := by
  funext j
  unfold va_up rK
  by_cases e : j = i
  · subst e; rw [if_pos rfl, if_pos (Nat.lt_succ_self j)]
  · rw [if_neg e]
    by_cases e2 : j < i
    · rw [if_pos e2, if_pos (by omega)]
    · rw [if_neg e2, if_neg (by omega)]
theorem n_Value {X : JX} {d : Nat} {Q : JQ} {h : JH} {p : Nat} (H : Q none h) : jex X (d + 1) 22 [.ref p] h Q := by
  rw [jE_X10_init]
  exact jT_X10_init_0 H
theorem l_Runner {X : JX} {d : Nat} {Q : JQ} {h : JH} {p q1 q2 : Nat} {o1 o2 : Option Value} {q : vw_C} (hl : p < h.length) (hq : vwCl[10]? = some q) (H : Q none (jBk h p 7 [.ref q1, .ref q2, .null, .ref h.length, .ref (h.length + 1), .ref (h.length + 26), .ref (h.length + 27), .ref (h.length + 28), .ref (h.length + 29), .ref (h.length + 30), .ref (h.length + 31), .ref (h.length + 32), .int 0, .ref (h.length + 33), .int 0, .int 0, .int 0, .int 0, .int (-1), .int 0] [.inl (.object q.1, 12, .inr (.inr (.inr (.inr (rK (h.length + 2) 12))))), .inl (.object q.1, 12, .inr (.inr (.inr (.inr (rK (h.length + 3) 12))))), .inr (10, jfs0 10), .inr (10, jfs0 10), .inr (10, jfs0 10), .inr (10, jfs0 10), .inr (10, jfs0 10), .inr (10, jfs0 10), .inr (10, jfs0 10), .inr (10, jfs0 10), .inr (10, jfs0 10), .inr (10, jfs0 10), .inr (10, jfs0 10), .inr (10, jfs0 10), .inr (10, jfs0 10), .inr (10, jfs0 10), .inr (10, jfs0 10), .inr (10, jfs0 10), .inr (10, jfs0 10), .inr (10, jfs0 10), .inr (10, jfs0 10), .inr (10, jfs0 10), .inr (10, jfs0 10), .inr (10, jfs0 10), .inr (10, jfs0 10), .inr (10, jfs0 10), .inr (10, jfs0 10), .inr (10, jfs0 10), .inr (10, jfs0 10), (.inl (.int, 400, .inl fun _ => 0)), (.inl (.int, 400, .inl fun _ => 0)), (.inl (.int, 400, .inl fun _ => 0)), (.inl (.boolean, 400, .inl fun _ => 0)), (.inl (.int, 400, .inl fun _ => 0))])) : ∀ (n k c s : Nat), k + n = 12 → c + 2 * n ≤ 26 → s + 14 * n ≤ 192 → jB_X7_init_34 X (d + 1) Q p o1 o2 (nI k) (jBk h p 7 [.ref q1, .ref q2, .null, .ref h.length, .ref (h.length + 1), .null, .null, .null, .null, .null, .null, .null, .int 0, .null, .int 0, .int 0, .int 0, .int 0, .int 0, .int 0] ([.inl (.object q.1, 12, .inr (.inr (.inr (.inr (rK (h.length + 2) k))))), .inl (.object q.1, 12, .inr (.inr (.inr (.inr (rK (h.length + 3) k)))))] ++ List.replicate (2 * k) (.inr (10, jfs0 10)))) c s
  | 0, k, c, s, hk, hc, hs => by
    have : k = 12 := by omega
    subst this
    refine jT_X7_init_34 (jif_n (by decide) ?_)
    refine bk_no (by show c + 1 ≤ 34; omega) (by show s + 7 ≤ 2213; omega) (by decide) ?_
    refine bk_rcn ?_
    refine n_Value ?_
    dsimp only [jrN]
    refine bk_putr hl rfl ?_
    refine bk_no (by show c + 1 + 1 ≤ 34; omega) (by show s + 7 + 7 ≤ 2213; omega) (by decide) ?_
    refine bk_rcn ?_
    refine n_Value ?_
    dsimp only [jrN]
    refine bk_putr hl rfl ?_
    refine bk_no (by show c + 1 + 1 + 1 ≤ 34; omega) (by show s + 7 + 7 + 7 ≤ 2213; omega) (by decide) ?_
    refine bk_rcn ?_
    refine n_Value ?_
    dsimp only [jrN]
    refine bk_putr hl rfl ?_
    refine bk_na (m := 400) (by decide) rfl (by decide) (by decide) (by show c + 1 + 1 + 1 + 1 ≤ 34; omega) (by show s + 7 + 7 + 7 + 400 ≤ 2213; omega) ?_
    refine bk_putr hl rfl ?_
    refine bk_na (m := 400) (by decide) rfl (by decide) (by decide) (by show c + 1 + 1 + 1 + 1 + 1 ≤ 34; omega) (by show s + 7 + 7 + 7 + 400 + 400 ≤ 2213; omega) ?_
    refine bk_putr hl rfl ?_
    refine bk_na (m := 400) (by decide) rfl (by decide) (by decide) (by show c + 1 + 1 + 1 + 1 + 1 + 1 ≤ 34; omega) (by show s + 7 + 7 + 7 + 400 + 400 + 400 ≤ 2213; omega) ?_
    refine bk_putr hl rfl ?_
    refine bk_na (m := 400) (by decide) rfl (by decide) (by decide) (by show c + 1 + 1 + 1 + 1 + 1 + 1 + 1 ≤ 34; omega) (by show s + 7 + 7 + 7 + 400 + 400 + 400 + 400 ≤ 2213; omega) ?_
    refine bk_putr hl rfl ?_
    refine bk_na (m := 400) (by decide) rfl (by decide) (by decide) (by show c + 1 + 1 + 1 + 1 + 1 + 1 + 1 + 1 ≤ 34; omega) (by show s + 7 + 7 + 7 + 400 + 400 + 400 + 400 + 400 ≤ 2213; omega) ?_
    refine bk_putr hl rfl ?_
    refine bk_put hl rfl ?_
    exact H
  | n + 1, k, c, s, hk, hc, hs => by
    refine jT_X7_init_34 (jif_t (nI_lt (b := 12) (by omega) (by decide)) ?_)
    refine bk_gf hl rfl ?_
    refine bk_no (by show c + 1 ≤ 34; omega) (by show s + 7 ≤ 2213; omega) (by decide) ?_
    refine bk_rcn (n_Value ?_)
    dsimp only [jrN]
    rw [bk_len]
    refine raw_wA (a := h.length) (m := 12) (C := q.1) (f := rK (h.length + 2) k) ((bk_new (i := 0)).trans rfl) bk_at (by rw [hq]; rfl) (nI_in (c := k) (by omega) (by decide)) ?_
    rw [List.cons_append, List.cons_append, List.cons_append, List.cons_append, List.nil_append, (show ∀ (fs : List Value) (a b x : JC) (L : JH), (jBk h p 7 fs (a :: b :: L)).set h.length x = jBk h p 7 fs (x :: b :: L) from fun fs a b x L => bk_setL (i := 0))]
    refine bk_gf hl rfl ?_
    refine bk_no (by show c + 1 + 1 ≤ 34; omega) (by show s + 7 + 7 ≤ 2213; omega) (by decide) ?_
    refine bk_rcn (n_Value ?_)
    dsimp only [jrN]
    rw [bk_len]
    refine raw_wA (a := h.length + 1) (m := 12) (C := q.1) (f := rK (h.length + 3) k) ((bk_new (i := 1)).trans rfl) bk_at (by rw [hq]; rfl) (nI_in (c := k) (by omega) (by decide)) ?_
    rw [List.cons_append, List.cons_append, (show ∀ (fs : List Value) (a b x : JC) (L : JH), (jBk h p 7 fs (a :: b :: L)).set (h.length + 1) x = jBk h p 7 fs (a :: x :: L) from fun fs a b x L => bk_setL (i := 1))]
    rw [show (nI k + 1 : Int32) = nI (k + 1) from nI_1 k, nI_clamp (n := k) (by omega)]
    have := l_Runner (X := X) (d := d) (o1 := o1) (o2 := o2) hl hq H n (k + 1) (c + 1 + 1) (s + 7 + 7) (by omega) (by omega) (by omega)
    have e2 : ∀ (A B : JC), [A, B] ++ List.replicate (2 * (k + 1)) (.inr (10, jfs0 10)) = A :: B :: (List.replicate (2 * k) (.inr (10, jfs0 10)) ++ [.inr (10, jfs0 10)] ++ [.inr (10, jfs0 10)]) := fun A B => by
      rw [show 2 * (k + 1) = 2 * k + 1 + 1 from by omega, List.replicate_succ', List.replicate_succ']
      rfl
    rw [e2] at this
    have e3 : ∀ (A B : JC), va_up (rK (h.length + 2) k) k (some (h.length + (A :: B :: List.replicate (2 * k) (.inr (10, jfs0 10) : JC)).length)) = rK (h.length + 2) (k + 1) := fun A B => by
      rw [← rK_up, List.length_cons, List.length_cons, List.length_replicate, show h.length + (2 * k + 1 + 1) = h.length + 2 + 2 * k from by omega]
    have e4 : ∀ (A B : JC), va_up (rK (h.length + 3) k) k (some (h.length + (A :: B :: (List.replicate (2 * k) (.inr (10, jfs0 10) : JC) ++ [.inr (10, jfs0 10)])).length)) = rK (h.length + 3) (k + 1) := fun A B => by
      rw [← rK_up, List.length_cons, List.length_cons, List.length_append, List.length_replicate, List.length_cons, List.length_nil, show h.length + (2 * k + (0 + 1) + 1 + 1) = h.length + 3 + 2 * k from by omega]
    rw [e3, e4]
    exact this
theorem n_Runner {X : JX} {d : Nat} {Q : JQ} {h : JH} {p q1 q2 : Nat} (hp : h[p]? = some (.inr (7, jfs0 7))) (H : ∀ q : vw_C, vwCl[10]? = some q → Q none (jBk h p 7 [.ref q1, .ref q2, .null, .ref h.length, .ref (h.length + 1), .ref (h.length + 26), .ref (h.length + 27), .ref (h.length + 28), .ref (h.length + 29), .ref (h.length + 30), .ref (h.length + 31), .ref (h.length + 32), .int 0, .ref (h.length + 33), .int 0, .int 0, .int 0, .int 0, .int (-1), .int 0] [.inl (.object q.1, 12, .inr (.inr (.inr (.inr (rK (h.length + 2) 12))))), .inl (.object q.1, 12, .inr (.inr (.inr (.inr (rK (h.length + 3) 12))))), .inr (10, jfs0 10), .inr (10, jfs0 10), .inr (10, jfs0 10), .inr (10, jfs0 10), .inr (10, jfs0 10), .inr (10, jfs0 10), .inr (10, jfs0 10), .inr (10, jfs0 10), .inr (10, jfs0 10), .inr (10, jfs0 10), .inr (10, jfs0 10), .inr (10, jfs0 10), .inr (10, jfs0 10), .inr (10, jfs0 10), .inr (10, jfs0 10), .inr (10, jfs0 10), .inr (10, jfs0 10), .inr (10, jfs0 10), .inr (10, jfs0 10), .inr (10, jfs0 10), .inr (10, jfs0 10), .inr (10, jfs0 10), .inr (10, jfs0 10), .inr (10, jfs0 10), .inr (10, jfs0 10), .inr (10, jfs0 10), .inr (10, jfs0 10), (.inl (.int, 400, .inl fun _ => 0)), (.inl (.int, 400, .inl fun _ => 0)), (.inl (.int, 400, .inl fun _ => 0)), (.inl (.boolean, 400, .inl fun _ => 0)), (.inl (.int, 400, .inl fun _ => 0))])) : jex X (d + 2) 21 [.ref p, .ref q1, .ref q2] h Q := by
  have hl : p < h.length := (List.getElem?_eq_some_iff.mp hp).1
  obtain ⟨q, hq⟩ : ∃ q, vwCl[10]? = some q := ⟨_, rfl⟩
  rw [show jfs0 7 = [.null, .null, .null, .null, .null, .null, .null, .null, .null, .null, .null, .null, .int 0, .null, .int 0, .int 0, .int 0, .int 0, .int 0, .int 0] from rfl] at hp
  rw [jE_X7_init, bk_start hp]
  refine jT_X7_init_0 ?_
  dsimp only [jisr]
  refine bk_put hl rfl (bk_put hl rfl ?_)
  refine bk_nr (m := 12) hq (by decide) (by decide) (by decide) (by decide) (by decide) (by decide) ?_
  refine bk_putr hl rfl ?_
  refine bk_nr (m := 12) hq (by decide) (by decide) (by decide) (by decide) (by decide) (by decide) ?_
  refine bk_putr hl rfl ?_
  have := l_Runner (X := X) (d := d) (Q := Q) (o1 := some (.ref q1)) (o2 := some (.ref q2)) hl hq (H q hq) 12 0 (0 + 1 + 1) (0 + 12 + 12) rfl (by decide) (by decide)
  rw [rK_0, rK_0] at this
  exact this
/-- the model's table of units -/
def muK (k : Nat) : Nat → Int32 := fun i => if 100 ≤ i ∧ i < k then nI (lg i) else 0
def muF : Nat → Int32 := upd (muK 1000) 1000 4096
theorem muK_0 : muK 100 = fun _ => 0 := by funext i; exact if_neg (by omega)
theorem muK_up {k : Nat} (h : 100 ≤ k) : upd (muK k) k (nI (lg k)) = muK (k + 1) := by
  funext i
  unfold upd muK
  by_cases e : i = k
  · subst e; rw [if_pos rfl, if_pos ⟨h, Nat.lt_succ_self i⟩]
  · rw [if_neg e]
    by_cases e2 : 100 ≤ i ∧ i < k
    · rw [if_pos e2, if_pos (by omega)]
    · rw [if_neg e2, if_neg (by omega)]
theorem l_mlog {X : JX} {d : Nat} {Q : JQ} {p : Nat} {a1 : Int32} {h : JH} {c s : Nat} : ∀ (n k x b : Nat), k + n = 12 → 100000000 ≤ x → x < 1000000000 → b < 2 ^ k → (∀ x', jB_X12_init_434 X d Q p a1 x' (nI (lgI n (x, b)).2) (nI 12) h c s) → jB_X12_init_434 X d Q p a1 (lN x) (nI b) (nI k) h c s
  | 0, k, x, b, hk, h1, h2, hb, H => by
    have : k = 12 := by omega
    subst this
    exact H _
  | n + 1, k, x, b, hk, h1, h2, hb, H => by
    have hp : 2 ^ k ≤ 2 ^ 12 := Nat.pow_le_pow_right (by decide) (by omega)
    refine jT_X12_init_434 (jif_t ?_ ⟨by decide, ?_⟩)
    · show nI k < nI 12
      exact nI_lt (by omega) (by decide)
    have a1 : 100000000 * 100000000 ≤ x * x := Nat.mul_le_mul h1 h1
    have a2 : x * x ≤ 999999999 * 999999999 := Nat.mul_le_mul (by omega) (by omega)
    have e1 : lN x * lN x / (100000000 : Int64) = lN (x * x / 100000000) := by
      rw [lN_mul]
      exact pk_lDiv (by omega) (by decide) (by decide)
    have e2 : (2 * nI b : Int32) = nI (b * 2) := by rw [Nat.mul_comm]; exact (Int32.ofNat_mul 2 b).symm
    have e3 : (nI k + 1 : Int32) = nI (k + 1) := nI_1 k
    have hok := lgS_ok (b := b) h1 h2
    have hbk := lgS_b (x := x) hb
    rw [e1, e2, e3, lg_cmp_lt]
    have e4 : (lN (x * x / 100000000) < (1000000000 : Int64)) = (x * x / 100000000 < 1000000000) := propext (pk_lLT (a := x * x / 100000000) (b := 1000000000) (by omega) (by decide))
    rw [e4]
    rw [lgI] at H
    refine ⟨fun hc => ?_, fun hc => ⟨by decide, ?_⟩⟩
    · have es : lgS (x, b) = (x * x / 100000000, b * 2) := if_pos hc
      rw [es] at H hok hbk
      exact l_mlog n (k + 1) _ _ (by omega) hok.1 hok.2 hbk H
    · have es : lgS (x, b) = (x * x / 100000000 / 10, b * 2 + 1) := if_neg hc
      rw [es] at H hok hbk
      have e5 : lN (x * x / 100000000) / (10 : Int64) = lN (x * x / 100000000 / 10) := pk_lDiv (by omega) (by decide) (by decide)
      have e6 : (nI (b * 2) + 1 : Int32) = nI (b * 2 + 1) := nI_1 _
      rw [e5, e6]
      exact l_mlog n (k + 1) _ _ (by omega) hok.1 hok.2 hbk H
def mFs (n : Nat) : List Value := ((((((((((((((((((((((((((((((((((((((((((((((((((((((jfs0 12).set 0 (.ref n)).set 3 (.int (-1))).set 5 (.ref (n + 1))).set 6 (.ref (n + 2))).set 7 (.ref (n + 3))).set 8 (.ref (n + 4))).set 9 (.ref (n + 5))).set 10 (.int 2)).set 11 (.int 10)).set 12 (.ref (n + 6))).set 13 (.int (-1))).set 18 (.ref (n + 7))).set 25 (.ref (n + 8))).set 26 (.ref (n + 9))).set 27 (.ref (n + 10))).set 28 (.ref (n + 11))).set 29 (.ref (n + 12))).set 30 (.ref (n + 13))).set 31 (.ref (n + 14))).set 32 (.ref (n + 15))).set 33 (.ref (n + 16))).set 34 (.ref (n + 17))).set 35 (.ref (n + 18))).set 36 (.ref (n + 19))).set 37 (.ref (n + 20))).set 38 (.ref (n + 21))).set 39 (.ref (n + 22))).set 41 (.ref (n + 23))).set 42 (.ref (n + 24))).set 43 (.ref (n + 25))).set 44 (.ref (n + 26))).set 45 (.ref (n + 27))).set 46 (.ref (n + 28))).set 47 (.ref (n + 29))).set 55 (.int (-1))).set 56 (.ref (n + 30))).set 59 (.ref (n + 31))).set 60 (.ref (n + 32))).set 61 (.ref (n + 33))).set 62 (.ref (n + 34))).set 63 (.ref (n + 35))).set 70 (.int 1)).set 71 (.int 1)).set 72 (.int 4)).set 73 (.int 2)).set 75 (.ref (n + 36))).set 76 (.ref (n + 37))).set 77 (.ref (n + 38))).set 78 (.ref (n + 39))).set 79 (.ref (n + 40))).set 80 (.ref (n + 41))).set 81 (.ref (n + 42))).set 82 (.ref (n + 43)))
theorem mFs_12 (n : Nat) : (mFs n)[12]? = some (.ref (n + 6)) := by
  unfold mFs
  simp (decide := true) only [List.getElem?_set_ne]
  rw [List.getElem?_set_self (by simp only [List.length_set]; decide)]
def mCs (f : Nat → Int32) : JH := [(.inl (.byte, 2000, .inl fun _ => 0)), (.inl (.int, 4, .inl fun _ => 0)), (.inl (.boolean, 32, .inl fun _ => 0)), (.inl (.int, 32, .inl fun _ => 0)), (.inl (.boolean, 32, .inl fun _ => 0)), (.inl (.int, 512, .inl fun _ => 0)), (.inl (.int, 1001, .inl f)), (.inl (.int, 3, .inl fun _ => 0)), (.inl (.int, 2, .inl fun _ => 0)), (.inl (.int, 820, .inl fun _ => 0)), (.inl (.int, 820, .inl fun _ => 0)), (.inl (.int, 820, .inl fun _ => 0)), (.inl (.int, 820, .inl fun _ => 0)), (.inl (.int, 820, .inl fun _ => 0)), (.inl (.int, 2, .inl fun _ => 0)), (.inl (.int, 420, .inl fun _ => 0)), (.inl (.int, 420, .inl fun _ => 0)), (.inl (.int, 420, .inl fun _ => 0)), (.inl (.int, 420, .inl fun _ => 0)), (.inl (.int, 420, .inl fun _ => 0)), (.inl (.int, 2, .inl fun _ => 0)), (.inl (.long, 24, .inr (.inl fun _ => 0))), (.inl (.boolean, 12, .inl fun _ => 0)), (.inl (.int, 6, .inl fun _ => 0)), (.inl (.int, 6, .inl fun _ => 0)), (.inl (.boolean, 12, .inl fun _ => 0)), (.inl (.int, 72, .inl fun _ => 0)), (.inl (.boolean, 12, .inl fun _ => 0)), (.inl (.int, 72, .inl fun _ => 0)), (.inl (.int, 1260, .inl fun _ => 0)), (.inl (.int, 6, .inl fun _ => 0)), (.inl (.int, 7, .inl fun _ => 0)), (.inl (.int, 7, .inl fun _ => 0)), (.inl (.boolean, 7, .inl fun _ => 0)), (.inl (.int, 7, .inl fun _ => 0)), (.inl (.int, 7, .inl fun _ => 0)), (.inl (.int, 80, .inl fun _ => 0)), (.inl (.int, 80, .inl fun _ => 0)), (.inl (.int, 80, .inl fun _ => 0)), (.inl (.int, 80, .inl fun _ => 0)), (.inl (.int, 80, .inl fun _ => 0)), (.inl (.int, 80, .inl fun _ => 0)), (.inl (.int, 80, .inl fun _ => 0)), (.inl (.boolean, 80, .inl fun _ => 0))]
theorem bk_put2 {h : JH} {p c k : Nat} {fs : List Value} {L : JH} {w : Value} {K : JH → Prop} (hp : p < h.length) (hk : k < fs.length) (H : K (jBk h p c (fs.set k w) L)) : jpf (jBk h p c fs L) (.ref p) c k w K := by
  unfold jpf
  dsimp only
  rw [bk_get hp]
  dsimp only
  rw [if_pos ⟨rfl, hk⟩, bk_set hp]
  exact H
theorem bk_putr2 {h : JH} {p c k : Nat} {fs fs0 : List Value} {L L0 : JH} {K : JH → Prop} (hp : p < h.length) (hk : k < fs.length) (H : K (jBk h p c (fs.set k (.ref (h.length + L0.length))) L)) : jpf (jBk h p c fs L) (.ref p) c k (.ref (List.length (jBk h p c fs0 L0))) K := by
  rw [bk_len]
  exact bk_put2 hp hk H
theorem l_Model {X : JX} {d : Nat} {Q : JQ} {h : JH} {p : Nat} {c s : Nat} (hl : p < h.length) (H : Q none (jBk h p 12 (mFs h.length) (mCs muF))) : ∀ (n k : Nat) (o2 o3 o4 o5 : Option Value), k + n = 1000 → 100 ≤ k → jB_X12_init_414 X d Q p (nI k) o2 o3 o4 o5 (jBk h p 12 (mFs h.length) (mCs (muK k))) c s
  | 0, k, o2, o3, o4, o5, hk, h1 => by
    have : k = 1000 := by omega
    subst this
    refine jT_X12_init_414 (jif_n (by decide) ?_)
    refine bk_gf (w := .ref (h.length + 6)) hl (mFs_12 _) ?_
    refine raw_wI (q := h.length + 6) (m := 1001) (f := muK 1000) ((bk_new (i := 6)).trans rfl) (nI_in (c := 1000) (by decide) (by decide)) ?_
    rw [bk_setL]
    exact H
  | n + 1, k, o2, o3, o4, o5, hk, h1 => by
    refine jT_X12_init_414 (jif_t (nI_lt (b := 1000) (by omega) (by decide)) ?_)
    have e : Int32.toInt64 (nI k) * 1000000 = lN (k * 1000000) := by
      rw [nI_l (by omega)]
      exact lN_mul k 1000000
    rw [e]
    refine l_mlog 12 0 (k * 1000000) 0 rfl (by omega) (by omega) (by decide) (fun x' => ?_)
    refine jT_X12_init_434 (jif_n (by decide) ?_)
    refine bk_gf (w := .ref (h.length + 6)) hl (mFs_12 _) ?_
    refine raw_wI (q := h.length + 6) (m := 1001) (f := muK k) ((bk_new (i := 6)).trans rfl) (nI_in (c := k) (by omega) (by decide)) ?_
    rw [bk_setL, nI_clamp (n := k) (by omega), show (lgI 12 (k * 1000000, 0)).2 = lg k from rfl, muK_up h1, show (nI k + 1 : Int32) = nI (k + 1) from nI_1 k]
    exact l_Model hl H n (k + 1) _ _ _ _ (by omega) (by omega)
theorem n_Model {X : JX} {d : Nat} {Q : JQ} {h : JH} {p : Nat} (hp : h[p]? = some (.inr (12, jfs0 12))) (H : Q none (jBk h p 12 (mFs h.length) (mCs muF))) : jex X (d + 1) 28 [.ref p] h Q := by
  have hl : p < h.length := (List.getElem?_eq_some_iff.mp hp).1
  obtain ⟨fs0, hfs, hlen⟩ : ∃ fs0 : List Value, jfs0 12 = fs0 ∧ fs0.length = 85 := ⟨jfs0 12, rfl, rfl⟩
  rw [hfs] at hp
  rw [jE_X12_init, bk_start hp]
  refine jT_X12_init_0 ?_
  refine bk_na (m := 2000) (by decide) rfl (by decide) (by decide) (by decide) (by decide) ?_
  refine bk_putr2 hl (by simp only [List.length_set, hlen]; decide) ?_
  refine bk_put2 hl (by simp only [List.length_set, hlen]; decide) ?_
  refine bk_na (m := 4) (by decide) rfl (by decide) (by decide) (by decide) (by decide) ?_
  refine bk_putr2 hl (by simp only [List.length_set, hlen]; decide) ?_
  refine bk_na (m := 32) (by decide) rfl (by decide) (by decide) (by decide) (by decide) ?_
  refine bk_putr2 hl (by simp only [List.length_set, hlen]; decide) ?_
  refine bk_na (m := 32) (by decide) rfl (by decide) (by decide) (by decide) (by decide) ?_
  refine bk_putr2 hl (by simp only [List.length_set, hlen]; decide) ?_
  refine bk_na (m := 32) (by decide) rfl (by decide) (by decide) (by decide) (by decide) ?_
  refine bk_putr2 hl (by simp only [List.length_set, hlen]; decide) ?_
  refine bk_na (m := 512) (by decide) rfl (by decide) (by decide) (by decide) (by decide) ?_
  refine bk_putr2 hl (by simp only [List.length_set, hlen]; decide) ?_
  refine bk_put2 hl (by simp only [List.length_set, hlen]; decide) ?_
  refine bk_put2 hl (by simp only [List.length_set, hlen]; decide) ?_
  refine bk_na (m := 1001) (by decide) rfl (by decide) (by decide) (by decide) (by decide) ?_
  refine bk_putr2 hl (by simp only [List.length_set, hlen]; decide) ?_
  refine bk_put2 hl (by simp only [List.length_set, hlen]; decide) ?_
  refine bk_na (m := 3) (by decide) rfl (by decide) (by decide) (by decide) (by decide) ?_
  refine bk_putr2 hl (by simp only [List.length_set, hlen]; decide) ?_
  refine bk_na (m := 2) (by decide) rfl (by decide) (by decide) (by decide) (by decide) ?_
  refine bk_putr2 hl (by simp only [List.length_set, hlen]; decide) ?_
  refine bk_na (m := 820) (by decide) rfl (by decide) (by decide) (by decide) (by decide) ?_
  refine bk_putr2 hl (by simp only [List.length_set, hlen]; decide) ?_
  refine bk_na (m := 820) (by decide) rfl (by decide) (by decide) (by decide) (by decide) ?_
  refine bk_putr2 hl (by simp only [List.length_set, hlen]; decide) ?_
  refine bk_na (m := 820) (by decide) rfl (by decide) (by decide) (by decide) (by decide) ?_
  refine bk_putr2 hl (by simp only [List.length_set, hlen]; decide) ?_
  refine bk_na (m := 820) (by decide) rfl (by decide) (by decide) (by decide) (by decide) ?_
  refine bk_putr2 hl (by simp only [List.length_set, hlen]; decide) ?_
  refine bk_na (m := 820) (by decide) rfl (by decide) (by decide) (by decide) (by decide) ?_
  refine bk_putr2 hl (by simp only [List.length_set, hlen]; decide) ?_
  refine bk_na (m := 2) (by decide) rfl (by decide) (by decide) (by decide) (by decide) ?_
  refine bk_putr2 hl (by simp only [List.length_set, hlen]; decide) ?_
  refine bk_na (m := 420) (by decide) rfl (by decide) (by decide) (by decide) (by decide) ?_
  refine bk_putr2 hl (by simp only [List.length_set, hlen]; decide) ?_
  refine bk_na (m := 420) (by decide) rfl (by decide) (by decide) (by decide) (by decide) ?_
  refine bk_putr2 hl (by simp only [List.length_set, hlen]; decide) ?_
  refine bk_na (m := 420) (by decide) rfl (by decide) (by decide) (by decide) (by decide) ?_
  refine bk_putr2 hl (by simp only [List.length_set, hlen]; decide) ?_
  refine bk_na (m := 420) (by decide) rfl (by decide) (by decide) (by decide) (by decide) ?_
  refine bk_putr2 hl (by simp only [List.length_set, hlen]; decide) ?_
  refine bk_na (m := 420) (by decide) rfl (by decide) (by decide) (by decide) (by decide) ?_
  refine bk_putr2 hl (by simp only [List.length_set, hlen]; decide) ?_
  refine bk_na (m := 2) (by decide) rfl (by decide) (by decide) (by decide) (by decide) ?_
  refine bk_putr2 hl (by simp only [List.length_set, hlen]; decide) ?_
  refine bk_na (m := 24) (by decide) rfl (by decide) (by decide) (by decide) (by decide) ?_
  refine bk_putr2 hl (by simp only [List.length_set, hlen]; decide) ?_
  refine bk_na (m := 12) (by decide) rfl (by decide) (by decide) (by decide) (by decide) ?_
  refine bk_putr2 hl (by simp only [List.length_set, hlen]; decide) ?_
  refine bk_na (m := 6) (by decide) rfl (by decide) (by decide) (by decide) (by decide) ?_
  refine bk_putr2 hl (by simp only [List.length_set, hlen]; decide) ?_
  refine bk_na (m := 6) (by decide) rfl (by decide) (by decide) (by decide) (by decide) ?_
  refine bk_putr2 hl (by simp only [List.length_set, hlen]; decide) ?_
  refine bk_na (m := 12) (by decide) rfl (by decide) (by decide) (by decide) (by decide) ?_
  refine bk_putr2 hl (by simp only [List.length_set, hlen]; decide) ?_
  refine bk_na (m := 72) (by decide) rfl (by decide) (by decide) (by decide) (by decide) ?_
  refine bk_putr2 hl (by simp only [List.length_set, hlen]; decide) ?_
  refine bk_na (m := 12) (by decide) rfl (by decide) (by decide) (by decide) (by decide) ?_
  refine bk_putr2 hl (by simp only [List.length_set, hlen]; decide) ?_
  refine bk_na (m := 72) (by decide) rfl (by decide) (by decide) (by decide) (by decide) ?_
  refine bk_putr2 hl (by simp only [List.length_set, hlen]; decide) ?_
  refine bk_na (m := 1260) (by decide) rfl (by decide) (by decide) (by decide) (by decide) ?_
  refine bk_putr2 hl (by simp only [List.length_set, hlen]; decide) ?_
  refine bk_put2 hl (by simp only [List.length_set, hlen]; decide) ?_
  refine bk_na (m := 6) (by decide) rfl (by decide) (by decide) (by decide) (by decide) ?_
  refine bk_putr2 hl (by simp only [List.length_set, hlen]; decide) ?_
  refine bk_na (m := 7) (by decide) rfl (by decide) (by decide) (by decide) (by decide) ?_
  refine bk_putr2 hl (by simp only [List.length_set, hlen]; decide) ?_
  refine bk_na (m := 7) (by decide) rfl (by decide) (by decide) (by decide) (by decide) ?_
  refine bk_putr2 hl (by simp only [List.length_set, hlen]; decide) ?_
  refine bk_na (m := 7) (by decide) rfl (by decide) (by decide) (by decide) (by decide) ?_
  refine bk_putr2 hl (by simp only [List.length_set, hlen]; decide) ?_
  refine bk_na (m := 7) (by decide) rfl (by decide) (by decide) (by decide) (by decide) ?_
  refine bk_putr2 hl (by simp only [List.length_set, hlen]; decide) ?_
  refine bk_na (m := 7) (by decide) rfl (by decide) (by decide) (by decide) (by decide) ?_
  refine bk_putr2 hl (by simp only [List.length_set, hlen]; decide) ?_
  refine bk_put2 hl (by simp only [List.length_set, hlen]; decide) ?_
  refine bk_put2 hl (by simp only [List.length_set, hlen]; decide) ?_
  refine bk_put2 hl (by simp only [List.length_set, hlen]; decide) ?_
  refine bk_put2 hl (by simp only [List.length_set, hlen]; decide) ?_
  refine bk_na (m := 80) (by decide) rfl (by decide) (by decide) (by decide) (by decide) ?_
  refine bk_putr2 hl (by simp only [List.length_set, hlen]; decide) ?_
  refine bk_na (m := 80) (by decide) rfl (by decide) (by decide) (by decide) (by decide) ?_
  refine bk_putr2 hl (by simp only [List.length_set, hlen]; decide) ?_
  refine bk_na (m := 80) (by decide) rfl (by decide) (by decide) (by decide) (by decide) ?_
  refine bk_putr2 hl (by simp only [List.length_set, hlen]; decide) ?_
  refine bk_na (m := 80) (by decide) rfl (by decide) (by decide) (by decide) (by decide) ?_
  refine bk_putr2 hl (by simp only [List.length_set, hlen]; decide) ?_
  refine bk_na (m := 80) (by decide) rfl (by decide) (by decide) (by decide) (by decide) ?_
  refine bk_putr2 hl (by simp only [List.length_set, hlen]; decide) ?_
  refine bk_na (m := 80) (by decide) rfl (by decide) (by decide) (by decide) (by decide) ?_
  refine bk_putr2 hl (by simp only [List.length_set, hlen]; decide) ?_
  refine bk_na (m := 80) (by decide) rfl (by decide) (by decide) (by decide) (by decide) ?_
  refine bk_putr2 hl (by simp only [List.length_set, hlen]; decide) ?_
  refine bk_na (m := 80) (by decide) rfl (by decide) (by decide) (by decide) (by decide) ?_
  refine bk_putr2 hl (by simp only [List.length_set, hlen]; decide) ?_
  have key := fun (c s : Nat) => l_Model (X := X) (d := d) (Q := Q) (c := c) (s := s) hl H 900 100 none none none none rfl (by decide)
  rw [muK_0] at key
  have e : ∀ (fs : List Value) (L : JH) (c s : Nat), fs = mFs h.length → L = mCs (fun _ => 0) → jB_X12_init_414 X d Q p (nI 100) none none none none (jBk h p 12 fs L) c s := fun fs L c s e1 e2 => by rw [e1, e2]; exact key c s
  refine e _ _ _ _ ?_ ?_
  · subst hfs
    simp only [List.nil_append, List.cons_append, List.length_cons, List.length_nil, Nat.reduceAdd, Nat.zero_add, Nat.add_zero, mFs]
  · rfl
