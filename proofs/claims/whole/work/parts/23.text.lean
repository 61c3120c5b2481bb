/-! TEXTS AND THE TAPE'S CONSTRUCTOR -/
def tB (n : Nat) : UInt32 := UInt32.ofNat (n + 2)
theorem tx_1 : ∀ n, n < 11 → (2 ≤ (tB n).toNat ∧ (tB n).toNat < 13) ∧ (UInt32.ofNat (18 + (tB n).toNat)).toNat = n + 20 ∧ UInt32.ofNat (18 + (tB n).toNat) ≠ 0 ∧ UInt32.ofNat (18 + (tB n).toNat) ≠ 1 := by decide
theorem tx_B {n : Nat} (hn : n < 11) : jextB (UInt32.ofNat (18 + (tB n).toNat)) = some (jtxtL n, jtxtB n) := by
  unfold jextB
  rw [(tx_1 n hn).2.1, if_pos (by omega), Nat.add_sub_cancel]
theorem tx_I {X : JX} {n : Nat} (hn : n < 11) : jextI X (UInt32.ofNat (18 + (tB n).toNat)) = none := by
  unfold jextI
  rw [if_neg (tx_1 n hn).2.2.1, if_neg (tx_1 n hn).2.2.2]
theorem tx_L : ∀ n, n < 11 → jtxtL n ≤ 6 := by decide
theorem tx_ch : ∀ n, n < 11 → ∀ j, j < jtxtL n → (UInt32.toInt32 (Int32.toUInt32 (jtxtB n j &&& 255) % 65536)) = jtxtB n j ∧ (Int32.toUInt32 (jtxtB n j)).toUInt16.toUInt32.toInt32 = jtxtB n j := by decide
theorem tx_rc {h : JH} {n : Nat} {K : Prop} (hn : n < 11) (H : K) : jrc h (.float (tB n)) 13 K := by
  unfold jrc
  dsimp only
  rw [if_pos ⟨rfl, (tx_1 n hn).1⟩]
  exact H
theorem tx_ln {X : JX} {h : JH} {n : Nat} {K : Int32 → Prop} (hn : n < 11) (H : K (Int32.ofNat (jtxtL n))) : jaln X h (.float (UInt32.ofNat (18 + (tB n).toNat))) K := by
  unfold jaln
  dsimp only
  rw [tx_I hn, tx_B hn]
  exact H
theorem tx_aB {h : JH} {n : Nat} {i : Int32} {K : Int32 → Prop} (hn : n < 11) (hi : vp_in i (jtxtL n)) (H : K (jtxtB n i.toNatClampNeg)) : jaB h (.float (UInt32.ofNat (18 + (tB n).toNat))) i K := by
  unfold jaB
  dsimp only
  rw [tx_B hn]
  exact ⟨hi, H⟩
theorem c_strlen {X : JX} {d : Nat} {Q : JQ} {h : JH} {n : Nat} (hn : n < 11) (H : Q (some (.int (nI (jtxtL n)))) h) : jex X (d + 2) 8 [.float (tB n)] h Q := by
  rw [jE_J0_length_8abf5]
  refine jT_J0_length_8abf5_0 (jif_t (tx_1 n hn).1 ?_)
  refine tx_ln hn (tx_rc hn ?_)
  rw [jE_J0_coder_7d493]
  refine jT_J0_coder_7d493_0 (jif_n (by decide) (jif_t (tx_1 n hn).1 ⟨by decide, ?_⟩))
  dsimp only [jrI]
  have e : ∀ x : Int32, x >>> ((0 : Int32) &&& 31) = x := fun x => by
    rw [show ((0 : Int32) &&& 31) = 0 from by decide]
    exact Int32.shiftRight_zero
  rw [e]
  exact H
theorem c_checkIndex {X : JX} {d : Nat} {Q : JQ} {h : JH} {a b : Int32} (h1 : ¬ a < 0) (h2 : a < b) (H : Q none h) : jex X (d + 2) 13 [.int a, .int b] h Q := by
  rw [jE_J0_checkIndex_df160]
  refine jT_J0_checkIndex_df160_0 ?_
  rw [jE_J3_checkIndex_8e157]
  exact jT_J3_checkIndex_8e157_0 (jif_n h1 (jif_t h2 H))
theorem c_charAt {X : JX} {d : Nat} {Q : JQ} {h : JH} {n j : Nat} (hn : n < 11) (hj : j < jtxtL n) (H : Q (some (.int (jtxtB n j))) h) : jex X (d + 4) 10 [.float (tB n), .int (nI j)] h Q := by
  have hL := tx_L n hn
  rw [jE_J0_charAt_5068e]
  refine jT_J0_charAt_5068e_0 (tx_rc hn ?_)
  rw [jE_J0_isLatin1_aae02]
  refine jT_J0_isLatin1_aae02_0 (jif_n (by decide) (jif_t (tx_1 n hn).1 (jif_t (by decide) ⟨by decide, ?_⟩)))
  dsimp only [jrI]
  refine jif_n (by decide) (jif_t (tx_1 n hn).1 ?_)
  rw [jE_J1_charAt_3b067]
  refine jT_J1_charAt_3b067_0 ?_
  refine tx_ln hn ?_
  refine c_checkIndex (nI_pos (by omega)) (nI_lt (b := jtxtL n) hj (by omega)) ?_
  dsimp only [jrN]
  refine tx_aB hn (nI_in hj (by omega)) ?_
  rw [nI_clamp (by omega), (tx_ch n hn j hj).1]
  exact ⟨(tx_ch n hn j hj).2, (tx_ch n hn j hj).2, H⟩
/-- a text's code, letter by letter -/
def cN (n : Nat) : Nat → Int64
  | 0 => 0
  | k + 1 => cN n k * 27 + Int32.toInt64 (jtxtB n k - 97 + 1)
theorem l_codeOf {X : JX} {d : Nat} {Q : JQ} {h : JH} {n : Nat} {c s : Nat} (hn : n < 11) (H : Q (some (.long (cN n (jtxtL n)))) h) : ∀ (m k : Nat), k + m = jtxtL n → jB_X9_codeOf_4 X (d + 4) Q (.float (tB n)) (cN n k) (nI k) h c s
  | 0, k, hk => by
    have hL := tx_L n hn
    refine jT_X9_codeOf_4 ?_
    dsimp only [jisr]
    refine tx_rc hn ?_
    refine c_strlen hn ?_
    dsimp only [jrI]
    have : k = jtxtL n := by omega
    subst this
    exact jif_n (nI_nlt (Nat.le_refl _) (by omega)) H
  | m + 1, k, hk => by
    have hL := tx_L n hn
    refine jT_X9_codeOf_4 ?_
    dsimp only [jisr]
    refine tx_rc hn ?_
    refine c_strlen hn ?_
    dsimp only [jrI]
    refine jif_t (nI_lt (by omega) (by omega)) (tx_rc hn (c_charAt hn (by omega) ?_))
    dsimp only [jrI]
    rw [jE_X9_withLetter]
    refine jT_X9_withLetter_0 ?_
    dsimp only [jrL]
    rw [show (nI k + 1 : Int32) = nI (k + 1) from nI_1 k]
    exact l_codeOf hn H m (k + 1) (by omega)
theorem c_codeOf {X : JX} {d : Nat} {Q : JQ} {h : JH} {n : Nat} (hn : n < 11) (H : Q (some (.long (cN n (jtxtL n)))) h) : jex X (d + 5) 7 [.float (tB n)] h Q := by
  rw [jE_X9_codeOf]
  exact jT_X9_codeOf_0 (l_codeOf hn H (jtxtL n) 0 (Nat.zero_add _))
/-- the words' codes by kind -/
def wdK : Nat → Nat → Int64
  | 0 => fun _ => 0
  | n + 1 => vp_updL (wdK n) (n + 4) (cN n (jtxtL n))
theorem n_Tape {X : JX} {d : Nat} {Q : JQ} {h : JH} {p : Nat} (hp : h[p]? = some (.inr (9, jfs0 9))) (H : Q none (jBk h p 9 [.ref h.length, .int 0, .ref (h.length + 1), .int 0, .int 0, .long 0, .int 0, .int 0, .int 0, .int 0] [.inl (.int, 2000, .inl fun _ => 0), .inl (.long, 15, .inr (.inl (wdK 11)))])) : jex X (d + 6) 6 [.ref p] h Q := by
  have hl : p < h.length := (List.getElem?_eq_some_iff.mp hp).1
  rw [show jfs0 9 = [.null, .int 0, .null, .int 0, .int 0, .long 0, .int 0, .int 0, .int 0, .int 0] from rfl] at hp
  rw [jE_X9_init, bk_start hp]
  refine jT_X9_init_0 ?_
  refine bk_na (m := 2000) (by decide) rfl (by decide) (by decide) (by decide) (by decide) ?_
  refine bk_putr hl rfl ?_
  refine bk_na (m := 15) (by decide) rfl (by decide) (by decide) (by decide) (by decide) ?_
  refine bk_putr hl rfl ?_
  have e : ∀ g x, (jBk h p 9 [.ref h.length, .int 0, .ref (h.length + 1), .int 0, .int 0, .long 0, .int 0, .int 0, .int 0, .int 0] [.inl (.int, 2000, .inl fun _ => 0), .inl (.long, 15, .inr (.inl g))]).set (h.length + 1) x = jBk h p 9 [.ref h.length, .int 0, .ref (h.length + 1), .int 0, .int 0, .long 0, .int 0, .int 0, .int 0, .int 0] [.inl (.int, 2000, .inl fun _ => 0), x] := fun g x => bk_setL (i := 1)
  dsimp only [List.length_nil, List.length_cons, List.length_append, Nat.add_zero, Nat.zero_add, List.set_cons_zero, List.set_cons_succ, List.nil_append, List.cons_append]
  rw [show (fun _ => (0 : Int64)) = wdK 0 from rfl]
  refine bk_gf hl rfl (c_codeOf (n := 0) (by decide) ?_)
  dsimp only [jrL]
  refine raw_wL (q := h.length + 1) (m := 15) (f := wdK 0) ((bk_new (i := 1)).trans rfl) (nI_in (c := 4) (by decide) (by decide)) ?_
  rw [e]
  refine bk_gf hl rfl (c_codeOf (n := 1) (by decide) ?_)
  dsimp only [jrL]
  refine raw_wL (q := h.length + 1) (m := 15) (f := wdK 1) ((bk_new (i := 1)).trans rfl) (nI_in (c := 5) (by decide) (by decide)) ?_
  rw [e]
  refine bk_gf hl rfl (c_codeOf (n := 2) (by decide) ?_)
  dsimp only [jrL]
  refine raw_wL (q := h.length + 1) (m := 15) (f := wdK 2) ((bk_new (i := 1)).trans rfl) (nI_in (c := 6) (by decide) (by decide)) ?_
  rw [e]
  refine bk_gf hl rfl (c_codeOf (n := 3) (by decide) ?_)
  dsimp only [jrL]
  refine raw_wL (q := h.length + 1) (m := 15) (f := wdK 3) ((bk_new (i := 1)).trans rfl) (nI_in (c := 7) (by decide) (by decide)) ?_
  rw [e]
  refine bk_gf hl rfl (c_codeOf (n := 4) (by decide) ?_)
  dsimp only [jrL]
  refine raw_wL (q := h.length + 1) (m := 15) (f := wdK 4) ((bk_new (i := 1)).trans rfl) (nI_in (c := 8) (by decide) (by decide)) ?_
  rw [e]
  refine bk_gf hl rfl (c_codeOf (n := 5) (by decide) ?_)
  dsimp only [jrL]
  refine raw_wL (q := h.length + 1) (m := 15) (f := wdK 5) ((bk_new (i := 1)).trans rfl) (nI_in (c := 9) (by decide) (by decide)) ?_
  rw [e]
  refine bk_gf hl rfl (c_codeOf (n := 6) (by decide) ?_)
  dsimp only [jrL]
  refine raw_wL (q := h.length + 1) (m := 15) (f := wdK 6) ((bk_new (i := 1)).trans rfl) (nI_in (c := 10) (by decide) (by decide)) ?_
  rw [e]
  refine bk_gf hl rfl (c_codeOf (n := 7) (by decide) ?_)
  dsimp only [jrL]
  refine raw_wL (q := h.length + 1) (m := 15) (f := wdK 7) ((bk_new (i := 1)).trans rfl) (nI_in (c := 11) (by decide) (by decide)) ?_
  rw [e]
  refine bk_gf hl rfl (c_codeOf (n := 8) (by decide) ?_)
  dsimp only [jrL]
  refine raw_wL (q := h.length + 1) (m := 15) (f := wdK 8) ((bk_new (i := 1)).trans rfl) (nI_in (c := 12) (by decide) (by decide)) ?_
  rw [e]
  refine bk_gf hl rfl (c_codeOf (n := 9) (by decide) ?_)
  dsimp only [jrL]
  refine raw_wL (q := h.length + 1) (m := 15) (f := wdK 9) ((bk_new (i := 1)).trans rfl) (nI_in (c := 13) (by decide) (by decide)) ?_
  rw [e]
  refine bk_gf hl rfl (c_codeOf (n := 10) (by decide) ?_)
  dsimp only [jrL]
  refine raw_wL (q := h.length + 1) (m := 15) (f := wdK 10) ((bk_new (i := 1)).trans rfl) (nI_in (c := 14) (by decide) (by decide)) ?_
  rw [e]
  exact H
