/-! THE LAW'S CONSTRUCTOR -/
theorem raw_wI {h : JH} {q m : Nat} {f : Nat → Int32} {a x : Int32} {K : JH → Prop} (hq : h[q]? = some (.inl (.int, m, .inl f))) (hi : vp_in a m) (H : K (h.set q (.inl (.int, m, .inl (upd f a.toNatClampNeg x))))) : jwI h (.ref q) a x K := by
  unfold jwI
  dsimp only
  rw [hq]
  exact ⟨hi, H⟩
theorem raw_wL {h : JH} {q m : Nat} {f : Nat → Int64} {a : Int32} {x : Int64} {K : JH → Prop} (hq : h[q]? = some (.inl (.long, m, .inr (.inl f)))) (hi : vp_in a m) (H : K (h.set q (.inl (.long, m, .inr (.inl (vp_updL f a.toNatClampNeg x)))))) : jwL h (.ref q) a x K := by
  unfold jwL
  dsimp only
  rw [hq]
  exact ⟨hi, H⟩
theorem raw_aI {X : JX} {h : JH} {q m : Nat} {f : Nat → Int32} {a : Int32} {K : Int32 → Prop} (hq : h[q]? = some (.inl (.int, m, .inl f))) (hi : vp_in a m) (H : K (f a.toNatClampNeg)) : jaI X h (.ref q) a K := by
  unfold jaI
  dsimp only
  rw [hq]
  exact ⟨hi, H⟩
theorem raw_ln {X : JX} {h : JH} {q m : Nat} {t : FieldType} {f : (Nat → Int32) ⊕ (Nat → Int64) ⊕ (Nat → UInt32) ⊕ (Nat → UInt64) ⊕ (Nat → Option Nat)} {K : Int32 → Prop} (hq : h[q]? = some (.inl (t, m, f))) (H : K (Int32.ofNat m)) : jaln X h (.ref q) K := by
  unfold jaln
  dsimp only
  rw [hq]
  exact H
theorem set_end {h : JH} {c c' : JC} : (h ++ [c]).set h.length c' = h ++ [c'] := by
  rw [List.set_append_right _ _ (Nat.le_refl _), Nat.sub_self]
  rfl
/-- a table under way -/
def tabK (fd k : Nat) : Nat → Int32 := fun i => if i < k then nI (lgU i / fd) else 0
def tabF (fd : Nat) : Nat → Int32 := tabK fd (900 * fd + 1)
theorem tabK_0 (fd : Nat) : tabK fd 0 = fun _ => 0 := by funext i; exact if_neg (Nat.not_lt_zero i)
theorem tabK_upd (fd k : Nat) : upd (tabK fd k) k (nI (lgU k / fd)) = tabK fd (k + 1) := by
  funext i
  unfold upd tabK
  by_cases e : i = k
  · subst e; rw [if_pos rfl, if_pos (Nat.lt_succ_self i)]
  · rw [if_neg e]
    by_cases e2 : i < k
    · rw [if_pos e2, if_pos (by omega)]
    · rw [if_neg e2, if_neg (by omega)]
theorem tabK_at {fd k i : Nat} (h : i < k) : tabK fd k i = nI (lgU i / fd) := if_pos h
theorem lgU_low {i : Nat} (h : i < 900) : lgU i = lg (i + 100) := by
  unfold lgU
  rw [Nat.mod_eq_of_lt h, Nat.div_eq_of_lt h, Nat.mul_zero, Nat.add_zero]
theorem lgU_mod (i : Nat) : lgU (i % 900) + 4096 * (i / 900) = lgU i := by
  rw [lgU_low (Nat.mod_lt _ (by decide))]
  unfold lgU
  exact Eq.refl _
theorem nI_rem {a b : Nat} (ha : a < 2147483648) (hb : 0 < b) (hb2 : b < 2147483648) : nI a - nI a / nI b * nI b = nI (a % b) := pk_rem ha hb hb2
theorem nI_div {a b : Nat} (ha : a < 2147483648) (hb : 0 < b) (hb2 : b < 2147483648) : nI a / nI b = nI (a / b) := by
  apply Int32.toInt_inj.mp
  have a1 : (nI a).toInt = a := nI_toInt ha
  have b1 : (nI b).toInt = b := nI_toInt hb2
  have c1 : a / b ≤ a := Nat.div_le_self _ _
  rw [ti_divp (by omega) (by omega), a1, b1, nI_toInt (by omega)]
  rfl
theorem l_folded {X : JX} {d : Nat} {Q : JQ} {h : JH} {q fd : Nat} {k0 : Nat} {o : Option Value} {c s : Nat} (hq : h[q]? = some (.inl (.int, 901, .inl (tabK 1 k0)))) (hk0 : 900 ≤ k0) (h1 : 0 < fd) (h2 : fd ≤ 3) (H : Q (some (.ref h.length)) (h ++ [.inl (.int, 900 * fd + 1, .inl (tabF fd))])) : ∀ (n k : Nat), k + n = 900 * fd + 1 → jB_X3_folded_19 X d Q (.ref q) o (nI fd) (.ref h.length) (nI k) (h ++ [.inl (.int, 900 * fd + 1, .inl (tabK fd k))]) c s
  | 0, k, hk => by
    refine jT_X3_folded_19 ?_
    dsimp only [jisr]
    refine raw_ln get_end ?_
    refine jif_n ?_ ?_
    · have : k = 900 * fd + 1 := by omega
      subst this
      exact nI_nlt (Nat.le_refl _) (by omega)
    · have : k = 900 * fd + 1 := by omega
      subst this
      exact H
  | n + 1, k, hk => by
    have hlq : q < h.length := (List.getElem?_eq_some_iff.mp hq).1
    have hkm : k % 900 < 900 := Nat.mod_lt _ (by decide)
    have hU := lgU_lt k
    refine jT_X3_folded_19 ?_
    dsimp only [jisr]
    refine raw_ln get_end ?_
    refine jif_t (nI_lt (by omega) (by omega)) ?_
    refine ⟨by decide, ?_⟩
    have e1 : (nI k - nI k / 900 * 900 : Int32) = nI (k % 900) := nI_rem (b := 900) (by omega) (by decide) (by decide)
    have e2 : (nI k / 900 : Int32) = nI (k / 900) := nI_div (b := 900) (by omega) (by decide) (by decide)
    rw [e1, e2]
    refine raw_aI (by rw [get_app hlq]; exact hq) (nI_in (by omega) (by decide)) ⟨by decide, nI_ne0 h1 (by omega), ?_⟩
    have e3 : ((tabK 1 k0 (nI (k % 900)).toNatClampNeg + 4096 * nI (k / 900)) / nI fd : Int32) = nI (lgU k / fd) := by
      rw [nI_clamp (by omega), tabK_at (by omega), Nat.div_one]
      have a1 : (4096 * nI (k / 900) : Int32) = nI (4096 * (k / 900)) := (Int32.ofNat_mul 4096 (k / 900)).symm
      rw [a1, nI_add, lgU_mod]
      exact nI_div (by omega) h1 (by omega)
    rw [e3]
    refine raw_wI get_end (nI_in (by omega) (by omega)) ?_
    rw [set_end, nI_clamp (by omega), tabK_upd]
    rw [show (nI k + 1 : Int32) = nI (k + 1) from nI_1 k]
    exact l_folded hq hk0 h1 h2 H n (k + 1) (by omega)
/-- the larger of 1 and a number above nothing -/
theorem c_max1 {X : JX} {d : Nat} {Q : JQ} {h : JH} {a : Int32} (ha : 1 ≤ a.toInt) (H : Q (some (.int a)) h) : jex X (d + 1) 4 [.int 1, .int a] h Q := by
  rw [jE_J9_max]
  refine jT_J9_max_0 ⟨fun _ => H, fun hc => ?_⟩
  rw [ti_lt, show (1 : Int32).toInt = 1 from rfl] at hc
  rw [show (1 : Int32) = a from ti_eq.mpr (by rw [show (1 : Int32).toInt = 1 from rfl]; omega)]
  exact H
theorem c_folded {X : JX} {d : Nat} {Q : JQ} {h : JH} {q fd : Nat} {k0 : Nat} {n : Int32} (hn : n = nI fd) (hq : h[q]? = some (.inl (.int, 901, .inl (tabK 1 k0)))) (hk0 : 900 ≤ k0) (h1 : 0 < fd) (h2 : fd ≤ 3) (H : Q (some (.ref h.length)) (h ++ [.inl (.int, 900 * fd + 1, .inl (tabF fd))])) : jex X (d + 2) 3 [.ref q, .int n] h Q := by
  subst hn
  rw [jE_X3_folded]
  refine jT_X3_folded_0 (c_max1 (by rw [nI_toInt (by omega)]; omega) ?_)
  dsimp only [jrI]
  have e1 : (nI fd * 900 + 1 : Int32) = nI (900 * fd + 1) := by
    have a1 : (nI fd * 900 : Int32) = nI (fd * 900) := (Int32.ofNat_mul fd 900).symm
    rw [a1, nI_1, Nat.mul_comm]
  rw [e1]
  unfold jna
  rw [nI_clamp (by omega)]
  refine ⟨nI_pos (by omega), by omega, by show 0 + 1 ≤ 1; omega, by show 0 + (900 * fd + 1) ≤ 2701; omega, ?_⟩
  have := l_folded (X := X) (d := d + 1) (Q := Q) (o := some (.int (nI fd))) (c := 0 + 1) (s := 0 + (900 * fd + 1)) hq hk0 h1 h2 H (900 * fd + 1) 0 (by omega)
  rw [tabK_0] at this
  exact this
theorem l_Law {X : JX} {d : Nat} {Q : JQ} {h : JH} {p : Nat} {c s : Nat} (hl : p < h.length) (hc : c + 2 ≤ 3) (hs : s + 2701 + 2701 ≤ 6303) (H : Q none (jBk h p 3 [.ref h.length, .ref (h.length + 1), .ref (h.length + 2)] [.inl (.int, 901, .inl (tabF 1)), .inl (.int, 1801, .inl (tabF 2)), .inl (.int, 2701, .inl (tabF 3))])) : ∀ (n k : Nat), k + n = 900 → jB_X3_init_15 X (d + 2) Q p (nI k) (jBk h p 3 [.ref h.length, .null, .null] [.inl (.int, 901, .inl (tabK 1 k))]) c s
  | 0, k, hk => by
    have : k = 900 := by omega
    subst this
    refine jT_X3_init_15 (jif_n (by decide) ?_)
    refine bk_gf hl rfl ?_
    refine raw_wI (q := h.length) (m := 901) (f := tabK 1 900) ((bk_new (i := 0)).trans rfl) (nI_in (c := 900) (by decide) (by decide)) ?_
    rw [show ∀ x, (jBk h p 3 [.ref h.length, .null, .null] [.inl (.int, 901, .inl (tabK 1 900))]).set h.length x = jBk h p 3 [.ref h.length, .null, .null] [x] from fun x => bk_setL (i := 0)]
    have e1 : upd (tabK 1 900) (900 : Int32).toNatClampNeg 4096 = tabF 1 := by
      have := tabK_upd 1 900
      rw [show lgU 900 / 1 = 4096 from by rw [Nat.div_one]; exact lgU_900 1] at this
      exact this
    rw [e1]
    refine bk_gf hl rfl ⟨by show c + 1 ≤ 3; omega, by show s + 2701 ≤ 6303; omega, ?_⟩
    refine c_folded (fd := 2) (k0 := 901) rfl ((bk_new (i := 0)).trans rfl) (by decide) (by decide) (by decide) ?_
    dsimp only [jrA, jisr]
    rw [bk_app]
    refine bk_putr hl rfl ?_
    refine bk_gf hl rfl ⟨by show c + 1 + 1 ≤ 3; omega, by show s + 2701 + 2701 ≤ 6303; omega, ?_⟩
    refine c_folded (fd := 3) (k0 := 901) rfl ((bk_new (i := 0)).trans rfl) (by decide) (by decide) (by decide) ?_
    dsimp only [jrA, jisr]
    rw [bk_app]
    refine bk_putr hl rfl ?_
    exact H
  | n + 1, k, hk => by
    refine jT_X3_init_15 (jif_t (nI_lt (b := 900) (by omega) (by decide)) ?_)
    refine bk_gf hl rfl ?_
    rw [show (nI k + 100 : Int32) = nI (k + 100) from nI_add k 100]
    refine c_logarithm (by omega) (by omega) ?_
    dsimp only [jrI]
    refine raw_wI (q := h.length) (m := 901) (f := tabK 1 k) ((bk_new (i := 0)).trans rfl) (nI_in (c := k) (by omega) (by decide)) ?_
    rw [show ∀ x, (jBk h p 3 [.ref h.length, .null, .null] [.inl (.int, 901, .inl (tabK 1 k))]).set h.length x = jBk h p 3 [.ref h.length, .null, .null] [x] from fun x => bk_setL (i := 0)]
    have e1 : upd (tabK 1 k) (nI k).toNatClampNeg (nI (lg (k + 100))) = tabK 1 (k + 1) := by
      have := tabK_upd 1 k
      rw [Nat.div_one, lgU_low (by omega)] at this
      rw [nI_clamp (n := k) (by omega)]
      exact this
    rw [e1, show (nI k + 1 : Int32) = nI (k + 1) from nI_1 k]
    exact l_Law hl hc hs H n (k + 1) (by omega)
theorem n_Law {X : JX} {d : Nat} {Q : JQ} {h : JH} {p : Nat} (hp : h[p]? = some (.inr (3, jfs0 3))) (H : Q none (jBk h p 3 [.ref h.length, .ref (h.length + 1), .ref (h.length + 2)] [.inl (.int, 901, .inl (tabF 1)), .inl (.int, 1801, .inl (tabF 2)), .inl (.int, 2701, .inl (tabF 3))])) : jex X (d + 3) 1 [.ref p] h Q := by
  have hl : p < h.length := (List.getElem?_eq_some_iff.mp hp).1
  rw [show jfs0 3 = [.null, .null, .null] from rfl] at hp
  rw [jE_X3_init, bk_start hp]
  refine jT_X3_init_0 ?_
  refine bk_na (m := 901) (by decide) rfl (by decide) (by decide) (by decide) (by decide) ?_
  refine bk_putr hl rfl ?_
  have := l_Law (X := X) (d := d) (Q := Q) (c := 0 + 1) (s := 0 + 901) hl (by decide) (by decide) H 900 0 rfl
  rw [tabK_0] at this
  exact this
