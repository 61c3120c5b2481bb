/-! THE CLASS'S SCALES -/
def SC (h : JH) (τ : Nat) (b : Bool) (f : Nat) (t : Bool) (fl : Nat → Int) : Prop := obj h τ 8 ∧ 1 ≤ f ∧ f ≤ 3 ∧ fI h τ 0 = bi b ∧ fI h τ 1 = nI f ∧ fI h τ 2 = bi t ∧ fV h τ 3 = .ref (1 + f) ∧ fV h τ 4 = .ref (τ + 1) ∧ arr h (τ + 1) .int 17 ∧ (∀ j, j ≤ 16 → (aF h (τ + 1) j).toInt = fl j) ∧ FL fl
section SCL
variable {X : JX} {d : Nat} {Q : JQ} {h : JH} {τ f n : Nat} {b t : Bool} {fl : Nat → Int}
theorem SC_fr {A : List Nat} {F : List (Nat × Nat)} {h1 : JH} (sc : SC h τ b f t fl) (hp : 126 ≤ τ) (lA : lowA A) (lF : lowF F) (a : fr A F h h1) : SC h1 τ b f t fl := by
  obtain ⟨ho, f1, f3, e0, e1, e2, e3, e4, ha, hv, hf⟩ := sc
  refine ⟨by rw [frO a]; exact ho, f1, f3, by rw [frIh a lF hp (by decide)]; exact e0, by rw [frIh a lF hp (by decide)]; exact e1, by rw [frIh a lF hp (by decide)]; exact e2, by rw [frVh a lF hp (by decide)]; exact e3, by rw [frVh a lF hp (by decide)]; exact e4, by rw [frA a]; exact ha, by rw [frFh a lA (by omega)]; exact hv, hf⟩
theorem SC_0 {A : List Nat} {F : List (Nat × Nat)} {h1 : JH} (sc : SC h τ b f t fl) (h5 : ∀ k, k < 5 → (τ, k) ∉ F) (h8 : τ + 1 ∉ A) (a : fr A F h h1) : SC h1 τ b f t fl := by
  obtain ⟨ho, f1, f3, e0, e1, e2, e3, e4, ha, hv, hf⟩ := sc
  refine ⟨by rw [frO a]; exact ho, f1, f3, ?_, ?_, ?_, ?_, ?_, by rw [frA a]; exact ha, by rw [frF a h8]; exact hv, hf⟩
  · rw [frI a (h5 0 (by decide)) (fun _ => by decide)]; exact e0
  · rw [frI a (h5 1 (by decide)) (fun _ => by decide)]; exact e1
  · rw [frI a (h5 2 (by decide)) (fun _ => by decide)]; exact e2
  · rw [frV a (h5 3 (by decide)) (fun _ => by decide)]; exact e3
  · rw [frV a (h5 4 (by decide)) (fun _ => by decide)]; exact e4
theorem FL_0 : FL (fun _ => 0) := ⟨fun j _ => by show -20 ≤ (0 : Int) ∧ (0 : Int) ≤ 20; decide, rfl⟩
theorem SC_d (g : G h) : SC h 64 true 1 false (fun _ => 0) := by
  refine ⟨?_, by decide, by decide, ?_, ?_, ?_, ?_, ?_, ?_, fun j _ => ?_, FL_0⟩
  · simp only [gO g]
  · unfold fI; simp only [gF g]; rfl
  · unfold fI; simp only [gF g]; rfl
  · unfold fI; simp only [gF g]; rfl
  · simp only [gF g]
  · simp only [gF g]
  · simp only [gO g]
  · rw [g.2.2.2.2.2.2.2.1 j]; rfl
theorem SC_c (g : G h) : SC h 66 false 1 false (fun _ => 0) := by
  refine ⟨?_, by decide, by decide, ?_, ?_, ?_, ?_, ?_, ?_, fun j _ => ?_, FL_0⟩
  · simp only [gO g]
  · unfold fI; simp only [gF g]; rfl
  · unfold fI; simp only [gF g]; rfl
  · unfold fI; simp only [gF g]; rfl
  · simp only [gF g]
  · simp only [gF g]
  · simp only [gO g]
  · rw [g.2.2.2.2.2.2.2.2.1 j]; rfl
theorem c_truePlace (g : G h) (sc : SC h τ b f t fl) {m : Int32} (hm : m.toInt = n) (hn : n ≤ 900 * f) (H : ∀ r : Int32, r.toInt = tp f t n → Q (some (.int r)) h) : jex X (d + 1) 252 [.ref τ, .int m] h Q := by
  obtain ⟨ho, f1, f3, e0, e1, e2, e3, e4, ha, hv, hf⟩ := sc
  obtain ⟨pl, pa⟩ := gPl g f1 f3
  have hL : (Int32.ofNat (900 * f + 1)).toInt = ((900 * f + 1 : Nat) : Int) := zN (by omega)
  have hx : (tabF f n).toInt = ((P f n : Nat) : Int) := tabF_v f1 hn
  have hy := P_le f1 hn
  rw [jE_X8_truePlace]
  refine jT_X8_truePlace_0 ?_
  cases t
  · simp (decide := true) only [jgI_ob, jgf_ob, jgL_ob, jpI_ob, jpL_ob, jpR_ob, jpN_ob, jrc_ob, obj_sV, obj_wF, obj_wG, obj_wR, arr_sV, arr_wF, arr_wG, arr_wR, arL_sV, arL_wF, arL_wG, arL_wR, arR_sV, arR_wF, arR_wG, arR_wR, fI_sV (c := 0), fI_sV (c := 1), fI_sV (c := 2), fI_sV (c := 4), fI_sV (c := 5), fI_sV (c := 7), fI_sV (c := 8), fI_sV (c := 9), fI_sV (c := 10), fI_sV (c := 11), fI_sV (c := 12), fI_sV (c := 6), fL_sV (c := 9), fL_sV (c := 12), fI_sV_k, fL_sV_k, fV_sV_k, fI_wF, fI_wG, fI_wR, fL_wF, fL_wG, fL_wR, fV_wF, fV_wG, fV_wR, aF_sV, aG_sV, aR_sV, aF_wG, aF_wR, aG_wF, aG_wR, aR_wF, aR_wG, jaI_ar, jaB_ar, jaZ_ar, jaL_ar, jwI_ar, jwB_ar, jwZ_ar, jwL_ar, jaln_arr, jaln_arL, jaln_arR, jif_T, jif_F, true_and, vp_inI, ti_lt, ti_clamp, ti_shr8, tl, tn, Int.toNat_natCast, ho, e3, e2, bi_f, jaln_arr pl, jaI_ar pl, pa, hm, hL]
    refine ⟨fun c => absurd c (by omega), fun _ => ⟨fun _ => ⟨by omega, H _ ?_⟩, fun c => absurd c (by omega)⟩⟩
    rw [hx]; unfold tp; simp
  · simp (decide := true) only [jgI_ob, jgf_ob, jgL_ob, jpI_ob, jpL_ob, jpR_ob, jpN_ob, jrc_ob, obj_sV, obj_wF, obj_wG, obj_wR, arr_sV, arr_wF, arr_wG, arr_wR, arL_sV, arL_wF, arL_wG, arL_wR, arR_sV, arR_wF, arR_wG, arR_wR, fI_sV (c := 0), fI_sV (c := 1), fI_sV (c := 2), fI_sV (c := 4), fI_sV (c := 5), fI_sV (c := 7), fI_sV (c := 8), fI_sV (c := 9), fI_sV (c := 10), fI_sV (c := 11), fI_sV (c := 12), fI_sV (c := 6), fL_sV (c := 9), fL_sV (c := 12), fI_sV_k, fL_sV_k, fV_sV_k, fI_wF, fI_wG, fI_wR, fL_wF, fL_wG, fL_wR, fV_wF, fV_wG, fV_wR, aF_sV, aG_sV, aR_sV, aF_wG, aF_wR, aG_wF, aG_wR, aR_wF, aR_wG, jaI_ar, jaB_ar, jaZ_ar, jaL_ar, jwI_ar, jwB_ar, jwZ_ar, jwL_ar, jaln_arr, jaln_arL, jaln_arR, jif_T, jif_F, true_and, vp_inI, ti_lt, ti_clamp, ti_shr8, tl, tn, Int.toNat_natCast, ho, e3, e2, bi_t, jaln_arr pl, jaI_ar pl, pa, hm, hL]
    refine ⟨fun c => absurd c (by omega), fun _ => ⟨fun _ => ⟨by omega, H _ ?_⟩, fun c => absurd c (by omega)⟩⟩
    have : (4096 - tabF f n).toInt = 4096 - (P f n : Int) := (by simp only [Int32.toInt_add, Int32.toInt_sub, Int32.toInt_mul, Int32.toInt_neg, Int.bmod_def, tl]; omega)
    rw [this]; unfold tp; simp
theorem cut_tail (sc : SC h τ b f t fl) {y : Int32} (hy : y.toInt = tp f t n) (hn : n ≤ 900 * f) (H : ∀ r : Int32, r.toInt = ct f t fl n → Q (some (.int r)) h) : jifp ((y >>> ((8 : Int32) &&& 31)) < 0) (Q (some (.int y)) h) (jgf h (.ref τ) 8 4 fun v6 => (jaln X h v6 fun x7 => (jifp ((y >>> ((8 : Int32) &&& 31)) < x7) (jgf h (.ref τ) 8 4 fun v8 => (jaI X h v8 (y >>> ((8 : Int32) &&& 31)) fun x9 => (Q (some (.int (y + x9))) h))) (Q (some (.int y)) h)))) := by
  obtain ⟨ho, f1, f3, e0, e1, e2, e3, e4, ha, hv, hf⟩ := sc
  have rg := tp_rg (t := t) f1 hn
  have hj : (tp f t n / 256).toNat = (tp f t n).toNat / 256 := by omega
  have hj2 : (tp f t n).toNat / 256 ≤ 16 := by omega
  have hw := hv _ hj2
  have hz := hf.1 _ hj2
  simp (decide := true) only [jgI_ob, jgf_ob, jgL_ob, jpI_ob, jpL_ob, jpR_ob, jpN_ob, jrc_ob, obj_sV, obj_wF, obj_wG, obj_wR, arr_sV, arr_wF, arr_wG, arr_wR, arL_sV, arL_wF, arL_wG, arL_wR, arR_sV, arR_wF, arR_wG, arR_wR, fI_sV (c := 0), fI_sV (c := 1), fI_sV (c := 2), fI_sV (c := 4), fI_sV (c := 5), fI_sV (c := 7), fI_sV (c := 8), fI_sV (c := 9), fI_sV (c := 10), fI_sV (c := 11), fI_sV (c := 12), fI_sV (c := 6), fL_sV (c := 9), fL_sV (c := 12), fI_sV_k, fL_sV_k, fV_sV_k, fI_wF, fI_wG, fI_wR, fL_wF, fL_wG, fL_wR, fV_wF, fV_wG, fV_wR, aF_sV, aG_sV, aR_sV, aF_wG, aF_wR, aG_wF, aG_wR, aR_wF, aR_wG, jaI_ar, jaB_ar, jaZ_ar, jaL_ar, jwI_ar, jwB_ar, jwZ_ar, jwL_ar, jaln_arr, jaln_arL, jaln_arR, jif_T, jif_F, true_and, vp_inI, ti_lt, ti_clamp, ti_shr8, tl, tn, Int.toNat_natCast, ho, e4, jaln_arr ha, jaI_ar ha, hy, hj]
  refine ⟨fun c => absurd c (by omega), fun _ => ⟨fun _ => ⟨by omega, H _ ?_⟩, fun c => absurd c (by omega)⟩⟩
  unfold ct
  rw [← hw, ← hy]
  rw [← hy] at hw hz rg
  exact (by simp only [Int32.toInt_add, Int32.toInt_sub, Int32.toInt_mul, Int32.toInt_neg, Int.bmod_def, tl]; omega)
theorem c_cutPlace (g : G h) (sc : SC h τ b f t fl) {m : Int32} (hm : m.toInt = n) (hn : n ≤ 900 * f) (H : ∀ r : Int32, r.toInt = ct f t fl n → Q (some (.int r)) h) : jex X (d + 1) 117 [.ref τ, .int m] h Q := by
  have sc' := sc
  obtain ⟨ho, f1, f3, e0, e1, e2, e3, e4, ha, hv, hf⟩ := sc'
  obtain ⟨pl, pa⟩ := gPl g f1 f3
  have hL : (Int32.ofNat (900 * f + 1)).toInt = ((900 * f + 1 : Nat) : Int) := zN (by omega)
  have hx : (tabF f n).toInt = ((P f n : Nat) : Int) := tabF_v f1 hn
  have hy := P_le f1 hn
  rw [jE_X8_cutPlace]
  refine jT_X8_cutPlace_0 ?_
  refine jif_n (by rw [ti_lt, hm, tl.1]; omega) ?_
  rw [jgf_ob ho rfl, e3, jaln_arr pl]
  refine jif_t (by rw [ti_lt, hm, hL]; omega) ?_
  rw [jgI_ob ho rfl, e2]
  cases t
  · refine jif_t rfl ?_
    rw [jgf_ob ho rfl, e3, jaI_ar pl, pa, ti_clamp, hm, Int.toNat_natCast]
    refine ⟨by rw [vp_inI, hm]; omega, ?_⟩
    refine cut_tail sc (n := n) ?_ hn H
    rw [hx]; unfold tp; simp
  · refine jif_n (by decide) ?_
    rw [jgf_ob ho rfl, e3, jaI_ar pl, pa, ti_clamp, hm, Int.toNat_natCast]
    refine ⟨by rw [vp_inI, hm]; omega, ?_⟩
    refine cut_tail sc (n := n) ?_ hn H
    have : (4096 - tabF f n).toInt = 4096 - (P f n : Int) := (by simp only [Int32.toInt_add, Int32.toInt_sub, Int32.toInt_mul, Int32.toInt_neg, Int.bmod_def, tl]; omega)
    rw [this]; unfold tp; simp
theorem c_markFor {a m : Int32} (h0 : -2000000 ≤ a.toInt ∧ a.toInt ≤ 2000000) (h1 : -2000000 ≤ m.toInt ∧ m.toInt ≤ 2000000) (H : ∀ r : Int32, r.toInt = a.toInt * 900 + m.toInt - 100 → Q (some (.int r)) h) : jex X (d + 1) 116 [.int a, .int m] h Q := by
  rw [jE_X8_markFor]
  exact jT_X8_markFor_0 (H _ (by simp only [Int32.toInt_add, Int32.toInt_sub, Int32.toInt_mul, Int32.toInt_neg, Int.bmod_def, tl]; omega))
theorem c_decadeOf {m : Int32} (hm : m.toInt = n) (H : ∀ r : Int32, r.toInt = (n / 900 : Nat) → Q (some (.int r)) h) : jex X (d + 1) 129 [.int m] h Q := by
  rw [jE_X8_decadeOf]
  refine jT_X8_decadeOf_0 ⟨by decide, H _ ?_⟩
  rw [ti_divp (by omega) (by decide), hm]
  rfl
theorem c_digitsOf {m : Int32} (hm : m.toInt = n) (H : ∀ r : Int32, r.toInt = (n % 900 + 100 : Nat) → Q (some (.int r)) h) : jex X (d + 1) 130 [.int m] h Q := by
  rw [jE_X8_digitsOf]
  refine jT_X8_digitsOf_0 ⟨by decide, H _ ?_⟩
  have e : (m - m / 900 * 900).toInt = (n % 900 : Nat) := by
    rw [ti_remp (by omega) (by decide), hm]
    rfl
  rw [ti_add (by rw [e, show (100 : Int32).toInt = 100 from rfl]; omega) (by rw [e, show (100 : Int32).toInt = 100 from rfl]; omega), e]
  rfl
theorem l_firstFrom {m bd : Int32} (g : G h) (sc : SC h τ b f t fl) (H : ∀ (r : Int32) (rn : Nat), r.toInt = rn → rn ≤ 900 * f + 1 → (∀ n, n < rn → (P f n : Int) < bd.toInt) → (∀ n, rn ≤ n → n ≤ 900 * f → bd.toInt ≤ P f n) → Q (some (.int r)) h) : ∀ (k lo hi : Nat) (a2 a3 a4 : Int32) (o5 : Option Value) (c s : Nat), a2.toInt = lo → a3.toInt = hi → a4.toInt + k = 32 → lo ≤ hi → hi ≤ 900 * f + 1 → hi - lo < 2 ^ k → (∀ n, n < lo → (P f n : Int) < bd.toInt) → (∀ n, hi ≤ n → n ≤ 900 * f → bd.toInt ≤ P f n) → jB_X8_firstFrom_11 X d Q τ bd a2 a3 a4 o5 h c s := by
  obtain ⟨ho, f1, f3, e0, e1, e2, e3, e4, ha, hv, hf⟩ := sc
  obtain ⟨pl, pa⟩ := gPl g f1 f3
  intro k
  induction k with
  | zero =>
    intro lo hi a2 a3 a4 o5 c s h2 h3 h4 l1 l2 l3 l4 l5
    refine jT_X8_firstFrom_11 (jif_n (by rw [ti_lt, show (32 : Int32).toInt = 32 from rfl]; omega) ?_)
    have : lo = hi := by omega
    subst this
    exact H a2 lo h2 l2 l4 l5
  | succ k ih =>
    intro lo hi a2 a3 a4 o5 c s h2 h3 h4 l1 l2 l3 l4 l5
    refine jT_X8_firstFrom_11 (jif_t (by rw [ti_lt, show (32 : Int32).toInt = 32 from rfl]; omega) ⟨fun c1 => ⟨by decide, ?_⟩, fun c1 => ?_⟩)
    · rw [ti_lt] at c1
      have em : ((a2 + a3) / 2).toInt = ((lo + hi) / 2 : Nat) := by
        have e5 : (a2 + a3).toInt = (lo + hi : Nat) := (by simp only [Int32.toInt_add, Int32.toInt_sub, Int32.toInt_mul, Int32.toInt_neg, Int.bmod_def, tl]; omega)
        rw [ti_divp (by rw [e5]; omega) (by decide), e5]
        rfl
      have hmid : (lo + hi) / 2 ≤ 900 * f := by omega
      have hx : (tabF f ((lo + hi) / 2)).toInt = ((P f ((lo + hi) / 2) : Nat) : Int) := tabF_v f1 hmid
      rw [jgf_ob ho rfl, e3, jaI_ar pl, pa, ti_clamp, em, Int.toNat_natCast]
      rw [Nat.pow_succ] at l3
      have := ti_lo a4
      have a4e : (a4 + 1).toInt = a4.toInt + 1 := (by simp only [Int32.toInt_add, Int32.toInt_sub, Int32.toInt_mul, Int32.toInt_neg, Int.bmod_def, tl]; omega)
      refine ⟨by rw [vp_inI, em]; omega, fun c2 => ?_, fun c2 => ?_⟩
      · rw [ti_lt, hx] at c2
        refine ih ((lo + hi) / 2 + 1) hi _ _ _ _ _ _ ?_ h3 (by rw [a4e]; omega) (by omega) l2 (by omega) (fun n hn => ?_) l5
        · rw [ti_add (by rw [em, show (1 : Int32).toInt = 1 from rfl]; omega) (by rw [em, show (1 : Int32).toInt = 1 from rfl]; omega), em]; rfl
        · have := P_mono (f := f) (i := n) (j := (lo + hi) / 2) (by omega); omega
      · rw [ti_lt, hx] at c2
        refine ih lo ((lo + hi) / 2) _ _ _ _ _ _ h2 em (by rw [a4e]; omega) (by omega) (by omega) (by omega) l4 (fun n hn hn2 => ?_)
        have := P_mono (f := f) (i := (lo + hi) / 2) (j := n) hn; omega
    · rw [ti_lt] at c1
      have : lo = hi := by omega
      subst this
      exact H a2 lo h2 l2 l4 l5
theorem c_firstFrom {bd : Int32} (g : G h) (sc : SC h τ b f t fl) (H : ∀ (r : Int32) (rn : Nat), r.toInt = rn → rn ≤ 900 * f + 1 → (∀ n, n < rn → (P f n : Int) < bd.toInt) → (∀ n, rn ≤ n → n ≤ 900 * f → bd.toInt ≤ P f n) → Q (some (.int r)) h) : jex X (d + 1) 126 [.ref τ, .int bd] h Q := by
  obtain ⟨ho, f1, f3, e0, e1, e2, e3, e4, ha, hv, hf⟩ := id sc
  obtain ⟨pl, pa⟩ := gPl g f1 f3
  have hL : (Int32.ofNat (900 * f + 1)).toInt = ((900 * f + 1 : Nat) : Int) := zN (by omega)
  rw [jE_X8_firstFrom]
  refine jT_X8_firstFrom_0 ?_
  rw [jgf_ob ho rfl, e3, jaln_arr pl]
  refine l_firstFrom (m := bd) g sc H 32 0 (900 * f + 1) 0 _ 0 _ _ _ rfl hL rfl (by omega) (by omega) (by omega) (fun n hn => by omega) (fun n hn hn2 => by omega)
/-- how far a mark stands from x -/
def gp (f : Nat) (t : Bool) (fl : Nat → Int) (x : Int) (n : Nat) : Int := max (ct f t fl n - x) (x - ct f t fl n)
theorem gp_rg (hf : FL fl) (f1 : 1 ≤ f) (hn : n ≤ 900 * f) {x : Int} : gp f t fl x n ≤ max (tp f t n - x) (x - tp f t n) + 20 ∧ max (tp f t n - x) (x - tp f t n) ≤ gp f t fl x n + 20 := by
  have := ct_rg (t := t) hf f1 hn
  unfold gp
  omega
def cen (t : Bool) (x : Int) : Int := if t then 4096 - x else x
theorem gp_cen (hf : FL fl) (f1 : 1 ≤ f) (hn : n ≤ 900 * f) {x : Int} : gp f t fl x n ≤ max ((P f n : Int) - cen t x) (cen t x - P f n) + 20 ∧ max ((P f n : Int) - cen t x) (cen t x - P f n) ≤ gp f t fl x n + 20 := by
  have h1 := gp_rg (t := t) hf f1 hn (x := x)
  have h2 : tp f t n - x = (P f n : Int) - cen t x ∨ tp f t n - x = cen t x - (P f n : Int) := tp_d
  omega
theorem l_lookAt {x q rc : Int32} (g : G h) (sc : SC h τ b f t fl) (hp : 126 ≤ τ) (hx0 : 0 ≤ x.toInt) (hx1 : x.toInt ≤ 4096) (hq0 : 0 ≤ q.toInt) (hq1 : q.toInt ≤ 100000000) (hrc : rc.toInt = max q.toInt 29 + 20) {ce : Int32} (hce : ce.toInt = cen t x.toInt) {r : Nat} (hr : r ≤ 900 * f + 1) (hlo : ∀ n, n < r → (P f n : Int) < cen t x.toInt - rc.toInt) (H : ∀ (h1 : JH) (a l u : Nat), fr [] [] h h1 → SEEN (gp f t fl x.toInt) (900 * f) q.toInt a l u → (fI h1 τ 5).toInt = a → (fI h1 τ 6).toInt = l → (fI h1 τ 7).toInt = u → Q none h1) : ∀ (n k s : Nat) (a5 a6 : Int32) (o7 : Option Value) (h1 : JH) (c z : Nat), n + k = 900 * f + 1 → r ≤ k → a6.toInt = k → fr [] [] h h1 → (fI h1 τ 5).toInt = s → PS (gp f t fl x.toInt) q.toInt r k a5.toInt s (fI h1 τ 6).toInt (fI h1 τ 7).toInt → jB_X8_lookAt_57 X (d + 1) Q τ x q rc ce a5 a6 o7 h1 c z := by
  obtain ⟨-, f1, f3, -, -, -, -, -, -, -, hf⟩ := id sc
  have hcr : 0 ≤ cen t x.toInt ∧ cen t x.toInt ≤ 4096 := by unfold cen; cases t <;> simp <;> omega
  -- the end
  have fin : ∀ (k s : Nat) (a5 : Int32) (h1 : JH), k ≤ 900 * f + 1 → fr [] [] h h1 → (fI h1 τ 5).toInt = s → PS (gp f t fl x.toInt) q.toInt r k a5.toInt s (fI h1 τ 6).toInt (fI h1 τ 7).toInt → (∀ n, k ≤ n → n ≤ 900 * f → cen t x.toInt + rc.toInt < P f n) → jgI h1 (.ref τ) 8 6 fun x3 => (jifp (x3 = (-1)) (jgI h1 (.ref τ) 8 5 fun x4 => (jpf h1 (.ref τ) 8 6 (.int x4) fun h5 => (jgI h5 (.ref τ) 8 5 fun x6 => (jpf h5 (.ref τ) 8 7 (.int x6) fun h7 => (Q none h7))))) (Q none h1)) := by
    intro k s a5 h1 hk a hs ps hout
    have sc1 := SC_fr sc hp (fun _ c => by cases c) (fun _ c => by cases c) a
    obtain ⟨n0, hn0, d1, d2⟩ := P_near f1 f3 hcr.1 hcr.2
    have hrn : r ≤ n0 := by
      rcases Nat.lt_or_ge n0 r with c | c
      · have := hlo n0 c; omega
      · exact c
    have hkn : n0 < k := by
      rcases Nat.lt_or_ge n0 k with c | c
      · exact c
      · have := hout n0 c hn0; omega
    have ho := sc1.1
    have g0 := (gp_cen (t := t) (x := x.toInt) hf f1 hn0).1
    have hfin := PS_fin ps hk hrn hkn (fun n hn hc => by
      have g1 := (gp_cen (t := t) (x := x.toInt) hf f1 hn).2
      rcases hc with hc | hc
      · have := hlo n hc; omega
      · have := hout n hc hn; omega)
    simp (decide := true) only [jgI_ob, jgf_ob, jgL_ob, jpI_ob, jpL_ob, jpR_ob, jpN_ob, jrc_ob, obj_sV, obj_wF, obj_wG, obj_wR, arr_sV, arr_wF, arr_wG, arr_wR, arL_sV, arL_wF, arL_wG, arL_wR, arR_sV, arR_wF, arR_wG, arR_wR, fI_sV (c := 0), fI_sV (c := 1), fI_sV (c := 2), fI_sV (c := 4), fI_sV (c := 5), fI_sV (c := 7), fI_sV (c := 8), fI_sV (c := 9), fI_sV (c := 10), fI_sV (c := 11), fI_sV (c := 12), fI_sV (c := 6), fL_sV (c := 9), fL_sV (c := 12), fI_sV_k, fL_sV_k, fV_sV_k, fI_wF, fI_wG, fI_wR, fL_wF, fL_wG, fL_wR, fV_wF, fV_wG, fV_wR, aF_sV, aG_sV, aR_sV, aF_wG, aF_wR, aG_wF, aG_wR, aR_wF, aR_wG, ho, ti_eq, tl]
    rcases hfin with ⟨c1, c2⟩ | ⟨l, u, c1, c2, c3⟩
    · refine ⟨fun _ => ?_, fun c => absurd c1 c⟩
      refine H _ s s s (fr_sV8 hp (by decide) (fr_sV8 hp (by decide) a)) c2 ?_ ?_ ?_
      · simp (decide := true) only [jgI_ob, jgf_ob, jgL_ob, jpI_ob, jpL_ob, jpR_ob, jpN_ob, jrc_ob, obj_sV, obj_wF, obj_wG, obj_wR, arr_sV, arr_wF, arr_wG, arr_wR, arL_sV, arL_wF, arL_wG, arL_wR, arR_sV, arR_wF, arR_wG, arR_wR, fI_sV (c := 0), fI_sV (c := 1), fI_sV (c := 2), fI_sV (c := 4), fI_sV (c := 5), fI_sV (c := 7), fI_sV (c := 8), fI_sV (c := 9), fI_sV (c := 10), fI_sV (c := 11), fI_sV (c := 12), fI_sV (c := 6), fL_sV (c := 9), fL_sV (c := 12), fI_sV_k, fL_sV_k, fV_sV_k, fI_wF, fI_wG, fI_wR, fL_wF, fL_wG, fL_wR, fV_wF, fV_wG, fV_wR, aF_sV, aG_sV, aR_sV, aF_wG, aF_wR, aG_wF, aG_wR, aR_wF, aR_wG, ho]; exact hs
      · simp (decide := true) only [jgI_ob, jgf_ob, jgL_ob, jpI_ob, jpL_ob, jpR_ob, jpN_ob, jrc_ob, obj_sV, obj_wF, obj_wG, obj_wR, arr_sV, arr_wF, arr_wG, arr_wR, arL_sV, arL_wF, arL_wG, arL_wR, arR_sV, arR_wF, arR_wG, arR_wR, fI_sV (c := 0), fI_sV (c := 1), fI_sV (c := 2), fI_sV (c := 4), fI_sV (c := 5), fI_sV (c := 7), fI_sV (c := 8), fI_sV (c := 9), fI_sV (c := 10), fI_sV (c := 11), fI_sV (c := 12), fI_sV (c := 6), fL_sV (c := 9), fL_sV (c := 12), fI_sV_k, fL_sV_k, fV_sV_k, fI_wF, fI_wG, fI_wR, fL_wF, fL_wG, fL_wR, fV_wF, fV_wG, fV_wR, aF_sV, aG_sV, aR_sV, aF_wG, aF_wR, aG_wF, aG_wR, aR_wF, aR_wG, ho]; exact hs
      · simp (decide := true) only [jgI_ob, jgf_ob, jgL_ob, jpI_ob, jpL_ob, jpR_ob, jpN_ob, jrc_ob, obj_sV, obj_wF, obj_wG, obj_wR, arr_sV, arr_wF, arr_wG, arr_wR, arL_sV, arL_wF, arL_wG, arL_wR, arR_sV, arR_wF, arR_wG, arR_wR, fI_sV (c := 0), fI_sV (c := 1), fI_sV (c := 2), fI_sV (c := 4), fI_sV (c := 5), fI_sV (c := 7), fI_sV (c := 8), fI_sV (c := 9), fI_sV (c := 10), fI_sV (c := 11), fI_sV (c := 12), fI_sV (c := 6), fL_sV (c := 9), fL_sV (c := 12), fI_sV_k, fL_sV_k, fV_sV_k, fI_wF, fI_wG, fI_wR, fL_wF, fL_wG, fL_wR, fV_wF, fV_wG, fV_wR, aF_sV, aG_sV, aR_sV, aF_wG, aF_wR, aG_wF, aG_wR, aR_wF, aR_wG, ho]; exact hs
    · refine ⟨fun c => absurd (c1.symm.trans c) (by omega), fun _ => ?_⟩
      exact H _ s l u a c3 hs c1 c2
  intro n
  induction n with
  | zero =>
    intro k s a5 a6 o7 h1 c z hk hrk h6 a hs ps
    have g1 := G_fr g rfl a
    have sc1 := SC_fr sc hp (fun _ c => by cases c) (fun _ c => by cases c) a
    obtain ⟨pl, pa⟩ := gPl g1 f1 f3
    have hL : (Int32.ofNat (900 * f + 1)).toInt = ((900 * f + 1 : Nat) : Int) := zN (by omega)
    refine jT_X8_lookAt_57 ?_
    rw [jgf_ob sc1.1 rfl, sc1.2.2.2.2.2.2.1, jaln_arr pl]
    refine jif_n (by rw [ti_lt, hL]; omega) ?_
    exact fin k s a5 h1 (by omega) a hs ps (fun n hn hn2 => by omega)
  | succ n ih =>
    intro k s a5 a6 o7 h1 c z hk hrk h6 a hs ps
    have g1 := G_fr g rfl a
    have sc1 := SC_fr sc hp (fun _ c => by cases c) (fun _ c => by cases c) a
    have ho := sc1.1
    obtain ⟨pl, pa⟩ := gPl g1 f1 f3
    have hL : (Int32.ofNat (900 * f + 1)).toInt = ((900 * f + 1 : Nat) : Int) := zN (by omega)
    have hkN : k ≤ 900 * f := by omega
    have hP : (tabF f k).toInt = ((P f k : Nat) : Int) := tabF_v f1 hkN
    have hPl := P_le f1 hkN
    have hcr2 : (ce + rc).toInt = cen t x.toInt + rc.toInt := (by simp only [Int32.toInt_add, Int32.toInt_sub, Int32.toInt_mul, Int32.toInt_neg, Int.bmod_def, tl]; omega)
    refine jT_X8_lookAt_57 ?_
    rw [jgf_ob ho rfl, sc1.2.2.2.2.2.2.1, jaln_arr pl]
    refine jif_t (by rw [ti_lt, hL]; omega) ?_
    rw [jgf_ob ho rfl, sc1.2.2.2.2.2.2.1, jaI_ar pl, pa, ti_clamp, h6, Int.toNat_natCast]
    refine ⟨by rw [vp_inI, h6]; omega, fun c1 => ?_, fun c1 => ?_⟩
    · rw [ti_lt, hcr2, hP] at c1
      refine fin k s a5 h1 (by omega) a hs ps (fun n hn hn2 => ?_)
      have := P_mono (f := f) hn; omega
    · rw [ti_lt, hcr2, hP] at c1
      rw [jrc_ob ho]
      refine c_cutPlace g1 sc1 h6 hkN (fun y hy => ?_)
      dsimp only [jrI]
      have hyr := ct_rg (t := t) hf f1 hkN
      have htr := tp_rg (t := t) f1 hkN
      have hyx : (y - x).toInt = ct f t fl k - x.toInt := (by simp only [Int32.toInt_add, Int32.toInt_sub, Int32.toInt_mul, Int32.toInt_neg, Int.bmod_def, tl]; omega)
      refine c_abs (by rw [hyx]; omega) ?_
      dsimp only [jrI]
      have hg : (zI (max (y - x).toInt (-(y - x).toInt))).toInt = gp f t fl x.toInt k := by
        rw [zt (by omega) (by omega), hyx]; unfold gp; omega
      have hgr : gp f t fl x.toInt k < 1000000 := by unfold gp; omega
      generalize zI (max (y - x).toInt (-(y - x).toInt)) = w at hg
      have h6' : (a6 + 1).toInt = ((k + 1 : Nat) : Int) := (by simp only [Int32.toInt_add, Int32.toInt_sub, Int32.toInt_mul, Int32.toInt_neg, Int.bmod_def, tl]; omega)
      simp (decide := true) only [jgI_ob, jgf_ob, jgL_ob, jpI_ob, jpL_ob, jpR_ob, jpN_ob, jrc_ob, obj_sV, obj_wF, obj_wG, obj_wR, arr_sV, arr_wF, arr_wG, arr_wR, arL_sV, arL_wF, arL_wG, arL_wR, arR_sV, arR_wF, arR_wG, arR_wR, fI_sV (c := 0), fI_sV (c := 1), fI_sV (c := 2), fI_sV (c := 4), fI_sV (c := 5), fI_sV (c := 7), fI_sV (c := 8), fI_sV (c := 9), fI_sV (c := 10), fI_sV (c := 11), fI_sV (c := 12), fI_sV (c := 6), fL_sV (c := 9), fL_sV (c := 12), fI_sV_k, fL_sV_k, fV_sV_k, fI_wF, fI_wG, fI_wR, fL_wF, fL_wG, fL_wR, fV_wF, fV_wG, fV_wR, aF_sV, aG_sV, aR_sV, aF_wG, aF_wR, aG_wF, aG_wR, aR_wF, aR_wG, ho, ti_lt, ti_eq, tl]
      refine ⟨fun c2 => ⟨fun c3 => ?_, fun c3 => ⟨fun c4 => ?_, fun c4 => ?_⟩⟩, fun c2 => ⟨fun c3 => ?_, fun c3 => ⟨fun c4 => ?_, fun c4 => ?_⟩⟩⟩
      · refine ih (k + 1) k _ _ _ _ _ _ (by omega) (by omega) h6' (fr_sV8 hp (by decide) a) ?_ ⟨PS_near ps hrk hgr (Or.inl ⟨by omega, hg, rfl⟩), PS_far ps hrk ?_⟩
        · simp (decide := true) only [jgI_ob, jgf_ob, jgL_ob, jpI_ob, jpL_ob, jpR_ob, jpN_ob, jrc_ob, obj_sV, obj_wF, obj_wG, obj_wR, arr_sV, arr_wF, arr_wG, arr_wR, arL_sV, arL_wF, arL_wG, arL_wR, arR_sV, arR_wF, arR_wG, arR_wR, fI_sV (c := 0), fI_sV (c := 1), fI_sV (c := 2), fI_sV (c := 4), fI_sV (c := 5), fI_sV (c := 7), fI_sV (c := 8), fI_sV (c := 9), fI_sV (c := 10), fI_sV (c := 11), fI_sV (c := 12), fI_sV (c := 6), fL_sV (c := 9), fL_sV (c := 12), fI_sV_k, fL_sV_k, fV_sV_k, fI_wF, fI_wG, fI_wR, fL_wF, fL_wG, fL_wR, fV_wF, fV_wG, fV_wR, aF_sV, aG_sV, aR_sV, aF_wG, aF_wR, aG_wF, aG_wR, aR_wF, aR_wG, ho]; exact h6
        · try simp (decide := true) only [jgI_ob, jgf_ob, jgL_ob, jpI_ob, jpL_ob, jpR_ob, jpN_ob, jrc_ob, obj_sV, obj_wF, obj_wG, obj_wR, arr_sV, arr_wF, arr_wG, arr_wR, arL_sV, arL_wF, arL_wG, arL_wR, arR_sV, arR_wF, arR_wG, arR_wR, fI_sV (c := 0), fI_sV (c := 1), fI_sV (c := 2), fI_sV (c := 4), fI_sV (c := 5), fI_sV (c := 7), fI_sV (c := 8), fI_sV (c := 9), fI_sV (c := 10), fI_sV (c := 11), fI_sV (c := 12), fI_sV (c := 6), fL_sV (c := 9), fL_sV (c := 12), fI_sV_k, fL_sV_k, fV_sV_k, fI_wF, fI_wG, fI_wR, fL_wF, fL_wG, fL_wR, fV_wF, fV_wG, fV_wR, aF_sV, aG_sV, aR_sV, aF_wG, aF_wR, aG_wF, aG_wR, aR_wF, aR_wG, ho]
          first | exact Or.inl ⟨by omega, rfl, rfl⟩ | exact Or.inl ⟨by omega, trivial⟩
      · refine ih (k + 1) k _ _ _ _ _ _ (by omega) (by omega) h6' (fr_sV8 hp (by decide) (fr_sV8 hp (by decide) (fr_sV8 hp (by decide) a))) ?_ ⟨PS_near ps hrk hgr (Or.inl ⟨by omega, hg, rfl⟩), PS_far ps hrk ?_⟩
        · simp (decide := true) only [jgI_ob, jgf_ob, jgL_ob, jpI_ob, jpL_ob, jpR_ob, jpN_ob, jrc_ob, obj_sV, obj_wF, obj_wG, obj_wR, arr_sV, arr_wF, arr_wG, arr_wR, arL_sV, arL_wF, arL_wG, arL_wR, arR_sV, arR_wF, arR_wG, arR_wR, fI_sV (c := 0), fI_sV (c := 1), fI_sV (c := 2), fI_sV (c := 4), fI_sV (c := 5), fI_sV (c := 7), fI_sV (c := 8), fI_sV (c := 9), fI_sV (c := 10), fI_sV (c := 11), fI_sV (c := 12), fI_sV (c := 6), fL_sV (c := 9), fL_sV (c := 12), fI_sV_k, fL_sV_k, fV_sV_k, fI_wF, fI_wG, fI_wR, fL_wF, fL_wG, fL_wR, fV_wF, fV_wG, fV_wR, aF_sV, aG_sV, aR_sV, aF_wG, aF_wR, aG_wF, aG_wR, aR_wF, aR_wG, ho]; exact h6
        · try simp (decide := true) only [jgI_ob, jgf_ob, jgL_ob, jpI_ob, jpL_ob, jpR_ob, jpN_ob, jrc_ob, obj_sV, obj_wF, obj_wG, obj_wR, arr_sV, arr_wF, arr_wG, arr_wR, arL_sV, arL_wF, arL_wG, arL_wR, arR_sV, arR_wF, arR_wG, arR_wR, fI_sV (c := 0), fI_sV (c := 1), fI_sV (c := 2), fI_sV (c := 4), fI_sV (c := 5), fI_sV (c := 7), fI_sV (c := 8), fI_sV (c := 9), fI_sV (c := 10), fI_sV (c := 11), fI_sV (c := 12), fI_sV (c := 6), fL_sV (c := 9), fL_sV (c := 12), fI_sV_k, fL_sV_k, fV_sV_k, fI_wF, fI_wG, fI_wR, fL_wF, fL_wG, fL_wR, fV_wF, fV_wG, fV_wR, aF_sV, aG_sV, aR_sV, aF_wG, aF_wR, aG_wF, aG_wR, aR_wF, aR_wG, ho]
          exact Or.inr (Or.inl ⟨by omega, c4, h6, h6⟩)
      · refine ih (k + 1) k _ _ _ _ _ _ (by omega) (by omega) h6' (fr_sV8 hp (by decide) (fr_sV8 hp (by decide) (fr_sV8 hp (by decide) a))) ?_ ⟨PS_near ps hrk hgr (Or.inl ⟨by omega, hg, rfl⟩), PS_far ps hrk ?_⟩
        · simp (decide := true) only [jgI_ob, jgf_ob, jgL_ob, jpI_ob, jpL_ob, jpR_ob, jpN_ob, jrc_ob, obj_sV, obj_wF, obj_wG, obj_wR, arr_sV, arr_wF, arr_wG, arr_wR, arL_sV, arL_wF, arL_wG, arL_wR, arR_sV, arR_wF, arR_wG, arR_wR, fI_sV (c := 0), fI_sV (c := 1), fI_sV (c := 2), fI_sV (c := 4), fI_sV (c := 5), fI_sV (c := 7), fI_sV (c := 8), fI_sV (c := 9), fI_sV (c := 10), fI_sV (c := 11), fI_sV (c := 12), fI_sV (c := 6), fL_sV (c := 9), fL_sV (c := 12), fI_sV_k, fL_sV_k, fV_sV_k, fI_wF, fI_wG, fI_wR, fL_wF, fL_wG, fL_wR, fV_wF, fV_wG, fV_wR, aF_sV, aG_sV, aR_sV, aF_wG, aF_wR, aG_wF, aG_wR, aR_wF, aR_wG, ho]; exact h6
        · try simp (decide := true) only [jgI_ob, jgf_ob, jgL_ob, jpI_ob, jpL_ob, jpR_ob, jpN_ob, jrc_ob, obj_sV, obj_wF, obj_wG, obj_wR, arr_sV, arr_wF, arr_wG, arr_wR, arL_sV, arL_wF, arL_wG, arL_wR, arR_sV, arR_wF, arR_wG, arR_wR, fI_sV (c := 0), fI_sV (c := 1), fI_sV (c := 2), fI_sV (c := 4), fI_sV (c := 5), fI_sV (c := 7), fI_sV (c := 8), fI_sV (c := 9), fI_sV (c := 10), fI_sV (c := 11), fI_sV (c := 12), fI_sV (c := 6), fL_sV (c := 9), fL_sV (c := 12), fI_sV_k, fL_sV_k, fV_sV_k, fI_wF, fI_wG, fI_wR, fL_wF, fL_wG, fL_wR, fV_wF, fV_wG, fV_wR, aF_sV, aG_sV, aR_sV, aF_wG, aF_wR, aG_wF, aG_wR, aR_wF, aR_wG, ho]
          first | exact Or.inr (Or.inr ⟨by omega, c4, rfl, h6⟩) | exact Or.inr (Or.inr ⟨by omega, c4, trivial, h6⟩)
      · refine ih (k + 1) s _ _ _ _ _ _ (by omega) (by omega) h6' a ?_ ⟨PS_near ps hrk hgr (Or.inr ⟨by omega, rfl, rfl⟩), PS_far ps hrk ?_⟩
        · first | exact hs | (simp (decide := true) only [jgI_ob, jgf_ob, jgL_ob, jpI_ob, jpL_ob, jpR_ob, jpN_ob, jrc_ob, obj_sV, obj_wF, obj_wG, obj_wR, arr_sV, arr_wF, arr_wG, arr_wR, arL_sV, arL_wF, arL_wG, arL_wR, arR_sV, arR_wF, arR_wG, arR_wR, fI_sV (c := 0), fI_sV (c := 1), fI_sV (c := 2), fI_sV (c := 4), fI_sV (c := 5), fI_sV (c := 7), fI_sV (c := 8), fI_sV (c := 9), fI_sV (c := 10), fI_sV (c := 11), fI_sV (c := 12), fI_sV (c := 6), fL_sV (c := 9), fL_sV (c := 12), fI_sV_k, fL_sV_k, fV_sV_k, fI_wF, fI_wG, fI_wR, fL_wF, fL_wG, fL_wR, fV_wF, fV_wG, fV_wR, aF_sV, aG_sV, aR_sV, aF_wG, aF_wR, aG_wF, aG_wR, aR_wF, aR_wG, ho]; exact hs)
        · try simp (decide := true) only [jgI_ob, jgf_ob, jgL_ob, jpI_ob, jpL_ob, jpR_ob, jpN_ob, jrc_ob, obj_sV, obj_wF, obj_wG, obj_wR, arr_sV, arr_wF, arr_wG, arr_wR, arL_sV, arL_wF, arL_wG, arL_wR, arR_sV, arR_wF, arR_wG, arR_wR, fI_sV (c := 0), fI_sV (c := 1), fI_sV (c := 2), fI_sV (c := 4), fI_sV (c := 5), fI_sV (c := 7), fI_sV (c := 8), fI_sV (c := 9), fI_sV (c := 10), fI_sV (c := 11), fI_sV (c := 12), fI_sV (c := 6), fL_sV (c := 9), fL_sV (c := 12), fI_sV_k, fL_sV_k, fV_sV_k, fI_wF, fI_wG, fI_wR, fL_wF, fL_wG, fL_wR, fV_wF, fV_wG, fV_wR, aF_sV, aG_sV, aR_sV, aF_wG, aF_wR, aG_wF, aG_wR, aR_wF, aR_wG, ho]
          first | exact Or.inl ⟨by omega, rfl, rfl⟩ | exact Or.inl ⟨by omega, trivial⟩
      · refine ih (k + 1) s _ _ _ _ _ _ (by omega) (by omega) h6' (fr_sV8 hp (by decide) (fr_sV8 hp (by decide) a)) ?_ ⟨PS_near ps hrk hgr (Or.inr ⟨by omega, rfl, rfl⟩), PS_far ps hrk ?_⟩
        · first | exact hs | (simp (decide := true) only [jgI_ob, jgf_ob, jgL_ob, jpI_ob, jpL_ob, jpR_ob, jpN_ob, jrc_ob, obj_sV, obj_wF, obj_wG, obj_wR, arr_sV, arr_wF, arr_wG, arr_wR, arL_sV, arL_wF, arL_wG, arL_wR, arR_sV, arR_wF, arR_wG, arR_wR, fI_sV (c := 0), fI_sV (c := 1), fI_sV (c := 2), fI_sV (c := 4), fI_sV (c := 5), fI_sV (c := 7), fI_sV (c := 8), fI_sV (c := 9), fI_sV (c := 10), fI_sV (c := 11), fI_sV (c := 12), fI_sV (c := 6), fL_sV (c := 9), fL_sV (c := 12), fI_sV_k, fL_sV_k, fV_sV_k, fI_wF, fI_wG, fI_wR, fL_wF, fL_wG, fL_wR, fV_wF, fV_wG, fV_wR, aF_sV, aG_sV, aR_sV, aF_wG, aF_wR, aG_wF, aG_wR, aR_wF, aR_wG, ho]; exact hs)
        · try simp (decide := true) only [jgI_ob, jgf_ob, jgL_ob, jpI_ob, jpL_ob, jpR_ob, jpN_ob, jrc_ob, obj_sV, obj_wF, obj_wG, obj_wR, arr_sV, arr_wF, arr_wG, arr_wR, arL_sV, arL_wF, arL_wG, arL_wR, arR_sV, arR_wF, arR_wG, arR_wR, fI_sV (c := 0), fI_sV (c := 1), fI_sV (c := 2), fI_sV (c := 4), fI_sV (c := 5), fI_sV (c := 7), fI_sV (c := 8), fI_sV (c := 9), fI_sV (c := 10), fI_sV (c := 11), fI_sV (c := 12), fI_sV (c := 6), fL_sV (c := 9), fL_sV (c := 12), fI_sV_k, fL_sV_k, fV_sV_k, fI_wF, fI_wG, fI_wR, fL_wF, fL_wG, fL_wR, fV_wF, fV_wG, fV_wR, aF_sV, aG_sV, aR_sV, aF_wG, aF_wR, aG_wF, aG_wR, aR_wF, aR_wG, ho]
          exact Or.inr (Or.inl ⟨by omega, c4, h6, h6⟩)
      · refine ih (k + 1) s _ _ _ _ _ _ (by omega) (by omega) h6' (fr_sV8 hp (by decide) (fr_sV8 hp (by decide) a)) ?_ ⟨PS_near ps hrk hgr (Or.inr ⟨by omega, rfl, rfl⟩), PS_far ps hrk ?_⟩
        · first | exact hs | (simp (decide := true) only [jgI_ob, jgf_ob, jgL_ob, jpI_ob, jpL_ob, jpR_ob, jpN_ob, jrc_ob, obj_sV, obj_wF, obj_wG, obj_wR, arr_sV, arr_wF, arr_wG, arr_wR, arL_sV, arL_wF, arL_wG, arL_wR, arR_sV, arR_wF, arR_wG, arR_wR, fI_sV (c := 0), fI_sV (c := 1), fI_sV (c := 2), fI_sV (c := 4), fI_sV (c := 5), fI_sV (c := 7), fI_sV (c := 8), fI_sV (c := 9), fI_sV (c := 10), fI_sV (c := 11), fI_sV (c := 12), fI_sV (c := 6), fL_sV (c := 9), fL_sV (c := 12), fI_sV_k, fL_sV_k, fV_sV_k, fI_wF, fI_wG, fI_wR, fL_wF, fL_wG, fL_wR, fV_wF, fV_wG, fV_wR, aF_sV, aG_sV, aR_sV, aF_wG, aF_wR, aG_wF, aG_wR, aR_wF, aR_wG, ho]; exact hs)
        · try simp (decide := true) only [jgI_ob, jgf_ob, jgL_ob, jpI_ob, jpL_ob, jpR_ob, jpN_ob, jrc_ob, obj_sV, obj_wF, obj_wG, obj_wR, arr_sV, arr_wF, arr_wG, arr_wR, arL_sV, arL_wF, arL_wG, arL_wR, arR_sV, arR_wF, arR_wG, arR_wR, fI_sV (c := 0), fI_sV (c := 1), fI_sV (c := 2), fI_sV (c := 4), fI_sV (c := 5), fI_sV (c := 7), fI_sV (c := 8), fI_sV (c := 9), fI_sV (c := 10), fI_sV (c := 11), fI_sV (c := 12), fI_sV (c := 6), fL_sV (c := 9), fL_sV (c := 12), fI_sV_k, fL_sV_k, fV_sV_k, fI_wF, fI_wG, fI_wR, fL_wF, fL_wG, fL_wR, fV_wF, fV_wG, fV_wR, aF_sV, aG_sV, aR_sV, aF_wG, aF_wR, aG_wF, aG_wR, aR_wF, aR_wG, ho]
          first | exact Or.inr (Or.inr ⟨by omega, c4, rfl, h6⟩) | exact Or.inr (Or.inr ⟨by omega, c4, trivial, h6⟩)
theorem c_lookAt {x q : Int32} (g : G h) (sc : SC h τ b f t fl) (hp : 126 ≤ τ) (hx0 : 0 ≤ x.toInt) (hx1 : x.toInt ≤ 4096) (hq0 : 0 ≤ q.toInt) (hq1 : q.toInt ≤ 100000000) (H : ∀ (h1 : JH) (a l u : Nat), fr [] [] h h1 → SEEN (gp f t fl x.toInt) (900 * f) q.toInt a l u → (fI h1 τ 5).toInt = a → (fI h1 τ 6).toInt = l → (fI h1 τ 7).toInt = u → Q none h1) : jex X (d + 2) 124 [.ref τ, .int x, .int q] h Q := by
  obtain ⟨ho, f1, f3, e0, e1, e2, e3, e4, ha, hv, hf⟩ := id sc
  rw [jE_X8_lookAt]
  refine jT_X8_lookAt_0 (c_max ?_)
  dsimp only [jrI]
  have hR : (zI (max q.toInt (29 : Int32).toInt) + 20).toInt = max q.toInt 29 + 20 := by
    have e5 : (zI (max q.toInt (29 : Int32).toInt)).toInt = max q.toInt 29 := zt (by rw [show (29 : Int32).toInt = 29 from rfl]; omega) (by rw [show (29 : Int32).toInt = 29 from rfl]; omega)
    rw [ti_add (by rw [e5, show (20 : Int32).toInt = 20 from rfl]; omega) (by rw [e5, show (20 : Int32).toInt = 20 from rfl]; omega), e5]
    rfl
  generalize zI (max q.toInt (29 : Int32).toInt) + 20 = rc at hR
  have hh : ∀ h0 : JH, h0 = sV (sV (sV h τ 5 (.int 0)) τ 6 (.int (-1))) τ 7 (.int (-1)) → fr [] [] h h0 ∧ (fI h0 τ 5).toInt = (0 : Nat) ∧ (fI h0 τ 6).toInt = -1 := by
    intro h0 e
    subst e
    refine ⟨fr_sV8 hp (by decide) (fr_sV8 hp (by decide) (fr_sV8 hp (by decide) fr_rfl)), ?_, ?_⟩
    · first | (simp (decide := true) only [jgI_ob, jgf_ob, jgL_ob, jpI_ob, jpL_ob, jpR_ob, jpN_ob, jrc_ob, obj_sV, obj_wF, obj_wG, obj_wR, arr_sV, arr_wF, arr_wG, arr_wR, arL_sV, arL_wF, arL_wG, arL_wR, arR_sV, arR_wF, arR_wG, arR_wR, fI_sV (c := 0), fI_sV (c := 1), fI_sV (c := 2), fI_sV (c := 4), fI_sV (c := 5), fI_sV (c := 7), fI_sV (c := 8), fI_sV (c := 9), fI_sV (c := 10), fI_sV (c := 11), fI_sV (c := 12), fI_sV (c := 6), fL_sV (c := 9), fL_sV (c := 12), fI_sV_k, fL_sV_k, fV_sV_k, fI_wF, fI_wG, fI_wR, fL_wF, fL_wG, fL_wR, fV_wF, fV_wG, fV_wR, aF_sV, aG_sV, aR_sV, aF_wG, aF_wR, aG_wF, aG_wR, aR_wF, aR_wG, ho]; rfl) | simp (decide := true) only [jgI_ob, jgf_ob, jgL_ob, jpI_ob, jpL_ob, jpR_ob, jpN_ob, jrc_ob, obj_sV, obj_wF, obj_wG, obj_wR, arr_sV, arr_wF, arr_wG, arr_wR, arL_sV, arL_wF, arL_wG, arL_wR, arR_sV, arR_wF, arR_wG, arR_wR, fI_sV (c := 0), fI_sV (c := 1), fI_sV (c := 2), fI_sV (c := 4), fI_sV (c := 5), fI_sV (c := 7), fI_sV (c := 8), fI_sV (c := 9), fI_sV (c := 10), fI_sV (c := 11), fI_sV (c := 12), fI_sV (c := 6), fL_sV (c := 9), fL_sV (c := 12), fI_sV_k, fL_sV_k, fV_sV_k, fI_wF, fI_wG, fI_wR, fL_wF, fL_wG, fL_wR, fV_wF, fV_wG, fV_wR, aF_sV, aG_sV, aR_sV, aF_wG, aF_wR, aG_wF, aG_wR, aR_wF, aR_wG, ho]
    · first | (simp (decide := true) only [jgI_ob, jgf_ob, jgL_ob, jpI_ob, jpL_ob, jpR_ob, jpN_ob, jrc_ob, obj_sV, obj_wF, obj_wG, obj_wR, arr_sV, arr_wF, arr_wG, arr_wR, arL_sV, arL_wF, arL_wG, arL_wR, arR_sV, arR_wF, arR_wG, arR_wR, fI_sV (c := 0), fI_sV (c := 1), fI_sV (c := 2), fI_sV (c := 4), fI_sV (c := 5), fI_sV (c := 7), fI_sV (c := 8), fI_sV (c := 9), fI_sV (c := 10), fI_sV (c := 11), fI_sV (c := 12), fI_sV (c := 6), fL_sV (c := 9), fL_sV (c := 12), fI_sV_k, fL_sV_k, fV_sV_k, fI_wF, fI_wG, fI_wR, fL_wF, fL_wG, fL_wR, fV_wF, fV_wG, fV_wR, aF_sV, aG_sV, aR_sV, aF_wG, aF_wR, aG_wF, aG_wR, aR_wF, aR_wG, ho]; rfl) | simp (decide := true) only [jgI_ob, jgf_ob, jgL_ob, jpI_ob, jpL_ob, jpR_ob, jpN_ob, jrc_ob, obj_sV, obj_wF, obj_wG, obj_wR, arr_sV, arr_wF, arr_wG, arr_wR, arL_sV, arL_wF, arL_wG, arL_wR, arR_sV, arR_wF, arR_wG, arR_wR, fI_sV (c := 0), fI_sV (c := 1), fI_sV (c := 2), fI_sV (c := 4), fI_sV (c := 5), fI_sV (c := 7), fI_sV (c := 8), fI_sV (c := 9), fI_sV (c := 10), fI_sV (c := 11), fI_sV (c := 12), fI_sV (c := 6), fL_sV (c := 9), fL_sV (c := 12), fI_sV_k, fL_sV_k, fV_sV_k, fI_wF, fI_wG, fI_wR, fL_wF, fL_wG, fL_wR, fV_wF, fV_wG, fV_wR, aF_sV, aG_sV, aR_sV, aF_wG, aF_wR, aG_wF, aG_wR, aR_wF, aR_wG, ho]
  cases t
  · simp (decide := true) only [jgI_ob, jgf_ob, jgL_ob, jpI_ob, jpL_ob, jpR_ob, jpN_ob, jrc_ob, obj_sV, obj_wF, obj_wG, obj_wR, arr_sV, arr_wF, arr_wG, arr_wR, arL_sV, arL_wF, arL_wG, arL_wR, arR_sV, arR_wF, arR_wG, arR_wR, fI_sV (c := 0), fI_sV (c := 1), fI_sV (c := 2), fI_sV (c := 4), fI_sV (c := 5), fI_sV (c := 7), fI_sV (c := 8), fI_sV (c := 9), fI_sV (c := 10), fI_sV (c := 11), fI_sV (c := 12), fI_sV (c := 6), fL_sV (c := 9), fL_sV (c := 12), fI_sV_k, fL_sV_k, fV_sV_k, fI_wF, fI_wG, fI_wR, fL_wF, fL_wG, fL_wR, fV_wF, fV_wG, fV_wR, aF_sV, aG_sV, aR_sV, aF_wG, aF_wR, aG_wF, aG_wR, aR_wF, aR_wG, ho, e2, bi_f, jif_T]
    obtain ⟨a, i5, i6⟩ := hh _ rfl
    generalize sV (sV (sV h τ 5 (.int 0)) τ 6 (.int (-1))) τ 7 (.int (-1)) = h0 at a i5 i6
    have g0 := G_fr g rfl a
    have sc0 := SC_fr sc hp (fun _ c => by cases c) (fun _ c => by cases c) a
    have hb : (x - rc).toInt = cen false x.toInt - rc.toInt := by
      rw [show cen false x.toInt = x.toInt from rfl]
      exact (by simp only [Int32.toInt_add, Int32.toInt_sub, Int32.toInt_mul, Int32.toInt_neg, Int.bmod_def, tl]; omega)
    refine c_firstFrom g0 sc0 (fun r rn hr1 hr2 hr3 hr4 => ?_)
    dsimp only [jrI]
    refine l_lookAt g sc hp hx0 hx1 hq0 hq1 hR rfl (r := rn) hr2 (fun n hn => by have := hr3 n hn; omega) H (900 * f + 1 - rn) rn 0 1000000 r none _ _ _ (by omega) (by omega) hr1 a i5 ?_
    rw [i6]
    exact PS_0
  · simp (decide := true) only [jgI_ob, jgf_ob, jgL_ob, jpI_ob, jpL_ob, jpR_ob, jpN_ob, jrc_ob, obj_sV, obj_wF, obj_wG, obj_wR, arr_sV, arr_wF, arr_wG, arr_wR, arL_sV, arL_wF, arL_wG, arL_wR, arR_sV, arR_wF, arR_wG, arR_wR, fI_sV (c := 0), fI_sV (c := 1), fI_sV (c := 2), fI_sV (c := 4), fI_sV (c := 5), fI_sV (c := 7), fI_sV (c := 8), fI_sV (c := 9), fI_sV (c := 10), fI_sV (c := 11), fI_sV (c := 12), fI_sV (c := 6), fL_sV (c := 9), fL_sV (c := 12), fI_sV_k, fL_sV_k, fV_sV_k, fI_wF, fI_wG, fI_wR, fL_wF, fL_wG, fL_wR, fV_wF, fV_wG, fV_wR, aF_sV, aG_sV, aR_sV, aF_wG, aF_wR, aG_wF, aG_wR, aR_wF, aR_wG, ho, e2, bi_t, jif_F]
    obtain ⟨a, i5, i6⟩ := hh _ rfl
    generalize sV (sV (sV h τ 5 (.int 0)) τ 6 (.int (-1))) τ 7 (.int (-1)) = h0 at a i5 i6
    have g0 := G_fr g rfl a
    have sc0 := SC_fr sc hp (fun _ c => by cases c) (fun _ c => by cases c) a
    have hce : (4096 - x).toInt = cen true x.toInt := by
      rw [show cen true x.toInt = 4096 - x.toInt from rfl]
      exact (by simp only [Int32.toInt_add, Int32.toInt_sub, Int32.toInt_mul, Int32.toInt_neg, Int.bmod_def, tl]; omega)
    have hb : (4096 - x - rc).toInt = cen true x.toInt - rc.toInt := by
      rw [← hce]
      rw [show cen true x.toInt = 4096 - x.toInt from rfl] at hce
      generalize 4096 - x = y at hce
      exact (by simp only [Int32.toInt_add, Int32.toInt_sub, Int32.toInt_mul, Int32.toInt_neg, Int.bmod_def, tl]; omega)
    refine c_firstFrom g0 sc0 (fun r rn hr1 hr2 hr3 hr4 => ?_)
    dsimp only [jrI]
    refine l_lookAt g sc hp hx0 hx1 hq0 hq1 hR hce (r := rn) hr2 (fun n hn => by have := hr3 n hn; omega) H (900 * f + 1 - rn) rn 0 1000000 r none _ _ _ (by omega) (by omega) hr1 a i5 ?_
    rw [i6]
    exact PS_0
end SCL
