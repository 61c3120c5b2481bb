/-! THE MODEL'S SCALES -/
def SM (h : JH) (k : Nat) (b : Bool) (f : Nat) (t : Bool) (fl : Nat → Int) : Prop := k < 32 ∧ 1 ≤ f ∧ f ≤ 3 ∧ aF h 84 k = bi b ∧ aF h 85 k = nI f ∧ aF h 86 k = bi t ∧ (∀ j, j < 16 → (aF h 87 (16 * k + j)).toInt = fl j) ∧ FL fl
section MGE
variable {X : JX} {d : Nat} {Q : JQ} {h : JH} {k f n : Nat} {b t : Bool} {fl : Nat → Int}
theorem SM_fr {A : List Nat} {F : List (Nat × Nat)} {h1 : JH} (sm : SM h k b f t fl) (lA : [84, 85, 86, 87].all (fun p => !(A.contains p)) = true) (a : fr A F h h1) : SM h1 k b f t fl := by
  have hA : ∀ p, p ∈ [84, 85, 86, 87] → p ∉ A := fun p hp c => by
    have := List.all_eq_true.mp lA p hp
    rw [Bool.not_eq_true', ← Bool.not_eq_true] at this
    exact this (List.contains_iff_mem.mpr c)
  unfold SM
  rw [frF a (hA 84 (by decide)), frF a (hA 85 (by decide)), frF a (hA 86 (by decide)), frF a (hA 87 (by decide))]
  exact sm
theorem lgU_add (k i : Nat) : lgU (900 * k + i) = lgU i + 4096 * k := by
  unfold lgU
  have e1 : (900 * k + i) % 900 = i % 900 := by omega
  have e2 : (900 * k + i) / 900 = k + i / 900 := by omega
  rw [e1, e2]
  omega
theorem c_trueOf (g : G h) (sm : SM h k b f t fl) {a1 a2 a3 : Int32} {e m : Nat} (h1 : a1.toInt = k) (h2 : a2.toInt = e) (h3 : a3.toInt = m) (m0 : 100 ≤ m) (m1 : m ≤ 1000) (hn : n + 100 = 900 * e + m) (hN : n ≤ 900 * f) (H : ∀ r : Int32, r.toInt = tp f t n → Q (some (.int r)) h) : jex X (d + 1) 121 [.ref 81, .int a1, .int a2, .int a3] h Q := by
  obtain ⟨k1, f1, f3, e1, e2, e3, hv, hf⟩ := id sm
  have eu : (aF h 88 m).toInt = ((lgU (m - 100) : Nat) : Int) := by
    rw [g.2.2.2.2.2.2.1]; exact muF_v m0 m1
  have ef : (nI f).toInt = f := nI_toInt (by omega)
  have en : lgU n = lgU (m - 100) + 4096 * e := by rw [← lgU_add]; congr 1; omega
  have hl := lgU_mono hN
  rw [lgU_900] at hl
  have es : (aF h 88 m + 4096 * a2).toInt = ((lgU n : Nat) : Int) := (by simp only [Int32.toInt_add, Int32.toInt_sub, Int32.toInt_mul, Int32.toInt_neg, Int.bmod_def, tl]; omega)
  have ed : ((aF h 88 m + 4096 * a2) / nI f).toInt = ((P f n : Nat) : Int) := by
    rw [ti_divp (by omega) (by omega), es, ef]
    rfl
  have hP := P_le f1 hN
  have ne : ¬ nI f = 0 := fun c => by rw [ti_eq, ef] at c; rw [show (0 : Int32).toInt = 0 from rfl] at c; omega
  rw [jE_X12_trueOf]
  refine jT_X12_trueOf_0 ?_
  simp (decide := true) only [jgI_ob, jgf_ob, jgL_ob, jpI_ob, jpL_ob, jpR_ob, jpN_ob, jrc_ob, obj_sV, obj_wF, obj_wG, obj_wR, arr_sV, arr_wF, arr_wG, arr_wR, arL_sV, arL_wF, arL_wG, arL_wR, arR_sV, arR_wF, arR_wG, arR_wR, fI_sV (c := 0), fI_sV (c := 1), fI_sV (c := 2), fI_sV (c := 4), fI_sV (c := 5), fI_sV (c := 7), fI_sV (c := 8), fI_sV (c := 9), fI_sV (c := 10), fI_sV (c := 11), fI_sV (c := 12), fI_sV (c := 6), fL_sV (c := 9), fL_sV (c := 12), fI_sV_k, fL_sV_k, fV_sV_k, fI_wF, fI_wG, fI_wR, fL_wF, fL_wG, fL_wR, fV_wF, fV_wG, fV_wR, aF_sV, aG_sV, aR_sV, aF_wG, aF_wR, aG_wF, aG_wR, aR_wF, aR_wG, kC, kM, gM g, gN g, ti_clamp, h1, h3, Int.toNat_natCast, e2, e3]
  refine ⟨by rw [vp_inI]; omega, by rw [vp_inI]; omega, ne, by rw [vp_inI]; omega, ?_⟩
  cases t
  · refine jif_t rfl (H _ ?_)
    rw [ed]; unfold tp; simp
  · refine jif_n (by decide) (H _ ?_)
    have : (4096 - (aF h 88 m + 4096 * a2) / nI f).toInt = 4096 - (P f n : Int) := (by simp only [Int32.toInt_add, Int32.toInt_sub, Int32.toInt_mul, Int32.toInt_neg, Int.bmod_def, tl]; omega)
    rw [this]; unfold tp; simp
theorem c_mstretch {x : Int32} (h0 : 0 ≤ x.toInt) (H : ∀ r : Int32, r.toInt = min (x.toInt / 256) 15 → x.toInt ≤ 4096 → Q (some (.int r)) h) (h1 : x.toInt ≤ 4096) : jex X (d + 1) 122 [.int x] h Q := by
  rw [jE_X12_stretchOf]
  refine jT_X12_stretchOf_0 ⟨fun c => ⟨by decide, H _ ?_ h1⟩, fun c => H _ ?_ h1⟩
  · rw [ti_lt, show (4096 : Int32).toInt = 4096 from rfl] at c
    rw [ti_divp h0 (by decide), show (256 : Int32).toInt = 256 from rfl]
    omega
  · rw [ti_lt, show (4096 : Int32).toInt = 4096 from rfl] at c
    rw [show (15 : Int32).toInt = 15 from rfl]
    omega
theorem c_cutOf (g : G h) (sm : SM h k b f t fl) {a1 a2 a3 : Int32} {e m : Nat} (h1 : a1.toInt = k) (h2 : a2.toInt = e) (h3 : a3.toInt = m) (m0 : 100 ≤ m) (m1 : m ≤ 1000) (hn : n + 100 = 900 * e + m) (hN : n ≤ 900 * f) (H : ∀ r : Int32, r.toInt = ct f t fl n → Q (some (.int r)) h) : jex X (d + 2) 120 [.ref 81, .int a1, .int a2, .int a3] h Q := by
  obtain ⟨k1, f1, f3, e1, e2, e3, hv, hf⟩ := id sm
  rw [jE_X12_cutOf]
  refine jT_X12_cutOf_0 ?_
  simp (decide := true) only [jgI_ob, jgf_ob, jgL_ob, jpI_ob, jpL_ob, jpR_ob, jpN_ob, jrc_ob, obj_sV, obj_wF, obj_wG, obj_wR, arr_sV, arr_wF, arr_wG, arr_wR, arL_sV, arL_wF, arL_wG, arL_wR, arR_sV, arR_wF, arR_wG, arR_wR, fI_sV (c := 0), fI_sV (c := 1), fI_sV (c := 2), fI_sV (c := 4), fI_sV (c := 5), fI_sV (c := 7), fI_sV (c := 8), fI_sV (c := 9), fI_sV (c := 10), fI_sV (c := 11), fI_sV (c := 12), fI_sV (c := 6), fL_sV (c := 9), fL_sV (c := 12), fI_sV_k, fL_sV_k, fV_sV_k, fI_wF, fI_wG, fI_wR, fL_wF, fL_wG, fL_wR, fV_wF, fV_wG, fV_wR, aF_sV, aG_sV, aR_sV, aF_wG, aF_wR, aG_wF, aG_wR, aR_wF, aR_wG, kC, kM, gM g, gN g]
  refine c_trueOf g sm h1 h2 h3 m0 m1 hn hN (fun y hy => ?_)
  dsimp only [jrI]
  have rg := tp_rg (t := t) f1 hN
  simp (decide := true) only [jgI_ob, jgf_ob, jgL_ob, jpI_ob, jpL_ob, jpR_ob, jpN_ob, jrc_ob, obj_sV, obj_wF, obj_wG, obj_wR, arr_sV, arr_wF, arr_wG, arr_wR, arL_sV, arL_wF, arL_wG, arL_wR, arR_sV, arR_wF, arR_wG, arR_wR, fI_sV (c := 0), fI_sV (c := 1), fI_sV (c := 2), fI_sV (c := 4), fI_sV (c := 5), fI_sV (c := 7), fI_sV (c := 8), fI_sV (c := 9), fI_sV (c := 10), fI_sV (c := 11), fI_sV (c := 12), fI_sV (c := 6), fL_sV (c := 9), fL_sV (c := 12), fI_sV_k, fL_sV_k, fV_sV_k, fI_wF, fI_wG, fI_wR, fL_wF, fL_wG, fL_wR, fV_wF, fV_wG, fV_wR, aF_sV, aG_sV, aR_sV, aF_wG, aF_wR, aG_wF, aG_wR, aR_wF, aR_wG, gM g, gN g]
  refine c_mstretch (x := y) (by omega) (fun j hj _ => ?_) (by omega)
  dsimp only [jrI]
  have hj2 : (16 * a1 + j).toInt = ((16 * k + (min (tp f t n / 256) 15).toNat : Nat) : Int) := (by simp only [Int32.toInt_add, Int32.toInt_sub, Int32.toInt_mul, Int32.toInt_neg, Int.bmod_def, tl]; omega)
  have hw := hv (min (tp f t n / 256) 15).toNat (by omega)
  have hz := hf.1 (min (tp f t n / 256) 15).toNat (by omega)
  simp (decide := true) only [jgI_ob, jgf_ob, jgL_ob, jpI_ob, jpL_ob, jpR_ob, jpN_ob, jrc_ob, obj_sV, obj_wF, obj_wG, obj_wR, arr_sV, arr_wF, arr_wG, arr_wR, arL_sV, arL_wF, arL_wG, arL_wR, arR_sV, arR_wF, arR_wG, arR_wR, fI_sV (c := 0), fI_sV (c := 1), fI_sV (c := 2), fI_sV (c := 4), fI_sV (c := 5), fI_sV (c := 7), fI_sV (c := 8), fI_sV (c := 9), fI_sV (c := 10), fI_sV (c := 11), fI_sV (c := 12), fI_sV (c := 6), fL_sV (c := 9), fL_sV (c := 12), fI_sV_k, fL_sV_k, fV_sV_k, fI_wF, fI_wG, fI_wR, fL_wF, fL_wG, fL_wR, fV_wF, fV_wG, fV_wR, aF_sV, aG_sV, aR_sV, aF_wG, aF_wR, aG_wF, aG_wR, aR_wF, aR_wG, kC, kM, gM g, gN g, ti_clamp, hj2, Int.toNat_natCast]
  refine ⟨by rw [vp_inI]; omega, H _ ?_⟩
  have e4 : fl ((tp f t n).toNat / 256) = fl (min (tp f t n / 256) 15).toNat := by
    by_cases c : tp f t n < 4096
    · congr 1; omega
    · have c2 : tp f t n = 4096 := by omega
      rw [c2]
      exact hf.2
  unfold ct
  rw [e4]
  generalize aF h 87 (16 * k + (min (tp f t n / 256) 15).toNat) = v at hw
  rw [← hw] at hz
  rw [← hw]
  have : (y + v).toInt = y.toInt + v.toInt := (by simp only [Int32.toInt_add, Int32.toInt_sub, Int32.toInt_mul, Int32.toInt_neg, Int.bmod_def, tl]; omega)
  rw [this, hy]
/-- a mark's number as the model writes it -/
def enc (n : Nat) : Nat := 1000 * (n / 900) + n % 900 + 100
def EN (v : Int) (e : Int) : Prop := (v = -1 ∧ e = -1) ∨ ∃ n : Nat, v = n ∧ e = (enc n : Nat)
def SI (C : Nat → Int) (q : Int) (h : JH) (n : Nat) (a4 a5 a6 : Int32) : Prop := ∃ (s : Nat) (lo hi : Int), PS C q 0 n a4.toInt s lo hi ∧ EN lo a5.toInt ∧ EN hi a6.toInt ∧ (0 < n → (aF h 89 0).toInt = (enc s : Nat))
theorem EN_neg {v e : Int} (h : EN v e) : e < 0 ↔ v = -1 := by
  rcases h with ⟨h1, h2⟩ | ⟨n, h1, h2⟩ <;> omega
theorem l_see49 (g : G h) (sm : SM h k b f t fl) {a1 x q : Int32} (h1 : a1.toInt = k) (hx0 : 0 ≤ x.toInt) (hx1 : x.toInt ≤ 4096) {e : Nat} {a7 : Int32} (h7 : a7.toInt = e) (he : e ≤ f) {a8 : Int32} (h8 : a8.toInt = if e = f then 100 else 999) (HK : ∀ (h2 : JH) (a4 a5 a6 : Int32) (o8 o9 o10 : Option Value) (c z : Nat), fr [89] [] h h2 → SI (gp f t fl x.toInt) q.toInt h2 (min (900 * (e + 1)) (900 * f + 1)) a4 a5 a6 → jB_X12_see_13 X (d + 2) Q 81 a1 x q a4 a5 a6 (a7 + 1) o8 o9 o10 h2 c z) : ∀ (j n : Nat) (h2 : JH) (a4 a5 a6 a9 : Int32) (o10 : Option Value) (c z : Nat), j + n = min (900 * (e + 1)) (900 * f + 1) → 900 * e ≤ n → a9.toInt = n - 900 * e + 100 → fr [89] [] h h2 → SI (gp f t fl x.toInt) q.toInt h2 n a4 a5 a6 → jB_X12_see_49 X (d + 2) Q 81 a1 x q a4 a5 a6 a7 a8 a9 o10 h2 c z := by
  obtain ⟨k1, f1, f3, e1, e2, e3, hv, hf⟩ := id sm
  intro j
  induction j with
  | zero =>
    intro n h2 a4 a5 a6 a9 o10 c z hj hn h9 a si
    refine jT_X12_see_49 (jif_t ?_ ?_)
    · rw [ti_lt, h8, h9]; split <;> omega
    · have : n = min (900 * (e + 1)) (900 * f + 1) := by omega
      rw [this] at si
      exact HK _ _ _ _ _ _ _ _ _ a si
  | succ j ih =>
    intro n h2 a4 a5 a6 a9 o10 c z hj hn h9 a si
    have g2 := G_fr g rfl a
    have sm2 := SM_fr sm rfl a
    have hnN : n ≤ 900 * f := by omega
    refine jT_X12_see_49 (jif_n ?_ ?_)
    · rw [ti_lt, h8, h9]; split <;> omega
    simp (decide := true) only [jgI_ob, jgf_ob, jgL_ob, jpI_ob, jpL_ob, jpR_ob, jpN_ob, jrc_ob, obj_sV, obj_wF, obj_wG, obj_wR, arr_sV, arr_wF, arr_wG, arr_wR, arL_sV, arL_wF, arL_wG, arL_wR, arR_sV, arR_wF, arR_wG, arR_wR, fI_sV (c := 0), fI_sV (c := 1), fI_sV (c := 2), fI_sV (c := 4), fI_sV (c := 5), fI_sV (c := 7), fI_sV (c := 8), fI_sV (c := 9), fI_sV (c := 10), fI_sV (c := 11), fI_sV (c := 12), fI_sV (c := 6), fL_sV (c := 9), fL_sV (c := 12), fI_sV_k, fL_sV_k, fV_sV_k, fI_wF, fI_wG, fI_wR, fL_wF, fL_wG, fL_wR, fV_wF, fV_wG, fV_wR, aF_sV, aG_sV, aR_sV, aF_wG, aF_wR, aG_wF, aG_wR, aR_wF, aR_wG, kC, kM, gM g2, gN g2]
    refine c_cutOf (n := n) (e := e) (m := n - 900 * e + 100) g2 sm2 h1 h7 (by omega) (by omega) (by omega) (by omega) hnN (fun y hy => ?_)
    dsimp only [jrI]
    have hyr := ct_rg (t := t) hf f1 hnN
    have htr := tp_rg (t := t) f1 hnN
    refine c_apart (by omega) (by omega) ?_
    dsimp only [jrI]
    have hg : (zI (max (y.toInt - x.toInt) (x.toInt - y.toInt))).toInt = gp f t fl x.toInt n := by
      rw [zt (by omega) (by omega), hy]; rfl
    have hgr : gp f t fl x.toInt n < 1000000 := by unfold gp; omega
    generalize zI (max (y.toInt - x.toInt) (x.toInt - y.toInt)) = w at hg
    have h9' : (a9 + 1).toInt = (((n + 1 : Nat) : Int) - 900 * e + 100) := (by simp only [Int32.toInt_add, Int32.toInt_sub, Int32.toInt_mul, Int32.toInt_neg, Int.bmod_def, tl]; omega)
    have hen : (1000 * a7 + a9).toInt = (enc n : Nat) := by
      have : (1000 * a7 + a9).toInt = 1000 * a7.toInt + a9.toInt := (by simp only [Int32.toInt_add, Int32.toInt_sub, Int32.toInt_mul, Int32.toInt_neg, Int.bmod_def, tl]; omega)
      rw [this, h7, h9]
      unfold enc
      by_cases c1 : e = f
      · have : n = 900 * e := by omega
        subst this
        omega
      · omega
    obtain ⟨s, lo, hi, ps, el, eh, es⟩ := si
    have hneg := EN_neg el
    simp (decide := true) only [jgI_ob, jgf_ob, jgL_ob, jpI_ob, jpL_ob, jpR_ob, jpN_ob, jrc_ob, obj_sV, obj_wF, obj_wG, obj_wR, arr_sV, arr_wF, arr_wG, arr_wR, arL_sV, arL_wF, arL_wG, arL_wR, arR_sV, arR_wF, arR_wG, arR_wR, fI_sV (c := 0), fI_sV (c := 1), fI_sV (c := 2), fI_sV (c := 4), fI_sV (c := 5), fI_sV (c := 7), fI_sV (c := 8), fI_sV (c := 9), fI_sV (c := 10), fI_sV (c := 11), fI_sV (c := 12), fI_sV (c := 6), fL_sV (c := 9), fL_sV (c := 12), fI_sV_k, fL_sV_k, fV_sV_k, fI_wF, fI_wG, fI_wR, fL_wF, fL_wG, fL_wR, fV_wF, fV_wG, fV_wR, aF_sV, aG_sV, aR_sV, aF_wG, aF_wR, aG_wF, aG_wR, aR_wF, aR_wG, kC, kM, gM g2, gN g2, ti_clamp, tl, ti_lt]
    refine ⟨fun c2 => ⟨by rw [vp_inI]; decide, fun c3 => ?_, fun c3 => ⟨fun c4 => ?_, fun c4 => ?_⟩⟩, fun c2 => ⟨fun c3 => ?_, fun c3 => ⟨fun c4 => ?_, fun c4 => ?_⟩⟩⟩
    · refine ih (n + 1) _ _ _ _ _ _ _ _ (by omega) (by omega) h9' (fr_wF (by decide) a) ⟨n, _, _, ⟨PS_near ps (Nat.zero_le _) hgr (Or.inl ⟨by omega, hg, rfl⟩), PS_far ps (Nat.zero_le _) (Or.inl ⟨by omega, rfl, rfl⟩)⟩, el, eh, fun _ => ?_⟩
      rw [aF_wF (show arr h2 89 .int 3 by simp only [gM g2])]; exact hen
    · refine ih (n + 1) _ _ _ _ _ _ _ _ (by omega) (by omega) h9' (fr_wF (by decide) a) ⟨n, _, _, ⟨PS_near ps (Nat.zero_le _) hgr (Or.inl ⟨by omega, hg, rfl⟩), PS_far ps (Nat.zero_le _) (Or.inr (Or.inl ⟨by omega, hneg.mp c4, rfl, rfl⟩))⟩, Or.inr ⟨n, rfl, hen⟩, Or.inr ⟨n, rfl, hen⟩, fun _ => ?_⟩
      rw [aF_wF (show arr h2 89 .int 3 by simp only [gM g2])]; exact hen
    · refine ih (n + 1) _ _ _ _ _ _ _ _ (by omega) (by omega) h9' (fr_wF (by decide) a) ⟨n, _, _, ⟨PS_near ps (Nat.zero_le _) hgr (Or.inl ⟨by omega, hg, rfl⟩), PS_far ps (Nat.zero_le _) (Or.inr (Or.inr ⟨by omega, fun c5 => c4 (hneg.mpr c5), rfl, rfl⟩))⟩, el, Or.inr ⟨n, rfl, hen⟩, fun _ => ?_⟩
      rw [aF_wF (show arr h2 89 .int 3 by simp only [gM g2])]; exact hen
    · refine ih (n + 1) _ _ _ _ _ _ _ _ (by omega) (by omega) h9' a ⟨s, _, _, ⟨PS_near ps (Nat.zero_le _) hgr (Or.inr ⟨by omega, rfl, rfl⟩), PS_far ps (Nat.zero_le _) (Or.inl ⟨by omega, rfl, rfl⟩)⟩, el, eh, fun _ => ?_⟩
      refine es ?_
      rcases ps.1 with ⟨z1, z2⟩ | ⟨z1, z2, -⟩ <;> omega
    · refine ih (n + 1) _ _ _ _ _ _ _ _ (by omega) (by omega) h9' a ⟨s, _, _, ⟨PS_near ps (Nat.zero_le _) hgr (Or.inr ⟨by omega, rfl, rfl⟩), PS_far ps (Nat.zero_le _) (Or.inr (Or.inl ⟨by omega, hneg.mp c4, rfl, rfl⟩))⟩, Or.inr ⟨n, rfl, hen⟩, Or.inr ⟨n, rfl, hen⟩, fun _ => ?_⟩
      refine es ?_
      rcases ps.1 with ⟨z1, z2⟩ | ⟨z1, z2, -⟩ <;> omega
    · refine ih (n + 1) _ _ _ _ _ _ _ _ (by omega) (by omega) h9' a ⟨s, _, _, ⟨PS_near ps (Nat.zero_le _) hgr (Or.inr ⟨by omega, rfl, rfl⟩), PS_far ps (Nat.zero_le _) (Or.inr (Or.inr ⟨by omega, fun c5 => c4 (hneg.mpr c5), rfl, rfl⟩))⟩, el, Or.inr ⟨n, rfl, hen⟩, fun _ => ?_⟩
      refine es ?_
      rcases ps.1 with ⟨z1, z2⟩ | ⟨z1, z2, -⟩ <;> omega
theorem l_see13 (g : G h) (sm : SM h k b f t fl) {a1 x q : Int32} (h1 : a1.toInt = k) (hx0 : 0 ≤ x.toInt) (hx1 : x.toInt ≤ 4096) (H : ∀ (h2 : JH) (a l u : Nat), fr [89] [] h h2 → SEEN (gp f t fl x.toInt) (900 * f) q.toInt a l u → (aF h2 89 0).toInt = enc a → (aF h2 89 1).toInt = enc l → (aF h2 89 2).toInt = enc u → Q none h2) : ∀ (j e : Nat) (h2 : JH) (a4 a5 a6 a7 : Int32) (o8 o9 o10 : Option Value) (c z : Nat), j + e = f + 1 → a7.toInt = e → fr [89] [] h h2 → SI (gp f t fl x.toInt) q.toInt h2 (min (900 * e) (900 * f + 1)) a4 a5 a6 → jB_X12_see_13 X (d + 2) Q 81 a1 x q a4 a5 a6 a7 o8 o9 o10 h2 c z := by
  obtain ⟨k1, f1, f3, e1, e2, e3, hv, hf⟩ := id sm
  have ef : (nI f).toInt = f := nI_toInt (by omega)
  intro j
  induction j with
  | zero =>
    intro e h2 a4 a5 a6 a7 o8 o9 o10 c z he h7 a si
    have g2 := G_fr g rfl a
    have sm2 := SM_fr sm rfl a
    have f2 := sm2.2.2.2.2.1
    refine jT_X12_see_13 ?_
    simp (decide := true) only [jgI_ob, jgf_ob, jgL_ob, jpI_ob, jpL_ob, jpR_ob, jpN_ob, jrc_ob, obj_sV, obj_wF, obj_wG, obj_wR, arr_sV, arr_wF, arr_wG, arr_wR, arL_sV, arL_wF, arL_wG, arL_wR, arR_sV, arR_wF, arR_wG, arR_wR, fI_sV (c := 0), fI_sV (c := 1), fI_sV (c := 2), fI_sV (c := 4), fI_sV (c := 5), fI_sV (c := 7), fI_sV (c := 8), fI_sV (c := 9), fI_sV (c := 10), fI_sV (c := 11), fI_sV (c := 12), fI_sV (c := 6), fL_sV (c := 9), fL_sV (c := 12), fI_sV_k, fL_sV_k, fV_sV_k, fI_wF, fI_wG, fI_wR, fL_wF, fL_wG, fL_wR, fV_wF, fV_wG, fV_wR, aF_sV, aG_sV, aR_sV, aF_wG, aF_wR, aG_wF, aG_wR, aR_wF, aR_wG, kC, kM, gM g2, gN g2, ti_clamp, h1, Int.toNat_natCast, f2, tl]
    refine ⟨by rw [vp_inI]; omega, jif_t (by rw [ti_lt, ef]; omega) ?_⟩
    obtain ⟨s, lo, hi, ps, el, eh, es⟩ := si
    have hN : min (900 * e) (900 * f + 1) = 900 * f + 1 := by omega
    rw [hN] at ps es
    have es := es (by omega)
    have hfin := PS_fin ps (Nat.le_refl _) (Nat.le_refl 0) (by omega) (fun n hn hc => by omega)
    have hneg := EN_neg el
    rcases hfin with ⟨c1, c2⟩ | ⟨l, u, c1, c2, c3⟩
    · refine jif_t (by rw [ti_lt]; exact hneg.mpr c1) ?_
      refine ⟨by rw [vp_inI]; decide, by rw [vp_inI]; decide, jif_t (by rw [ti_lt]; exact hneg.mpr c1) ⟨by rw [vp_inI]; decide, by rw [vp_inI]; decide, ?_⟩⟩
      refine H _ s s s (fr_wF (by decide) (fr_wF (by decide) a)) c2 ?_ ?_ ?_
      all_goals
        simp (decide := true) only [aF_wF (arr_wF.symm ▸ (show arr h2 89 .int 3 by simp only [gM g2])), aF_wF (show arr h2 89 .int 3 by simp only [gM g2]), upd, if_true, if_false]
        exact es
    · refine jif_n (by rw [ti_lt]; exact fun c => by have := hneg.mp c; omega) ?_
      refine ⟨by rw [vp_inI]; decide, jif_n (by rw [ti_lt]; exact fun c => by have := hneg.mp c; omega) ⟨by rw [vp_inI]; decide, ?_⟩⟩
      have x5 : a5.toInt = enc l := by
        rcases el with ⟨z1, z2⟩ | ⟨n, z1, z2⟩
        · omega
        · rw [show l = n by omega]; exact z2
      have x6 : a6.toInt = enc u := by
        rcases eh with ⟨z1, z2⟩ | ⟨n, z1, z2⟩
        · omega
        · rw [show u = n by omega]; exact z2
      refine H _ s l u (fr_wF (by decide) (fr_wF (by decide) a)) c3 ?_ ?_ ?_
      all_goals
        simp (decide := true) only [aF_wF (arr_wF.symm ▸ (show arr h2 89 .int 3 by simp only [gM g2])), aF_wF (show arr h2 89 .int 3 by simp only [gM g2]), upd, if_true, if_false]
        first | exact es | exact x5 | exact x6
  | succ j ih =>
    intro e h2 a4 a5 a6 a7 o8 o9 o10 c z he h7 a si
    have g2 := G_fr g rfl a
    have sm2 := SM_fr sm rfl a
    have f2 := sm2.2.2.2.2.1
    refine jT_X12_see_13 ?_
    simp (decide := true) only [jgI_ob, jgf_ob, jgL_ob, jpI_ob, jpL_ob, jpR_ob, jpN_ob, jrc_ob, obj_sV, obj_wF, obj_wG, obj_wR, arr_sV, arr_wF, arr_wG, arr_wR, arL_sV, arL_wF, arL_wG, arL_wR, arR_sV, arR_wF, arR_wG, arR_wR, fI_sV (c := 0), fI_sV (c := 1), fI_sV (c := 2), fI_sV (c := 4), fI_sV (c := 5), fI_sV (c := 7), fI_sV (c := 8), fI_sV (c := 9), fI_sV (c := 10), fI_sV (c := 11), fI_sV (c := 12), fI_sV (c := 6), fL_sV (c := 9), fL_sV (c := 12), fI_sV_k, fL_sV_k, fV_sV_k, fI_wF, fI_wG, fI_wR, fL_wF, fL_wG, fL_wR, fV_wF, fV_wG, fV_wR, aF_sV, aG_sV, aR_sV, aF_wG, aF_wR, aG_wF, aG_wR, aR_wF, aR_wG, kC, kM, gM g2, gN g2, ti_clamp, h1, Int.toNat_natCast, f2]
    have h7' : (a7 + 1).toInt = ((e + 1 : Nat) : Int) := (by simp only [Int32.toInt_add, Int32.toInt_sub, Int32.toInt_mul, Int32.toInt_neg, Int.bmod_def, tl]; omega)
    have K : ∀ (h2 : JH) (a4 a5 a6 : Int32) (o8 o9 o10 : Option Value) (c z : Nat), fr [89] [] h h2 → SI (gp f t fl x.toInt) q.toInt h2 (min (900 * (e + 1)) (900 * f + 1)) a4 a5 a6 → jB_X12_see_13 X (d + 2) Q 81 a1 x q a4 a5 a6 (a7 + 1) o8 o9 o10 h2 c z := fun h3 b4 b5 b6 p8 p9 p10 c z a3 si3 => ih (e + 1) h3 b4 b5 b6 _ p8 p9 p10 c z (by omega) h7' a3 si3
    have hmin : min (900 * e) (900 * f + 1) = 900 * e := by omega
    rw [hmin] at si
    refine ⟨by rw [vp_inI]; omega, jif_n (by rw [ti_lt, ef]; omega) ⟨by rw [vp_inI]; omega, fun c1 => ?_, fun c1 => ?_⟩⟩
    · rw [ti_eq, ef, h7] at c1
      exact l_see49 g sm h1 hx0 hx1 h7 (by omega) (by rw [if_pos (by omega)]; rfl) K (min (900 * (e + 1)) (900 * f + 1) - 900 * e) (900 * e) _ _ _ _ _ _ _ _ (by omega) (Nat.le_refl _) (by rw [show (100 : Int32).toInt = 100 from rfl]; omega) a si
    · rw [ti_eq, ef, h7] at c1
      exact l_see49 g sm h1 hx0 hx1 h7 (by omega) (by rw [if_neg (by omega)]; rfl) K (min (900 * (e + 1)) (900 * f + 1) - 900 * e) (900 * e) _ _ _ _ _ _ _ _ (by omega) (Nat.le_refl _) (by rw [show (100 : Int32).toInt = 100 from rfl]; omega) a si
theorem c_see (g : G h) (sm : SM h k b f t fl) {a1 x q : Int32} (h1 : a1.toInt = k) (hx0 : 0 ≤ x.toInt) (hx1 : x.toInt ≤ 4096) (H : ∀ (h2 : JH) (a l u : Nat), fr [89] [] h h2 → SEEN (gp f t fl x.toInt) (900 * f) q.toInt a l u → (aF h2 89 0).toInt = enc a → (aF h2 89 1).toInt = enc l → (aF h2 89 2).toInt = enc u → Q none h2) : jex X (d + 3) 132 [.ref 81, .int a1, .int x, .int q] h Q := by
  rw [jE_X12_see]
  refine jT_X12_see_0 ?_
  refine l_see13 g sm h1 hx0 hx1 H (f + 1) 0 h _ _ _ 0 _ _ _ _ _ (by omega) rfl fr_rfl ⟨0, -1, -1, ?_, Or.inl ⟨rfl, rfl⟩, Or.inl ⟨rfl, rfl⟩, fun c => by omega⟩
  rw [show min (900 * 0) (900 * f + 1) = 0 by omega]
  exact PS_0
end MGE
