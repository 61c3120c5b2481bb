section CPRA
variable {X : JX} {d : Nat} {Q : JQ} {h : JH} {N k : Nat} {t : Nat → Int}
def PFA : List (Nat × Nat) := [(10, 4), (10, 6), (10, 7), (10, 9), (10, 10), (10, 11)]
def PAA : List Nat := [11, 12, 13, 14, 15, 16]
theorem c_hasA (g : G h) (hk : fI h 10 4 = nI k) (k4 : k ≤ 400) {a : Int32} (H1 : ∀ i, i < k → a = nI i → Q (some (.int 1)) h) (H0 : (∀ i, i < k → a ≠ nI i) → Q (some (.int 0)) h) : jex X (d + 1) 55 [.ref 10, .int a] h Q := by
  have ek : (nI k).toInt = (k : Int) := nI_toInt (by omega)
  have no : (¬ (0 ≤ a.toInt ∧ a.toInt < k)) → Q (some (.int 0)) h := fun c => H0 (fun i hi e => c (by rw [e, nI_toInt (by omega)]; omega))
  rw [jE_X5_hasToken]
  refine jT_X5_hasToken_0 ?_
  simp (decide := true) only [jgI_ob, jgf_ob, jgL_ob, jpI_ob, jpL_ob, jpR_ob, jpN_ob, jrc_ob, obj_sV, obj_wF, obj_wG, obj_wR, arr_sV, arr_wF, arr_wG, arr_wR, arL_sV, arL_wF, arL_wG, arL_wR, arR_sV, arR_wF, arR_wG, arR_wR, fI_sV (c := 0), fI_sV (c := 1), fI_sV (c := 2), fI_sV (c := 4), fI_sV (c := 5), fI_sV (c := 7), fI_sV (c := 8), fI_sV (c := 9), fI_sV (c := 10), fI_sV (c := 11), fI_sV (c := 12), fI_sV (c := 6), fL_sV (c := 9), fL_sV (c := 12), fI_sV_k, fL_sV_k, fV_sV_k, fI_wF, fI_wG, fI_wR, fL_wF, fL_wG, fL_wR, fV_wF, fV_wG, fV_wR, aF_sV, aG_sV, aR_sV, aF_wG, aF_wR, aG_wF, aG_wR, aR_wF, aR_wG, kC, kM, gO g, gF g, hk, ti_lt, tl, tn, ek, true_and]
  refine ⟨fun c => no (by omega), fun c => ⟨fun c2 => ⟨fun c3 => H1 a.toInt.toNat (by omega) ?_, fun c3 => no (by omega)⟩, fun c2 => no (by omega)⟩⟩
  rw [ti_eq, nI_toInt (by omega)]
  omega
theorem c_kindA (g : G h) (hk : fI h 10 4 = nI k) (k4 : k ≤ 400) {a : Int32} (H1 : ∀ i, i < k → a = nI i → Q (some (.int (aF h 11 i))) h) (H0 : (∀ i, i < k → a ≠ nI i) → Q (some (.int 1)) h) : jex X (d + 2) 54 [.ref 10, .int a] h Q := by
  rw [jE_X5_kindOf]
  refine jT_X5_kindOf_0 ?_
  rw [jrc_ob (by simp only [gO g])]
  refine c_hasA g hk k4 (fun i hi e => ?_) (fun c => ?_)
  · try dsimp only [jrI, jrN, jrA, jisr, jnul, jcat1]
    refine jif_n (by decide) ?_
    simp (decide := true) only [jgI_ob, jgf_ob, jgL_ob, jpI_ob, jpL_ob, jpR_ob, jpN_ob, jrc_ob, obj_sV, obj_wF, obj_wG, obj_wR, arr_sV, arr_wF, arr_wG, arr_wR, arL_sV, arL_wF, arL_wG, arL_wR, arR_sV, arR_wF, arR_wG, arR_wR, fI_sV (c := 0), fI_sV (c := 1), fI_sV (c := 2), fI_sV (c := 4), fI_sV (c := 5), fI_sV (c := 7), fI_sV (c := 8), fI_sV (c := 9), fI_sV (c := 10), fI_sV (c := 11), fI_sV (c := 12), fI_sV (c := 6), fL_sV (c := 9), fL_sV (c := 12), fI_sV_k, fL_sV_k, fV_sV_k, fI_wF, fI_wG, fI_wR, fL_wF, fL_wG, fL_wR, fV_wF, fV_wG, fV_wR, aF_sV, aG_sV, aR_sV, aF_wG, aF_wR, aG_wF, aG_wR, aR_wF, aR_wG, kC, kM, gO g, gF g]
    refine ⟨by rw [e, vp_inI, nI_toInt (by omega)]; omega, ?_⟩
    have H1 := H1 i hi e
    rw [e, nI_clamp (by omega)]
    exact H1
  · try dsimp only [jrI, jrN, jrA, jisr, jnul, jcat1]
    exact jif_t rfl (H0 c)
theorem c_startA (g : G h) (hk : fI h 10 4 = nI k) (k4 : k ≤ 400) {a : Int32} (H1 : ∀ i, i < k → a = nI i → Q (some (.int (aF h 12 i))) h) (H0 : (∀ i, i < k → a ≠ nI i) → Q (some (.int (-1))) h) : jex X (d + 2) 63 [.ref 10, .int a] h Q := by
  rw [jE_X5_startOf]
  refine jT_X5_startOf_0 ?_
  rw [jrc_ob (by simp only [gO g])]
  refine c_hasA g hk k4 (fun i hi e => ?_) (fun c => ?_)
  · try dsimp only [jrI, jrN, jrA, jisr, jnul, jcat1]
    refine jif_n (by decide) ?_
    simp (decide := true) only [jgI_ob, jgf_ob, jgL_ob, jpI_ob, jpL_ob, jpR_ob, jpN_ob, jrc_ob, obj_sV, obj_wF, obj_wG, obj_wR, arr_sV, arr_wF, arr_wG, arr_wR, arL_sV, arL_wF, arL_wG, arL_wR, arR_sV, arR_wF, arR_wG, arR_wR, fI_sV (c := 0), fI_sV (c := 1), fI_sV (c := 2), fI_sV (c := 4), fI_sV (c := 5), fI_sV (c := 7), fI_sV (c := 8), fI_sV (c := 9), fI_sV (c := 10), fI_sV (c := 11), fI_sV (c := 12), fI_sV (c := 6), fL_sV (c := 9), fL_sV (c := 12), fI_sV_k, fL_sV_k, fV_sV_k, fI_wF, fI_wG, fI_wR, fL_wF, fL_wG, fL_wR, fV_wF, fV_wG, fV_wR, aF_sV, aG_sV, aR_sV, aF_wG, aF_wR, aG_wF, aG_wR, aR_wF, aR_wG, kC, kM, gO g, gF g]
    refine ⟨by rw [e, vp_inI, nI_toInt (by omega)]; omega, ?_⟩
    have H1 := H1 i hi e
    rw [e, nI_clamp (by omega)]
    exact H1
  · try dsimp only [jrI, jrN, jrA, jisr, jnul, jcat1]
    exact jif_t rfl (H0 c)
theorem c_firstA (g : G h) (hk : fI h 10 4 = nI k) (k4 : k ≤ 400) {a : Int32} (H1 : ∀ i, i < k → a = nI i → Q (some (.int (aF h 13 i))) h) (H0 : (∀ i, i < k → a ≠ nI i) → Q (some (.int 0)) h) : jex X (d + 2) 62 [.ref 10, .int a] h Q := by
  rw [jE_X5_firstOf]
  refine jT_X5_firstOf_0 ?_
  rw [jrc_ob (by simp only [gO g])]
  refine c_hasA g hk k4 (fun i hi e => ?_) (fun c => ?_)
  · try dsimp only [jrI, jrN, jrA, jisr, jnul, jcat1]
    refine jif_n (by decide) ?_
    simp (decide := true) only [jgI_ob, jgf_ob, jgL_ob, jpI_ob, jpL_ob, jpR_ob, jpN_ob, jrc_ob, obj_sV, obj_wF, obj_wG, obj_wR, arr_sV, arr_wF, arr_wG, arr_wR, arL_sV, arL_wF, arL_wG, arL_wR, arR_sV, arR_wF, arR_wG, arR_wR, fI_sV (c := 0), fI_sV (c := 1), fI_sV (c := 2), fI_sV (c := 4), fI_sV (c := 5), fI_sV (c := 7), fI_sV (c := 8), fI_sV (c := 9), fI_sV (c := 10), fI_sV (c := 11), fI_sV (c := 12), fI_sV (c := 6), fL_sV (c := 9), fL_sV (c := 12), fI_sV_k, fL_sV_k, fV_sV_k, fI_wF, fI_wG, fI_wR, fL_wF, fL_wG, fL_wR, fV_wF, fV_wG, fV_wR, aF_sV, aG_sV, aR_sV, aF_wG, aF_wR, aG_wF, aG_wR, aR_wF, aR_wG, kC, kM, gO g, gF g]
    refine ⟨by rw [e, vp_inI, nI_toInt (by omega)]; omega, ?_⟩
    have H1 := H1 i hi e
    rw [e, nI_clamp (by omega)]
    exact H1
  · try dsimp only [jrI, jrN, jrA, jisr, jnul, jcat1]
    exact jif_t rfl (H0 c)
theorem c_secondA (g : G h) (hk : fI h 10 4 = nI k) (k4 : k ≤ 400) {a : Int32} (H1 : ∀ i, i < k → a = nI i → Q (some (.int (aF h 14 i))) h) (H0 : (∀ i, i < k → a ≠ nI i) → Q (some (.int 0)) h) : jex X (d + 2) 65 [.ref 10, .int a] h Q := by
  rw [jE_X5_secondOf]
  refine jT_X5_secondOf_0 ?_
  rw [jrc_ob (by simp only [gO g])]
  refine c_hasA g hk k4 (fun i hi e => ?_) (fun c => ?_)
  · try dsimp only [jrI, jrN, jrA, jisr, jnul, jcat1]
    refine jif_n (by decide) ?_
    simp (decide := true) only [jgI_ob, jgf_ob, jgL_ob, jpI_ob, jpL_ob, jpR_ob, jpN_ob, jrc_ob, obj_sV, obj_wF, obj_wG, obj_wR, arr_sV, arr_wF, arr_wG, arr_wR, arL_sV, arL_wF, arL_wG, arL_wR, arR_sV, arR_wF, arR_wG, arR_wR, fI_sV (c := 0), fI_sV (c := 1), fI_sV (c := 2), fI_sV (c := 4), fI_sV (c := 5), fI_sV (c := 7), fI_sV (c := 8), fI_sV (c := 9), fI_sV (c := 10), fI_sV (c := 11), fI_sV (c := 12), fI_sV (c := 6), fL_sV (c := 9), fL_sV (c := 12), fI_sV_k, fL_sV_k, fV_sV_k, fI_wF, fI_wG, fI_wR, fL_wF, fL_wG, fL_wR, fV_wF, fV_wG, fV_wR, aF_sV, aG_sV, aR_sV, aF_wG, aF_wR, aG_wF, aG_wR, aR_wF, aR_wG, kC, kM, gO g, gF g]
    refine ⟨by rw [e, vp_inI, nI_toInt (by omega)]; omega, ?_⟩
    have H1 := H1 i hi e
    rw [e, nI_clamp (by omega)]
    exact H1
  · try dsimp only [jrI, jrN, jrA, jisr, jnul, jcat1]
    exact jif_t rfl (H0 c)
theorem c_setSecA (g : G h) (hk : fI h 10 4 = nI k) (k4 : k ≤ 400) {i : Nat} (hi : i < k) {w : Int32} (H : Q none (wF h 14 (upd (aF h 14) i w))) : jex X (d + 2) 58 [.ref 10, .int (nI i), .int w] h Q := by
  rw [jE_X5_setSecond]
  refine jT_X5_setSecond_0 ?_
  rw [jrc_ob (by simp only [gO g])]
  refine c_hasA g hk k4 (fun j hj e => ?_) (fun c => absurd rfl (c i hi))
  try dsimp only [jrI, jrN, jrA, jisr, jnul, jcat1]
  refine jif_n (by decide) ?_
  simp (decide := true) only [jgI_ob, jgf_ob, jgL_ob, jpI_ob, jpL_ob, jpR_ob, jpN_ob, jrc_ob, obj_sV, obj_wF, obj_wG, obj_wR, arr_sV, arr_wF, arr_wG, arr_wR, arL_sV, arL_wF, arL_wG, arL_wR, arR_sV, arR_wF, arR_wG, arR_wR, fI_sV (c := 0), fI_sV (c := 1), fI_sV (c := 2), fI_sV (c := 4), fI_sV (c := 5), fI_sV (c := 7), fI_sV (c := 8), fI_sV (c := 9), fI_sV (c := 10), fI_sV (c := 11), fI_sV (c := 12), fI_sV (c := 6), fL_sV (c := 9), fL_sV (c := 12), fI_sV_k, fL_sV_k, fV_sV_k, fI_wF, fI_wG, fI_wR, fL_wF, fL_wG, fL_wR, fV_wF, fV_wG, fV_wR, aF_sV, aG_sV, aR_sV, aF_wG, aF_wR, aG_wF, aG_wR, aR_wF, aR_wG, kC, kM, gO g, gF g]
  refine ⟨by rw [vp_inI, nI_toInt (by omega)]; omega, ?_⟩
  rw [nI_clamp (by omega)]
  exact H
theorem c_noteA (g : G h) {a e : Int32} (H1 : fI h 10 10 = 0 → Q none (sV (sV h 10 10 (.int a)) 10 11 (.int e))) (H0 : fI h 10 10 ≠ 0 → Q none h) : jex X (d + 1) 56 [.ref 10, .int a, .int e] h Q := by
  rw [jE_X5_noteFault]
  refine jT_X5_noteFault_0 ?_
  simp (decide := true) only [jgI_ob, jgf_ob, jgL_ob, jpI_ob, jpL_ob, jpR_ob, jpN_ob, jrc_ob, obj_sV, obj_wF, obj_wG, obj_wR, arr_sV, arr_wF, arr_wG, arr_wR, arL_sV, arL_wF, arL_wG, arL_wR, arR_sV, arR_wF, arR_wG, arR_wR, fI_sV (c := 0), fI_sV (c := 1), fI_sV (c := 2), fI_sV (c := 4), fI_sV (c := 5), fI_sV (c := 7), fI_sV (c := 8), fI_sV (c := 9), fI_sV (c := 10), fI_sV (c := 11), fI_sV (c := 12), fI_sV (c := 6), fL_sV (c := 9), fL_sV (c := 12), fI_sV_k, fL_sV_k, fV_sV_k, fI_wF, fI_wG, fI_wR, fL_wF, fL_wG, fL_wR, fV_wF, fV_wG, fV_wR, aF_sV, aG_sV, aR_sV, aF_wG, aF_wR, aG_wF, aG_wR, aR_wF, aR_wG, gO g]
  exact ⟨H1, H0⟩
/-- what is open -/
def ORA (h : JH) (l : List Nat) : Prop := fI h 10 9 = nI l.length ∧ ∀ j, j < l.length → aF h 16 (l.length - 1 - j) = nI (l.getD j 0)
theorem OR_frA {A : List Nat} {F : List (Nat × Nat)} {h1 : JH} {l : List Nat} (x : ORA h l) (a : fr A F h h1) (k1 : (10, 9) ∉ F) (k2 : 16 ∉ A) : ORA h1 l := by
  unfold ORA
  rw [frI a k1 (by decide), frF a k2]
  exact x
theorem c_openA (g : G h) {l : List Nat} (o : ORA h l) (hl : l.length ≤ 6) (H1 : l ≠ [] → Q (some (.int (nI (hd0 l)))) h) (H0 : l = [] → Q (some (.int (-1))) h) : jex X (d + 1) 53 [.ref 10] h Q := by
  rw [jE_X5_openToken]
  refine jT_X5_openToken_0 ?_
  simp (decide := true) only [jgI_ob, jgf_ob, jgL_ob, jpI_ob, jpL_ob, jpR_ob, jpN_ob, jrc_ob, obj_sV, obj_wF, obj_wG, obj_wR, arr_sV, arr_wF, arr_wG, arr_wR, arL_sV, arL_wF, arL_wG, arL_wR, arR_sV, arR_wF, arR_wG, arR_wR, fI_sV (c := 0), fI_sV (c := 1), fI_sV (c := 2), fI_sV (c := 4), fI_sV (c := 5), fI_sV (c := 7), fI_sV (c := 8), fI_sV (c := 9), fI_sV (c := 10), fI_sV (c := 11), fI_sV (c := 12), fI_sV (c := 6), fL_sV (c := 9), fL_sV (c := 12), fI_sV_k, fL_sV_k, fV_sV_k, fI_wF, fI_wG, fI_wR, fL_wF, fL_wG, fL_wR, fV_wF, fV_wG, fV_wR, aF_sV, aG_sV, aR_sV, aF_wG, aF_wR, aG_wF, aG_wR, aR_wF, aR_wG, kC, kM, gO g, gF g, o.1]
  by_cases c : l = []
  · subst c
    exact jif_n (by decide) (H0 rfl)
  · have lp := List.length_pos_iff.mpr c
    refine jif_t (nI_lt (a := 0) lp (by omega)) (jif_n (nI_nlt (a := 6) (by omega) (by omega)) ?_)
    rw [show nI l.length - 1 = nI (l.length - 1) from pk_sub (b := 1) lp]
    refine ⟨by rw [vp_inI, nI_toInt (by omega)]; omega, ?_⟩
    rw [nI_clamp (by omega), show l.length - 1 = l.length - 1 - 0 by omega, o.2 0 lp]
    exact H1 c
theorem c_setOpenA (g : G h) {n : Nat} (h9 : fI h 10 9 = nI n) (n0 : 0 < n) (n6 : n ≤ 6) {w : Int32} (H : Q none (wF h 16 (upd (aF h 16) (n - 1) w))) : jex X (d + 1) 60 [.ref 10, .int w] h Q := by
  rw [jE_X5_setOpen]
  refine jT_X5_setOpen_0 ?_
  simp (decide := true) only [jgI_ob, jgf_ob, jgL_ob, jpI_ob, jpL_ob, jpR_ob, jpN_ob, jrc_ob, obj_sV, obj_wF, obj_wG, obj_wR, arr_sV, arr_wF, arr_wG, arr_wR, arL_sV, arL_wF, arL_wG, arL_wR, arR_sV, arR_wF, arR_wG, arR_wR, fI_sV (c := 0), fI_sV (c := 1), fI_sV (c := 2), fI_sV (c := 4), fI_sV (c := 5), fI_sV (c := 7), fI_sV (c := 8), fI_sV (c := 9), fI_sV (c := 10), fI_sV (c := 11), fI_sV (c := 12), fI_sV (c := 6), fL_sV (c := 9), fL_sV (c := 12), fI_sV_k, fL_sV_k, fV_sV_k, fI_wF, fI_wG, fI_wR, fL_wF, fL_wG, fL_wR, fV_wF, fV_wG, fV_wR, aF_sV, aG_sV, aR_sV, aF_wG, aF_wR, aG_wF, aG_wR, aR_wF, aR_wG, kC, kM, gO g, gF g, h9]
  refine jif_t (nI_lt (a := 0) n0 (by omega)) (jif_n (nI_nlt (a := 6) (by omega) (by omega)) ?_)
  rw [show nI n - 1 = nI (n - 1) from pk_sub (b := 1) n0]
  refine ⟨by rw [vp_inI, nI_toInt (by omega)]; omega, ?_⟩
  rw [nI_clamp (by omega)]
  exact H
/-- the names' table -/
def NRA (h : JH) (t : Nat → Int) (N : Nat) (l : List Nat) : Prop := fI h 10 6 = nI l.length ∧ ∀ j, j < l.length → aG h 15 j = lN (w27 t N (l.getD j 0))
theorem NR_frA {A : List Nat} {F : List (Nat × Nat)} {h1 : JH} {l : List Nat} (x : NRA h t N l) (a : fr A F h h1) (k1 : (10, 6) ∉ F) (k2 : 15 ∉ A) : NRA h1 t N l := by
  unfold NRA
  rw [frI a k1 (by decide), frG a k2]
  exact x
theorem c_nameNumberA (g : G h) {l : List Nat} (nr : NRA h t N l) (hl : l.length ≤ 12) {b : Nat} (hb : tkK t N b = 2) (nm : ∀ j, j < l.length → tkK t N (l.getD j 0) = 2) (H : ∀ h1, fr [15] [(10, 6)] h h1 → (nix t N l b < 12 → NRA h1 t N (if nix t N l b = l.length then l ++ [b] else l)) → Q (some (.int (nI (nix t N l b)))) h1) : jex X (d + 1) 57 [.ref 10, .long (lN (w27 t N b))] h Q := by
  have NEW : (∀ j, j < l.length → w27 t N (l.getD j 0) ≠ w27 t N b) → jgI h (.ref 10) 5 6 (fun x13 => (jgf h (.ref 10) 5 5 fun v14 => (jaln X h v14 fun x15 => (jifp (x13 < x15) (jgf h (.ref 10) 5 5 fun v16 => (jgI h (.ref 10) 5 6 fun x17 => (jwL h v16 x17 (lN (w27 t N b)) fun h18 => (jgI h18 (.ref 10) 5 6 fun x19 => (jpf h18 (.ref 10) 5 6 (.int (x19 + 1)) fun h20 => (jgI h20 (.ref 10) 5 6 fun x21 => (Q (some (.int (x21 - 1))) h20))))))) (Q (some (.int 12)) h))))) := by
    intro c
    have e := nix_none (t := t) (N := N) l b c
    simp (decide := true) only [jgI_ob, jgf_ob, jgL_ob, jpI_ob, jpL_ob, jpR_ob, jpN_ob, jrc_ob, obj_sV, obj_wF, obj_wG, obj_wR, arr_sV, arr_wF, arr_wG, arr_wR, arL_sV, arL_wF, arL_wG, arL_wR, arR_sV, arR_wF, arR_wG, arR_wR, fI_sV (c := 0), fI_sV (c := 1), fI_sV (c := 2), fI_sV (c := 4), fI_sV (c := 5), fI_sV (c := 7), fI_sV (c := 8), fI_sV (c := 9), fI_sV (c := 10), fI_sV (c := 11), fI_sV (c := 12), fI_sV (c := 6), fL_sV (c := 9), fL_sV (c := 12), fI_sV_k, fL_sV_k, fV_sV_k, fI_wF, fI_wG, fI_wR, fL_wF, fL_wG, fL_wR, fV_wF, fV_wG, fV_wR, aF_sV, aG_sV, aR_sV, aF_wG, aF_wR, aG_wF, aG_wR, aR_wF, aR_wG, kC, kM, gO g, gF g, nr.1]
    by_cases c12 : l.length < 12
    · refine jif_t (nI_lt (b := 12) c12 (by omega)) ⟨by rw [vp_inI, nI_toInt (by omega)]; omega, ?_⟩
      rw [nI_clamp (by omega), nI_1, show nI (l.length + 1) - 1 = nI (l.length) from nI_pred _]
      rw [e] at H
      refine H _ (fr_sV (by decide) (fr_wG (by decide) fr_rfl)) (fun _ => ?_)
      rw [if_pos rfl]
      unfold NRA
      rw [List.length_append, List.length_singleton]
      simp (decide := true) only [jgI_ob, jgf_ob, jgL_ob, jpI_ob, jpL_ob, jpR_ob, jpN_ob, jrc_ob, obj_sV, obj_wF, obj_wG, obj_wR, arr_sV, arr_wF, arr_wG, arr_wR, arL_sV, arL_wF, arL_wG, arL_wR, arR_sV, arR_wF, arR_wG, arR_wR, fI_sV (c := 0), fI_sV (c := 1), fI_sV (c := 2), fI_sV (c := 4), fI_sV (c := 5), fI_sV (c := 7), fI_sV (c := 8), fI_sV (c := 9), fI_sV (c := 10), fI_sV (c := 11), fI_sV (c := 12), fI_sV (c := 6), fL_sV (c := 9), fL_sV (c := 12), fI_sV_k, fL_sV_k, fV_sV_k, fI_wF, fI_wG, fI_wR, fL_wF, fL_wG, fL_wR, fV_wF, fV_wG, fV_wR, aF_sV, aG_sV, aR_sV, aF_wG, aF_wR, aG_wF, aG_wR, aR_wF, aR_wG, gO g]
      refine ⟨trivial, fun j hj => ?_⟩
      rw [aG_wG (n := 12) (by simp only [gO g])]
      unfold vp_updL
      by_cases q : j = l.length
      · rw [if_pos q, q, List.getD_eq_getElem?_getD, List.getElem?_append_right (Nat.le_refl _), Nat.sub_self]
        rfl
      · rw [if_neg q, nr.2 j (by omega), List.getD_eq_getElem?_getD, List.getD_eq_getElem?_getD, List.getElem?_append_left (by omega)]
    · have e12 : l.length = 12 := by omega
      refine jif_n (nI_nlt (b := 12) (by omega) (by omega)) ?_
      rw [e, e12] at H
      exact H h fr_rfl (fun q => by omega)
  have L : ∀ (r i : Nat) (c s : Nat), i + r = l.length → (∀ j, j < i → w27 t N (l.getD j 0) ≠ w27 t N b) → jB_X5_nameNumber_2 X d Q 10 (lN (w27 t N b)) (nI i) h c s := by
    intro r
    induction r with
    | zero =>
      intro i c s hi n
      have nw := NEW (fun j hj => n j (by omega))
      refine jT_X5_nameNumber_2 ?_
      rw [jgI_ob (c := 5) (by simp only [gO g]) rfl, nr.1]
      refine jif_n (nI_nlt (by omega) (by omega)) ?_
      exact nw
    | succ r ih =>
      intro i c s hi n
      refine jT_X5_nameNumber_2 ?_
      rw [jgI_ob (c := 5) (by simp only [gO g]) rfl, nr.1]
      refine jif_t (nI_lt (by omega) (by omega)) ?_
      simp (decide := true) only [jgI_ob, jgf_ob, jgL_ob, jpI_ob, jpL_ob, jpR_ob, jpN_ob, jrc_ob, obj_sV, obj_wF, obj_wG, obj_wR, arr_sV, arr_wF, arr_wG, arr_wR, arL_sV, arL_wF, arL_wG, arL_wR, arR_sV, arR_wF, arR_wG, arR_wR, fI_sV (c := 0), fI_sV (c := 1), fI_sV (c := 2), fI_sV (c := 4), fI_sV (c := 5), fI_sV (c := 7), fI_sV (c := 8), fI_sV (c := 9), fI_sV (c := 10), fI_sV (c := 11), fI_sV (c := 12), fI_sV (c := 6), fL_sV (c := 9), fL_sV (c := 12), fI_sV_k, fL_sV_k, fV_sV_k, fI_wF, fI_wG, fI_wR, fL_wF, fL_wG, fL_wR, fV_wF, fV_wG, fV_wR, aF_sV, aG_sV, aR_sV, aF_wG, aF_wR, aG_wF, aG_wR, aR_wF, aR_wG, kC, kM, gO g, gF g]
      refine jif_t (nI_lt (b := 12) (by omega) (by omega)) ⟨by rw [vp_inI, nI_toInt (by omega)]; omega, ?_⟩
      rw [nI_clamp (by omega), nr.2 i (by omega)]
      refine ⟨fun e => ?_, fun e => ?_⟩
      · rw [lg_cmp_eq, lN_big (w27_lt (nm i (by omega))) (w27_lt hb)] at e
        have ix := nix_at (t := t) (N := N) l i b (by omega) n e
        rw [ix] at H
        refine H h fr_rfl (fun _ => ?_)
        rw [if_neg (by omega)]
        exact nr
      · rw [nI_1]
        refine ih (i + 1) c s (by omega) (fun j hj => ?_)
        by_cases q : j = i
        · subst q
          intro q2
          exact e (by rw [lg_cmp_eq, q2])
        · exact n j (by omega)
  rw [jE_X5_nameNumber]
  refine jT_X5_nameNumber_0 ?_
  exact L l.length 0 _ _ (by omega) (fun j hj => by omega)
end CPRA
section CPRB
variable {X : JX} {d : Nat} {Q : JQ} {h : JH} {N k : Nat} {t : Nat → Int}
def PFB : List (Nat × Nat) := [(17, 4), (17, 6), (17, 7), (17, 9), (17, 10), (17, 11)]
def PAB : List Nat := [18, 19, 20, 21, 22, 23]
theorem c_hasB (g : G h) (hk : fI h 17 4 = nI k) (k4 : k ≤ 400) {a : Int32} (H1 : ∀ i, i < k → a = nI i → Q (some (.int 1)) h) (H0 : (∀ i, i < k → a ≠ nI i) → Q (some (.int 0)) h) : jex X (d + 1) 55 [.ref 17, .int a] h Q := by
  have ek : (nI k).toInt = (k : Int) := nI_toInt (by omega)
  have no : (¬ (0 ≤ a.toInt ∧ a.toInt < k)) → Q (some (.int 0)) h := fun c => H0 (fun i hi e => c (by rw [e, nI_toInt (by omega)]; omega))
  rw [jE_X5_hasToken]
  refine jT_X5_hasToken_0 ?_
  simp (decide := true) only [jgI_ob, jgf_ob, jgL_ob, jpI_ob, jpL_ob, jpR_ob, jpN_ob, jrc_ob, obj_sV, obj_wF, obj_wG, obj_wR, arr_sV, arr_wF, arr_wG, arr_wR, arL_sV, arL_wF, arL_wG, arL_wR, arR_sV, arR_wF, arR_wG, arR_wR, fI_sV (c := 0), fI_sV (c := 1), fI_sV (c := 2), fI_sV (c := 4), fI_sV (c := 5), fI_sV (c := 7), fI_sV (c := 8), fI_sV (c := 9), fI_sV (c := 10), fI_sV (c := 11), fI_sV (c := 12), fI_sV (c := 6), fL_sV (c := 9), fL_sV (c := 12), fI_sV_k, fL_sV_k, fV_sV_k, fI_wF, fI_wG, fI_wR, fL_wF, fL_wG, fL_wR, fV_wF, fV_wG, fV_wR, aF_sV, aG_sV, aR_sV, aF_wG, aF_wR, aG_wF, aG_wR, aR_wF, aR_wG, kC, kM, gO g, gF g, hk, ti_lt, tl, tn, ek, true_and]
  refine ⟨fun c => no (by omega), fun c => ⟨fun c2 => ⟨fun c3 => H1 a.toInt.toNat (by omega) ?_, fun c3 => no (by omega)⟩, fun c2 => no (by omega)⟩⟩
  rw [ti_eq, nI_toInt (by omega)]
  omega
theorem c_kindB (g : G h) (hk : fI h 17 4 = nI k) (k4 : k ≤ 400) {a : Int32} (H1 : ∀ i, i < k → a = nI i → Q (some (.int (aF h 18 i))) h) (H0 : (∀ i, i < k → a ≠ nI i) → Q (some (.int 1)) h) : jex X (d + 2) 54 [.ref 17, .int a] h Q := by
  rw [jE_X5_kindOf]
  refine jT_X5_kindOf_0 ?_
  rw [jrc_ob (by simp only [gO g])]
  refine c_hasB g hk k4 (fun i hi e => ?_) (fun c => ?_)
  · try dsimp only [jrI, jrN, jrA, jisr, jnul, jcat1]
    refine jif_n (by decide) ?_
    simp (decide := true) only [jgI_ob, jgf_ob, jgL_ob, jpI_ob, jpL_ob, jpR_ob, jpN_ob, jrc_ob, obj_sV, obj_wF, obj_wG, obj_wR, arr_sV, arr_wF, arr_wG, arr_wR, arL_sV, arL_wF, arL_wG, arL_wR, arR_sV, arR_wF, arR_wG, arR_wR, fI_sV (c := 0), fI_sV (c := 1), fI_sV (c := 2), fI_sV (c := 4), fI_sV (c := 5), fI_sV (c := 7), fI_sV (c := 8), fI_sV (c := 9), fI_sV (c := 10), fI_sV (c := 11), fI_sV (c := 12), fI_sV (c := 6), fL_sV (c := 9), fL_sV (c := 12), fI_sV_k, fL_sV_k, fV_sV_k, fI_wF, fI_wG, fI_wR, fL_wF, fL_wG, fL_wR, fV_wF, fV_wG, fV_wR, aF_sV, aG_sV, aR_sV, aF_wG, aF_wR, aG_wF, aG_wR, aR_wF, aR_wG, kC, kM, gO g, gF g]
    refine ⟨by rw [e, vp_inI, nI_toInt (by omega)]; omega, ?_⟩
    have H1 := H1 i hi e
    rw [e, nI_clamp (by omega)]
    exact H1
  · try dsimp only [jrI, jrN, jrA, jisr, jnul, jcat1]
    exact jif_t rfl (H0 c)
theorem c_startB (g : G h) (hk : fI h 17 4 = nI k) (k4 : k ≤ 400) {a : Int32} (H1 : ∀ i, i < k → a = nI i → Q (some (.int (aF h 19 i))) h) (H0 : (∀ i, i < k → a ≠ nI i) → Q (some (.int (-1))) h) : jex X (d + 2) 63 [.ref 17, .int a] h Q := by
  rw [jE_X5_startOf]
  refine jT_X5_startOf_0 ?_
  rw [jrc_ob (by simp only [gO g])]
  refine c_hasB g hk k4 (fun i hi e => ?_) (fun c => ?_)
  · try dsimp only [jrI, jrN, jrA, jisr, jnul, jcat1]
    refine jif_n (by decide) ?_
    simp (decide := true) only [jgI_ob, jgf_ob, jgL_ob, jpI_ob, jpL_ob, jpR_ob, jpN_ob, jrc_ob, obj_sV, obj_wF, obj_wG, obj_wR, arr_sV, arr_wF, arr_wG, arr_wR, arL_sV, arL_wF, arL_wG, arL_wR, arR_sV, arR_wF, arR_wG, arR_wR, fI_sV (c := 0), fI_sV (c := 1), fI_sV (c := 2), fI_sV (c := 4), fI_sV (c := 5), fI_sV (c := 7), fI_sV (c := 8), fI_sV (c := 9), fI_sV (c := 10), fI_sV (c := 11), fI_sV (c := 12), fI_sV (c := 6), fL_sV (c := 9), fL_sV (c := 12), fI_sV_k, fL_sV_k, fV_sV_k, fI_wF, fI_wG, fI_wR, fL_wF, fL_wG, fL_wR, fV_wF, fV_wG, fV_wR, aF_sV, aG_sV, aR_sV, aF_wG, aF_wR, aG_wF, aG_wR, aR_wF, aR_wG, kC, kM, gO g, gF g]
    refine ⟨by rw [e, vp_inI, nI_toInt (by omega)]; omega, ?_⟩
    have H1 := H1 i hi e
    rw [e, nI_clamp (by omega)]
    exact H1
  · try dsimp only [jrI, jrN, jrA, jisr, jnul, jcat1]
    exact jif_t rfl (H0 c)
theorem c_firstB (g : G h) (hk : fI h 17 4 = nI k) (k4 : k ≤ 400) {a : Int32} (H1 : ∀ i, i < k → a = nI i → Q (some (.int (aF h 20 i))) h) (H0 : (∀ i, i < k → a ≠ nI i) → Q (some (.int 0)) h) : jex X (d + 2) 62 [.ref 17, .int a] h Q := by
  rw [jE_X5_firstOf]
  refine jT_X5_firstOf_0 ?_
  rw [jrc_ob (by simp only [gO g])]
  refine c_hasB g hk k4 (fun i hi e => ?_) (fun c => ?_)
  · try dsimp only [jrI, jrN, jrA, jisr, jnul, jcat1]
    refine jif_n (by decide) ?_
    simp (decide := true) only [jgI_ob, jgf_ob, jgL_ob, jpI_ob, jpL_ob, jpR_ob, jpN_ob, jrc_ob, obj_sV, obj_wF, obj_wG, obj_wR, arr_sV, arr_wF, arr_wG, arr_wR, arL_sV, arL_wF, arL_wG, arL_wR, arR_sV, arR_wF, arR_wG, arR_wR, fI_sV (c := 0), fI_sV (c := 1), fI_sV (c := 2), fI_sV (c := 4), fI_sV (c := 5), fI_sV (c := 7), fI_sV (c := 8), fI_sV (c := 9), fI_sV (c := 10), fI_sV (c := 11), fI_sV (c := 12), fI_sV (c := 6), fL_sV (c := 9), fL_sV (c := 12), fI_sV_k, fL_sV_k, fV_sV_k, fI_wF, fI_wG, fI_wR, fL_wF, fL_wG, fL_wR, fV_wF, fV_wG, fV_wR, aF_sV, aG_sV, aR_sV, aF_wG, aF_wR, aG_wF, aG_wR, aR_wF, aR_wG, kC, kM, gO g, gF g]
    refine ⟨by rw [e, vp_inI, nI_toInt (by omega)]; omega, ?_⟩
    have H1 := H1 i hi e
    rw [e, nI_clamp (by omega)]
    exact H1
  · try dsimp only [jrI, jrN, jrA, jisr, jnul, jcat1]
    exact jif_t rfl (H0 c)
theorem c_secondB (g : G h) (hk : fI h 17 4 = nI k) (k4 : k ≤ 400) {a : Int32} (H1 : ∀ i, i < k → a = nI i → Q (some (.int (aF h 21 i))) h) (H0 : (∀ i, i < k → a ≠ nI i) → Q (some (.int 0)) h) : jex X (d + 2) 65 [.ref 17, .int a] h Q := by
  rw [jE_X5_secondOf]
  refine jT_X5_secondOf_0 ?_
  rw [jrc_ob (by simp only [gO g])]
  refine c_hasB g hk k4 (fun i hi e => ?_) (fun c => ?_)
  · try dsimp only [jrI, jrN, jrA, jisr, jnul, jcat1]
    refine jif_n (by decide) ?_
    simp (decide := true) only [jgI_ob, jgf_ob, jgL_ob, jpI_ob, jpL_ob, jpR_ob, jpN_ob, jrc_ob, obj_sV, obj_wF, obj_wG, obj_wR, arr_sV, arr_wF, arr_wG, arr_wR, arL_sV, arL_wF, arL_wG, arL_wR, arR_sV, arR_wF, arR_wG, arR_wR, fI_sV (c := 0), fI_sV (c := 1), fI_sV (c := 2), fI_sV (c := 4), fI_sV (c := 5), fI_sV (c := 7), fI_sV (c := 8), fI_sV (c := 9), fI_sV (c := 10), fI_sV (c := 11), fI_sV (c := 12), fI_sV (c := 6), fL_sV (c := 9), fL_sV (c := 12), fI_sV_k, fL_sV_k, fV_sV_k, fI_wF, fI_wG, fI_wR, fL_wF, fL_wG, fL_wR, fV_wF, fV_wG, fV_wR, aF_sV, aG_sV, aR_sV, aF_wG, aF_wR, aG_wF, aG_wR, aR_wF, aR_wG, kC, kM, gO g, gF g]
    refine ⟨by rw [e, vp_inI, nI_toInt (by omega)]; omega, ?_⟩
    have H1 := H1 i hi e
    rw [e, nI_clamp (by omega)]
    exact H1
  · try dsimp only [jrI, jrN, jrA, jisr, jnul, jcat1]
    exact jif_t rfl (H0 c)
theorem c_setSecB (g : G h) (hk : fI h 17 4 = nI k) (k4 : k ≤ 400) {i : Nat} (hi : i < k) {w : Int32} (H : Q none (wF h 21 (upd (aF h 21) i w))) : jex X (d + 2) 58 [.ref 17, .int (nI i), .int w] h Q := by
  rw [jE_X5_setSecond]
  refine jT_X5_setSecond_0 ?_
  rw [jrc_ob (by simp only [gO g])]
  refine c_hasB g hk k4 (fun j hj e => ?_) (fun c => absurd rfl (c i hi))
  try dsimp only [jrI, jrN, jrA, jisr, jnul, jcat1]
  refine jif_n (by decide) ?_
  simp (decide := true) only [jgI_ob, jgf_ob, jgL_ob, jpI_ob, jpL_ob, jpR_ob, jpN_ob, jrc_ob, obj_sV, obj_wF, obj_wG, obj_wR, arr_sV, arr_wF, arr_wG, arr_wR, arL_sV, arL_wF, arL_wG, arL_wR, arR_sV, arR_wF, arR_wG, arR_wR, fI_sV (c := 0), fI_sV (c := 1), fI_sV (c := 2), fI_sV (c := 4), fI_sV (c := 5), fI_sV (c := 7), fI_sV (c := 8), fI_sV (c := 9), fI_sV (c := 10), fI_sV (c := 11), fI_sV (c := 12), fI_sV (c := 6), fL_sV (c := 9), fL_sV (c := 12), fI_sV_k, fL_sV_k, fV_sV_k, fI_wF, fI_wG, fI_wR, fL_wF, fL_wG, fL_wR, fV_wF, fV_wG, fV_wR, aF_sV, aG_sV, aR_sV, aF_wG, aF_wR, aG_wF, aG_wR, aR_wF, aR_wG, kC, kM, gO g, gF g]
  refine ⟨by rw [vp_inI, nI_toInt (by omega)]; omega, ?_⟩
  rw [nI_clamp (by omega)]
  exact H
theorem c_noteB (g : G h) {a e : Int32} (H1 : fI h 17 10 = 0 → Q none (sV (sV h 17 10 (.int a)) 17 11 (.int e))) (H0 : fI h 17 10 ≠ 0 → Q none h) : jex X (d + 1) 56 [.ref 17, .int a, .int e] h Q := by
  rw [jE_X5_noteFault]
  refine jT_X5_noteFault_0 ?_
  simp (decide := true) only [jgI_ob, jgf_ob, jgL_ob, jpI_ob, jpL_ob, jpR_ob, jpN_ob, jrc_ob, obj_sV, obj_wF, obj_wG, obj_wR, arr_sV, arr_wF, arr_wG, arr_wR, arL_sV, arL_wF, arL_wG, arL_wR, arR_sV, arR_wF, arR_wG, arR_wR, fI_sV (c := 0), fI_sV (c := 1), fI_sV (c := 2), fI_sV (c := 4), fI_sV (c := 5), fI_sV (c := 7), fI_sV (c := 8), fI_sV (c := 9), fI_sV (c := 10), fI_sV (c := 11), fI_sV (c := 12), fI_sV (c := 6), fL_sV (c := 9), fL_sV (c := 12), fI_sV_k, fL_sV_k, fV_sV_k, fI_wF, fI_wG, fI_wR, fL_wF, fL_wG, fL_wR, fV_wF, fV_wG, fV_wR, aF_sV, aG_sV, aR_sV, aF_wG, aF_wR, aG_wF, aG_wR, aR_wF, aR_wG, gO g]
  exact ⟨H1, H0⟩
/-- what is open -/
def ORB (h : JH) (l : List Nat) : Prop := fI h 17 9 = nI l.length ∧ ∀ j, j < l.length → aF h 23 (l.length - 1 - j) = nI (l.getD j 0)
theorem OR_frB {A : List Nat} {F : List (Nat × Nat)} {h1 : JH} {l : List Nat} (x : ORB h l) (a : fr A F h h1) (k1 : (17, 9) ∉ F) (k2 : 23 ∉ A) : ORB h1 l := by
  unfold ORB
  rw [frI a k1 (by decide), frF a k2]
  exact x
theorem c_openB (g : G h) {l : List Nat} (o : ORB h l) (hl : l.length ≤ 6) (H1 : l ≠ [] → Q (some (.int (nI (hd0 l)))) h) (H0 : l = [] → Q (some (.int (-1))) h) : jex X (d + 1) 53 [.ref 17] h Q := by
  rw [jE_X5_openToken]
  refine jT_X5_openToken_0 ?_
  simp (decide := true) only [jgI_ob, jgf_ob, jgL_ob, jpI_ob, jpL_ob, jpR_ob, jpN_ob, jrc_ob, obj_sV, obj_wF, obj_wG, obj_wR, arr_sV, arr_wF, arr_wG, arr_wR, arL_sV, arL_wF, arL_wG, arL_wR, arR_sV, arR_wF, arR_wG, arR_wR, fI_sV (c := 0), fI_sV (c := 1), fI_sV (c := 2), fI_sV (c := 4), fI_sV (c := 5), fI_sV (c := 7), fI_sV (c := 8), fI_sV (c := 9), fI_sV (c := 10), fI_sV (c := 11), fI_sV (c := 12), fI_sV (c := 6), fL_sV (c := 9), fL_sV (c := 12), fI_sV_k, fL_sV_k, fV_sV_k, fI_wF, fI_wG, fI_wR, fL_wF, fL_wG, fL_wR, fV_wF, fV_wG, fV_wR, aF_sV, aG_sV, aR_sV, aF_wG, aF_wR, aG_wF, aG_wR, aR_wF, aR_wG, kC, kM, gO g, gF g, o.1]
  by_cases c : l = []
  · subst c
    exact jif_n (by decide) (H0 rfl)
  · have lp := List.length_pos_iff.mpr c
    refine jif_t (nI_lt (a := 0) lp (by omega)) (jif_n (nI_nlt (a := 6) (by omega) (by omega)) ?_)
    rw [show nI l.length - 1 = nI (l.length - 1) from pk_sub (b := 1) lp]
    refine ⟨by rw [vp_inI, nI_toInt (by omega)]; omega, ?_⟩
    rw [nI_clamp (by omega), show l.length - 1 = l.length - 1 - 0 by omega, o.2 0 lp]
    exact H1 c
theorem c_setOpenB (g : G h) {n : Nat} (h9 : fI h 17 9 = nI n) (n0 : 0 < n) (n6 : n ≤ 6) {w : Int32} (H : Q none (wF h 23 (upd (aF h 23) (n - 1) w))) : jex X (d + 1) 60 [.ref 17, .int w] h Q := by
  rw [jE_X5_setOpen]
  refine jT_X5_setOpen_0 ?_
  simp (decide := true) only [jgI_ob, jgf_ob, jgL_ob, jpI_ob, jpL_ob, jpR_ob, jpN_ob, jrc_ob, obj_sV, obj_wF, obj_wG, obj_wR, arr_sV, arr_wF, arr_wG, arr_wR, arL_sV, arL_wF, arL_wG, arL_wR, arR_sV, arR_wF, arR_wG, arR_wR, fI_sV (c := 0), fI_sV (c := 1), fI_sV (c := 2), fI_sV (c := 4), fI_sV (c := 5), fI_sV (c := 7), fI_sV (c := 8), fI_sV (c := 9), fI_sV (c := 10), fI_sV (c := 11), fI_sV (c := 12), fI_sV (c := 6), fL_sV (c := 9), fL_sV (c := 12), fI_sV_k, fL_sV_k, fV_sV_k, fI_wF, fI_wG, fI_wR, fL_wF, fL_wG, fL_wR, fV_wF, fV_wG, fV_wR, aF_sV, aG_sV, aR_sV, aF_wG, aF_wR, aG_wF, aG_wR, aR_wF, aR_wG, kC, kM, gO g, gF g, h9]
  refine jif_t (nI_lt (a := 0) n0 (by omega)) (jif_n (nI_nlt (a := 6) (by omega) (by omega)) ?_)
  rw [show nI n - 1 = nI (n - 1) from pk_sub (b := 1) n0]
  refine ⟨by rw [vp_inI, nI_toInt (by omega)]; omega, ?_⟩
  rw [nI_clamp (by omega)]
  exact H
/-- the names' table -/
def NRB (h : JH) (t : Nat → Int) (N : Nat) (l : List Nat) : Prop := fI h 17 6 = nI l.length ∧ ∀ j, j < l.length → aG h 22 j = lN (w27 t N (l.getD j 0))
theorem NR_frB {A : List Nat} {F : List (Nat × Nat)} {h1 : JH} {l : List Nat} (x : NRB h t N l) (a : fr A F h h1) (k1 : (17, 6) ∉ F) (k2 : 22 ∉ A) : NRB h1 t N l := by
  unfold NRB
  rw [frI a k1 (by decide), frG a k2]
  exact x
theorem c_nameNumberB (g : G h) {l : List Nat} (nr : NRB h t N l) (hl : l.length ≤ 12) {b : Nat} (hb : tkK t N b = 2) (nm : ∀ j, j < l.length → tkK t N (l.getD j 0) = 2) (H : ∀ h1, fr [22] [(17, 6)] h h1 → (nix t N l b < 12 → NRB h1 t N (if nix t N l b = l.length then l ++ [b] else l)) → Q (some (.int (nI (nix t N l b)))) h1) : jex X (d + 1) 57 [.ref 17, .long (lN (w27 t N b))] h Q := by
  have NEW : (∀ j, j < l.length → w27 t N (l.getD j 0) ≠ w27 t N b) → jgI h (.ref 17) 5 6 (fun x13 => (jgf h (.ref 17) 5 5 fun v14 => (jaln X h v14 fun x15 => (jifp (x13 < x15) (jgf h (.ref 17) 5 5 fun v16 => (jgI h (.ref 17) 5 6 fun x17 => (jwL h v16 x17 (lN (w27 t N b)) fun h18 => (jgI h18 (.ref 17) 5 6 fun x19 => (jpf h18 (.ref 17) 5 6 (.int (x19 + 1)) fun h20 => (jgI h20 (.ref 17) 5 6 fun x21 => (Q (some (.int (x21 - 1))) h20))))))) (Q (some (.int 12)) h))))) := by
    intro c
    have e := nix_none (t := t) (N := N) l b c
    simp (decide := true) only [jgI_ob, jgf_ob, jgL_ob, jpI_ob, jpL_ob, jpR_ob, jpN_ob, jrc_ob, obj_sV, obj_wF, obj_wG, obj_wR, arr_sV, arr_wF, arr_wG, arr_wR, arL_sV, arL_wF, arL_wG, arL_wR, arR_sV, arR_wF, arR_wG, arR_wR, fI_sV (c := 0), fI_sV (c := 1), fI_sV (c := 2), fI_sV (c := 4), fI_sV (c := 5), fI_sV (c := 7), fI_sV (c := 8), fI_sV (c := 9), fI_sV (c := 10), fI_sV (c := 11), fI_sV (c := 12), fI_sV (c := 6), fL_sV (c := 9), fL_sV (c := 12), fI_sV_k, fL_sV_k, fV_sV_k, fI_wF, fI_wG, fI_wR, fL_wF, fL_wG, fL_wR, fV_wF, fV_wG, fV_wR, aF_sV, aG_sV, aR_sV, aF_wG, aF_wR, aG_wF, aG_wR, aR_wF, aR_wG, kC, kM, gO g, gF g, nr.1]
    by_cases c12 : l.length < 12
    · refine jif_t (nI_lt (b := 12) c12 (by omega)) ⟨by rw [vp_inI, nI_toInt (by omega)]; omega, ?_⟩
      rw [nI_clamp (by omega), nI_1, show nI (l.length + 1) - 1 = nI (l.length) from nI_pred _]
      rw [e] at H
      refine H _ (fr_sV (by decide) (fr_wG (by decide) fr_rfl)) (fun _ => ?_)
      rw [if_pos rfl]
      unfold NRB
      rw [List.length_append, List.length_singleton]
      simp (decide := true) only [jgI_ob, jgf_ob, jgL_ob, jpI_ob, jpL_ob, jpR_ob, jpN_ob, jrc_ob, obj_sV, obj_wF, obj_wG, obj_wR, arr_sV, arr_wF, arr_wG, arr_wR, arL_sV, arL_wF, arL_wG, arL_wR, arR_sV, arR_wF, arR_wG, arR_wR, fI_sV (c := 0), fI_sV (c := 1), fI_sV (c := 2), fI_sV (c := 4), fI_sV (c := 5), fI_sV (c := 7), fI_sV (c := 8), fI_sV (c := 9), fI_sV (c := 10), fI_sV (c := 11), fI_sV (c := 12), fI_sV (c := 6), fL_sV (c := 9), fL_sV (c := 12), fI_sV_k, fL_sV_k, fV_sV_k, fI_wF, fI_wG, fI_wR, fL_wF, fL_wG, fL_wR, fV_wF, fV_wG, fV_wR, aF_sV, aG_sV, aR_sV, aF_wG, aF_wR, aG_wF, aG_wR, aR_wF, aR_wG, gO g]
      refine ⟨trivial, fun j hj => ?_⟩
      rw [aG_wG (n := 12) (by simp only [gO g])]
      unfold vp_updL
      by_cases q : j = l.length
      · rw [if_pos q, q, List.getD_eq_getElem?_getD, List.getElem?_append_right (Nat.le_refl _), Nat.sub_self]
        rfl
      · rw [if_neg q, nr.2 j (by omega), List.getD_eq_getElem?_getD, List.getD_eq_getElem?_getD, List.getElem?_append_left (by omega)]
    · have e12 : l.length = 12 := by omega
      refine jif_n (nI_nlt (b := 12) (by omega) (by omega)) ?_
      rw [e, e12] at H
      exact H h fr_rfl (fun q => by omega)
  have L : ∀ (r i : Nat) (c s : Nat), i + r = l.length → (∀ j, j < i → w27 t N (l.getD j 0) ≠ w27 t N b) → jB_X5_nameNumber_2 X d Q 17 (lN (w27 t N b)) (nI i) h c s := by
    intro r
    induction r with
    | zero =>
      intro i c s hi n
      have nw := NEW (fun j hj => n j (by omega))
      refine jT_X5_nameNumber_2 ?_
      rw [jgI_ob (c := 5) (by simp only [gO g]) rfl, nr.1]
      refine jif_n (nI_nlt (by omega) (by omega)) ?_
      exact nw
    | succ r ih =>
      intro i c s hi n
      refine jT_X5_nameNumber_2 ?_
      rw [jgI_ob (c := 5) (by simp only [gO g]) rfl, nr.1]
      refine jif_t (nI_lt (by omega) (by omega)) ?_
      simp (decide := true) only [jgI_ob, jgf_ob, jgL_ob, jpI_ob, jpL_ob, jpR_ob, jpN_ob, jrc_ob, obj_sV, obj_wF, obj_wG, obj_wR, arr_sV, arr_wF, arr_wG, arr_wR, arL_sV, arL_wF, arL_wG, arL_wR, arR_sV, arR_wF, arR_wG, arR_wR, fI_sV (c := 0), fI_sV (c := 1), fI_sV (c := 2), fI_sV (c := 4), fI_sV (c := 5), fI_sV (c := 7), fI_sV (c := 8), fI_sV (c := 9), fI_sV (c := 10), fI_sV (c := 11), fI_sV (c := 12), fI_sV (c := 6), fL_sV (c := 9), fL_sV (c := 12), fI_sV_k, fL_sV_k, fV_sV_k, fI_wF, fI_wG, fI_wR, fL_wF, fL_wG, fL_wR, fV_wF, fV_wG, fV_wR, aF_sV, aG_sV, aR_sV, aF_wG, aF_wR, aG_wF, aG_wR, aR_wF, aR_wG, kC, kM, gO g, gF g]
      refine jif_t (nI_lt (b := 12) (by omega) (by omega)) ⟨by rw [vp_inI, nI_toInt (by omega)]; omega, ?_⟩
      rw [nI_clamp (by omega), nr.2 i (by omega)]
      refine ⟨fun e => ?_, fun e => ?_⟩
      · rw [lg_cmp_eq, lN_big (w27_lt (nm i (by omega))) (w27_lt hb)] at e
        have ix := nix_at (t := t) (N := N) l i b (by omega) n e
        rw [ix] at H
        refine H h fr_rfl (fun _ => ?_)
        rw [if_neg (by omega)]
        exact nr
      · rw [nI_1]
        refine ih (i + 1) c s (by omega) (fun j hj => ?_)
        by_cases q : j = i
        · subst q
          intro q2
          exact e (by rw [lg_cmp_eq, q2])
        · exact n j (by omega)
  rw [jE_X5_nameNumber]
  refine jT_X5_nameNumber_0 ?_
  exact L l.length 0 _ _ (by omega) (fun j hj => by omega)
end CPRB
