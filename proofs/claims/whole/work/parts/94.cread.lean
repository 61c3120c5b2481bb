/-! READING: the class's call; values that are kept -/
/-- the objects of values: place i of the array at 25, at 26 -/
def kvo (q i : Nat) : Nat := if q = 25 then 27 + 2 * i else 28 + 2 * i
def vF : List (Nat × Nat) := (List.range 24).map (fun i => (27 + i, 0))
theorem vF_m {q i : Nat} (hi : i < 12) : (kvo q i, 0) ∈ vF := by
  unfold vF kvo
  refine List.mem_map.mpr ?_
  by_cases c : q = 25
  · rw [if_pos c]; exact ⟨2 * i, List.mem_range.mpr (by omega), rfl⟩
  · rw [if_neg c]
    refine ⟨2 * i + 1, List.mem_range.mpr (by omega), ?_⟩
    rw [show 27 + (2 * i + 1) = 28 + 2 * i by omega]
theorem kv_obj {h : JH} (g : G h) {i : Nat} (hi : i < 12) : obj h (27 + 2 * i) 10 ∧ obj h (28 + 2 * i) 10 := by
  rcases (show i = 0 ∨ i = 1 ∨ i = 2 ∨ i = 3 ∨ i = 4 ∨ i = 5 ∨ i = 6 ∨ i = 7 ∨ i = 8 ∨ i = 9 ∨ i = 10 ∨ i = 11 by omega) with e | e | e | e | e | e | e | e | e | e | e | e <;> subst e <;> simp only [gO g, Nat.reduceMul, Nat.reduceAdd, and_self]
theorem kvo_obj {h : JH} (g : G h) {q i : Nat} (hi : i < 12) : obj h (kvo q i) 10 := by
  unfold kvo
  split
  · exact (kv_obj g hi).1
  · exact (kv_obj g hi).2
theorem kvo_inj {q i j : Nat} (h : kvo q i = kvo q j) : i = j := by
  unfold kvo at h
  split at h <;> omega
theorem kv_at {h : JH} (g : G h) {q i : Nat} (hq : q = 25 ∨ q = 26) (hi : i < 12) : aR h q i = some (kvo q i) := by
  have k := g.2.2.1 i hi
  rcases hq with e | e <;> subst e
  · exact k.1
  · exact k.2
theorem kv_arr {h : JH} (g : G h) {q : Nat} (hq : q = 25 ∨ q = 26) : arR h q 10 12 := by
  rcases hq with e | e <;> subst e <;> simp only [gO g]
section UNT
variable {X : JX} {d : Nat} {Q : JQ} {h : JH}
/-- no value is told any more -/
theorem c_untell (g : G h) {q : Nat} (hq : q = 25 ∨ q = 26) (H : ∀ h1, fr [] vF h h1 → (∀ i, i < 12 → fI h1 (kvo q i) 0 = 0) → (∀ p k, (∀ i, i < 12 → p ≠ kvo q i) → fV h1 p k = fV h p k) → Q none h1) : jex X (d + 1) 67 [.ref q] h Q := by
  have ar := kv_arr g hq
  have L : ∀ (r n : Nat) (h1 : JH) (c s : Nat), n + r = 12 → fr [] vF h h1 → (∀ i, i < n → fI h1 (kvo q i) 0 = 0) → (∀ p k, (∀ i, i < 12 → p ≠ kvo q i) → fV h1 p k = fV h p k) → jB_X7_untell_2 X d Q (.ref q) (nI n) h1 c s := by
    intro r
    induction r with
    | zero =>
      intro n h1 c s hn k1 z u
      have g1 := G_fr g (by decide) k1
      have ar1 := kv_arr g1 hq
      refine jT_X7_untell_2 ?_
      dsimp only [jisr]
      rw [jaln_arR ar1]
      refine jif_n (nI_nlt (a := n) (b := 12) (by omega) (by omega)) (H h1 k1 (fun i hi => z i (by omega)) u)
    | succ r ih =>
      intro n h1 c s hn k1 z u
      have g1 := G_fr g (by decide) k1
      have ar1 := kv_arr g1 hq
      have hn12 : n < 12 := by omega
      have ob := kvo_obj g1 (q := q) hn12
      refine jT_X7_untell_2 ?_
      dsimp only [jisr]
      rw [jaln_arR ar1]
      refine jif_t (nI_lt (b := 12) (by omega) (by omega)) ?_
      rw [jaA_ar ar1]
      refine ⟨by rw [vp_inI, nI_toInt (by omega)]; omega, ?_⟩
      rw [nI_clamp (by omega), kv_at g1 hq hn12]
      change jisr (.ref q) _
      dsimp only [jisr]
      rw [jaA_ar ar1]
      refine ⟨by rw [vp_inI, nI_toInt (by omega)]; omega, ?_⟩
      rw [nI_clamp (by omega), kv_at g1 hq hn12]
      refine ⟨Or.inl rfl, ?_⟩
      change jpf h1 (.ref (kvo q n)) 10 0 (.int 0) _
      rw [jpI_ob ob rfl, nI_1]
      refine ih (n + 1) _ _ _ (by omega) (fr_sV (vF_m hn12) k1) (fun i hi => ?_) (fun p k hp => ?_)
      · by_cases e : i = n
        · rw [e]; exact fI_sV ob rfl
        · rw [fI_sV_ne (fun w => e (kvo_inj w).symm)]
          exact z i (by omega)
      · rw [fV_sV_ne (fun w => hp n hn12 w.symm)]
        exact u p k hp
  rw [jE_X7_untell]
  refine jT_X7_untell_0 ?_
  exact L 12 0 h _ _ (by omega) fr_rfl (fun i hi => absurd hi (Nat.not_lt_zero _)) (fun _ _ _ => rfl)
end UNT
section CRDA
variable {X : JX} {d : Nat} {Q : JQ} {h : JH} {N K : Nat}
def RFA : List (Nat × Nat) := PFA ++ TF ++ [(7, 1), (0, 5), (0, 6), (0, 7)] ++ vF
theorem c_readA (g : G h) (tb : TB h N) (st : Spt (bt h) N K) (d0 : fV h 0 6 = .ref 10) (p0 : fV h 0 5 = .ref 17) {q : Nat} (hq : q = 25 ∨ q = 26) (va : fV h 24 3 = .ref q) (H : ∀ (h1 : JH) (y : Int32), fr PAA RFA h h1 → y = nI (rsl (bt h) N K).1 → fI h1 0 7 = zI (rsl (bt h) N K).2 → fI h1 7 1 = 0 → ((rsl (bt h) N K).1 = 0 → fin (bt h) N K ∧ CPA h1 (bt h) N K ∧ fV h1 0 5 = .ref 10 ∧ fV h1 0 6 = .ref 17 ∧ (∀ i, i < 12 → fI h1 (kvo q i) 0 = 0)) → ((rsl (bt h) N K).1 ≠ 0 → fV h1 0 5 = .ref 17 ∧ fV h1 0 6 = .ref 10 ∧ (∀ p, 27 ≤ p → p < 51 → fV h1 p 0 = fV h p 0)) → Q (some (.int y)) h1) : jex X (d + 7) 36 [.ref 0] h Q := by
  have rr := rsl_r st
  rw [jE_X11_read]
  refine jT_X11_read_0 ?_
  rw [jgf_ob (c := 11) (by simp only [gO g]) rfl, d0, jgf_ob (c := 11) (by simp only [gO g]) rfl, show fV h 0 4 = .ref 7 by simp only [gF g], jrc_ob (c := 5) (by simp only [gO g])]
  refine c_readFromA g tb st (fun h1 k1 f11 f12 sc => ?_)
  generalize bt h = t at *
  try dsimp only [jrI, jrN, jrA, jisr, jnul, jcat1]
  have k1f : fr PAA RFA h h1 := fr_mono (fun _ q => q) (fun p q => List.mem_append_left _ (List.mem_append_left _ q)) k1
  have g1 := G_fr g rfl k1
  have e06 : fV h1 0 6 = .ref 10 := by rw [frV k1 (by decide) (by decide)]; exact d0
  have e05 : fV h1 0 5 = .ref 17 := by rw [frV k1 (by decide) (by decide)]; exact p0
  rw [jgf_ob (c := 11) (by simp only [gO g1]) rfl, show fV h1 0 4 = .ref 7 by simp only [gF g1], jpI_ob (c := 9) (by simp only [gO g1]) rfl]
  have k2 : fr [] [(7, 1)] h1 (sV h1 7 1 (.int 0)) := fr_sV (by decide) fr_rfl
  have z1 : fI (sV h1 7 1 (.int 0)) 7 1 = 0 := by simp (decide := true) only [jgI_ob, jgf_ob, jgL_ob, jpI_ob, jpL_ob, jpR_ob, jpN_ob, jrc_ob, obj_sV, obj_wF, obj_wG, obj_wR, arr_sV, arr_wF, arr_wG, arr_wR, arL_sV, arL_wF, arL_wG, arL_wR, arR_sV, arR_wF, arR_wG, arR_wR, fI_sV (c := 0), fI_sV (c := 1), fI_sV (c := 2), fI_sV (c := 4), fI_sV (c := 5), fI_sV (c := 7), fI_sV (c := 8), fI_sV (c := 9), fI_sV (c := 10), fI_sV (c := 11), fI_sV (c := 12), fI_sV (c := 6), fL_sV (c := 9), fL_sV (c := 12), fI_sV_k, fL_sV_k, fV_sV_k, fI_wF, fI_wG, fI_wR, fL_wF, fL_wG, fL_wR, fV_wF, fV_wG, fV_wR, aF_sV, aG_sV, aR_sV, aF_wG, aF_wR, aG_wF, aG_wR, aR_wF, aR_wG, gO g1]
  generalize sV h1 7 1 (.int 0) = h2 at *
  have g2 := G_fr g1 rfl k2
  have e06 : fV h2 0 6 = .ref 10 := by rw [frV k2 (by decide) (by decide)]; exact e06
  have e05 : fV h2 0 5 = .ref 17 := by rw [frV k2 (by decide) (by decide)]; exact e05
  have f11 : fI h2 10 10 = nI (rsl t N K).1 := by rw [frI k2 (by decide) (by decide)]; exact f11
  have f12 : fI h2 10 11 = zI (rsl t N K).2 := by rw [frI k2 (by decide) (by decide)]; exact f12
  rw [jgf_ob (c := 11) (by simp only [gO g2]) rfl, e06, jgI_ob (c := 5) (by simp only [gO g2]) rfl, f12, jpI_ob (c := 11) (by simp only [gO g2]) rfl]
  have k3 : fr [] [(0, 7)] h2 (sV h2 0 7 (.int (zI (rsl t N K).2))) := fr_sV (by decide) fr_rfl
  have z7 : fI (sV h2 0 7 (.int (zI (rsl t N K).2))) 0 7 = zI (rsl t N K).2 := by simp (decide := true) only [jgI_ob, jgf_ob, jgL_ob, jpI_ob, jpL_ob, jpR_ob, jpN_ob, jrc_ob, obj_sV, obj_wF, obj_wG, obj_wR, arr_sV, arr_wF, arr_wG, arr_wR, arL_sV, arL_wF, arL_wG, arL_wR, arR_sV, arR_wF, arR_wG, arR_wR, fI_sV (c := 0), fI_sV (c := 1), fI_sV (c := 2), fI_sV (c := 4), fI_sV (c := 5), fI_sV (c := 7), fI_sV (c := 8), fI_sV (c := 9), fI_sV (c := 10), fI_sV (c := 11), fI_sV (c := 12), fI_sV (c := 6), fL_sV (c := 9), fL_sV (c := 12), fI_sV_k, fL_sV_k, fV_sV_k, fI_wF, fI_wG, fI_wR, fL_wF, fL_wG, fL_wR, fV_wF, fV_wG, fV_wR, aF_sV, aG_sV, aR_sV, aF_wG, aF_wR, aG_wF, aG_wR, aR_wF, aR_wG, gO g2]
  generalize sV h2 0 7 (.int (zI (rsl t N K).2)) = h3 at *
  have g3 := G_fr g2 rfl k3
  have k13 : fr [] [(7, 1), (0, 7)] h1 h3 := fr_trans (fr_mono (by decide) (by decide) k2) (fr_mono (by decide) (by decide) k3)
  have k3f : fr PAA RFA h h3 := fr_trans k1f (fr_mono (fun p q => absurd q List.not_mem_nil) (by decide) k13)
  have e06 : fV h3 0 6 = .ref 10 := by rw [frV k3 (by decide) (by decide)]; exact e06
  have e05 : fV h3 0 5 = .ref 17 := by rw [frV k3 (by decide) (by decide)]; exact e05
  have f11 : fI h3 10 10 = nI (rsl t N K).1 := by rw [frI k3 (by decide) (by decide)]; exact f11
  have z1 : fI h3 7 1 = 0 := by rw [frI k3 (by decide) (by decide)]; exact z1
  rw [jgf_ob (c := 11) (by simp only [gO g3]) rfl, e06, jgI_ob (c := 5) (by simp only [gO g3]) rfl, f11]
  refine ⟨fun c0 => ?_, fun c0 => ?_⟩
  · have c0 := (nI_eq (b := 0) (by omega) (by omega)).1 c0
    obtain ⟨ff, cp⟩ := sc c0
    have cp3 := CP_frA cp k13 rfl rfl
    rw [jgf_ob (c := 11) (by simp only [gO g3]) rfl, e05]
    dsimp only [jisr]
    rw [jgf_ob (c := 11) (by simp only [gO g3]) rfl, e06]
    dsimp only [jisr]
    rw [jpR_ob (c := 11) (by simp only [gO g3]) rfl]
    rw [jpR_ob (c := 11) (by simp only [obj_sV, gO g3]) rfl]
    have k4 : fr [] [(0, 5), (0, 6)] h3 (sV (sV h3 0 5 (.ref 10)) 0 6 (.ref 17)) := fr_sV (by decide) (fr_sV (by decide) fr_rfl)
    have w5 : fV (sV (sV h3 0 5 (.ref 10)) 0 6 (.ref 17)) 0 5 = .ref 10 := by rw [fV_sV_k (by decide)]; exact fR_sV (c := 11) (by simp only [gO g3]) rfl
    have w6 : fV (sV (sV h3 0 5 (.ref 10)) 0 6 (.ref 17)) 0 6 = .ref 17 := fR_sV (c := 11) (by simp only [obj_sV, gO g3]) rfl
    generalize sV (sV h3 0 5 (.ref 10)) 0 6 (.ref 17) = h4 at *
    have g4 := G_fr g3 rfl k4
    have v4 : fV h4 24 3 = .ref q := by rw [frV k4 (by decide) (by decide), frV k13 (by decide) (by decide), frV k1 (by decide) (by decide)]; exact va
    rw [jgf_ob (c := 11) (by simp only [gO g4]) rfl, show fV h4 0 8 = .ref 24 by simp only [gF g4], jrc_ob (by simp only [gO g4]), jE_X7_forgetValues]
    refine jT_X7_forgetValues_0 ?_
    rw [jgf_ob (c := 7) (by simp only [gO g4]) rfl, v4]
    change jex X (d + 4 + 1) 67 [.ref q] h4 _
    refine c_untell g4 hq (fun h5 k5 un oth => ?_)
    try dsimp only [jrI, jrN, jrA, jisr, jnul, jcat1]
    have e05' : ∀ k, fV h5 0 k = fV h4 0 k := fun k => oth 0 k (fun i _ => by unfold kvo; split <;> omega)
    refine H h5 0 (fr_trans k3f (fr_trans (fr_mono (fun p q => absurd q List.not_mem_nil) (by decide) k4) (fr_mono (fun _ q => absurd q List.not_mem_nil) (fun p q => List.mem_append_right _ q) k5))) (by rw [c0]; rfl) ?_ ?_ (fun _ => ⟨ff, ?_, ?_, ?_, un⟩) (fun w => absurd c0 w)
    · show vI (fV h5 0 7) = _
      rw [e05', frV k4 (by decide) (by decide)]; exact z7
    · rw [frI k5 (by decide) (by decide), frI k4 (by decide) (by decide)]; exact z1
    · exact CP_frA (CP_frA cp3 k4 rfl rfl) k5 (by decide) rfl
    · rw [e05']; exact w5
    · rw [e05']; exact w6
  · have c0' : (rsl t N K).1 ≠ 0 := fun w => c0 (by rw [w]; rfl)
    rw [jgf_ob (c := 11) (by simp only [gO g3]) rfl, e06, jgI_ob (c := 5) (by simp only [gO g3]) rfl, f11]
    refine H h3 _ k3f rfl z7 z1 (fun w => absurd w c0') (fun _ => ⟨e05, e06, fun p p1 p2 => ?_⟩)
    rw [frV k13 ?_ (fun c => by omega), frV k1 ?_ (fun c => by omega)]
    · intro c
      have : p = 10 ∨ p = 17 ∨ p = 7 := by
        rcases List.mem_append.mp c with w | w
        · simp only [PFA, List.mem_cons, Prod.mk.injEq, List.not_mem_nil, or_false] at w; omega
        · simp only [TF, List.mem_cons, Prod.mk.injEq, List.not_mem_nil, or_false] at w; omega
      omega
    · intro c
      simp only [List.mem_cons, Prod.mk.injEq, List.not_mem_nil, or_false] at c
      omega
end CRDA
section CRDB
variable {X : JX} {d : Nat} {Q : JQ} {h : JH} {N K : Nat}
def RFB : List (Nat × Nat) := PFB ++ TF ++ [(7, 1), (0, 5), (0, 6), (0, 7)] ++ vF
theorem c_readB (g : G h) (tb : TB h N) (st : Spt (bt h) N K) (d0 : fV h 0 6 = .ref 17) (p0 : fV h 0 5 = .ref 10) {q : Nat} (hq : q = 25 ∨ q = 26) (va : fV h 24 3 = .ref q) (H : ∀ (h1 : JH) (y : Int32), fr PAB RFB h h1 → y = nI (rsl (bt h) N K).1 → fI h1 0 7 = zI (rsl (bt h) N K).2 → fI h1 7 1 = 0 → ((rsl (bt h) N K).1 = 0 → fin (bt h) N K ∧ CPB h1 (bt h) N K ∧ fV h1 0 5 = .ref 17 ∧ fV h1 0 6 = .ref 10 ∧ (∀ i, i < 12 → fI h1 (kvo q i) 0 = 0)) → ((rsl (bt h) N K).1 ≠ 0 → fV h1 0 5 = .ref 10 ∧ fV h1 0 6 = .ref 17 ∧ (∀ p, 27 ≤ p → p < 51 → fV h1 p 0 = fV h p 0)) → Q (some (.int y)) h1) : jex X (d + 7) 36 [.ref 0] h Q := by
  have rr := rsl_r st
  rw [jE_X11_read]
  refine jT_X11_read_0 ?_
  rw [jgf_ob (c := 11) (by simp only [gO g]) rfl, d0, jgf_ob (c := 11) (by simp only [gO g]) rfl, show fV h 0 4 = .ref 7 by simp only [gF g], jrc_ob (c := 5) (by simp only [gO g])]
  refine c_readFromB g tb st (fun h1 k1 f11 f12 sc => ?_)
  generalize bt h = t at *
  try dsimp only [jrI, jrN, jrA, jisr, jnul, jcat1]
  have k1f : fr PAB RFB h h1 := fr_mono (fun _ q => q) (fun p q => List.mem_append_left _ (List.mem_append_left _ q)) k1
  have g1 := G_fr g rfl k1
  have e06 : fV h1 0 6 = .ref 17 := by rw [frV k1 (by decide) (by decide)]; exact d0
  have e05 : fV h1 0 5 = .ref 10 := by rw [frV k1 (by decide) (by decide)]; exact p0
  rw [jgf_ob (c := 11) (by simp only [gO g1]) rfl, show fV h1 0 4 = .ref 7 by simp only [gF g1], jpI_ob (c := 9) (by simp only [gO g1]) rfl]
  have k2 : fr [] [(7, 1)] h1 (sV h1 7 1 (.int 0)) := fr_sV (by decide) fr_rfl
  have z1 : fI (sV h1 7 1 (.int 0)) 7 1 = 0 := by simp (decide := true) only [jgI_ob, jgf_ob, jgL_ob, jpI_ob, jpL_ob, jpR_ob, jpN_ob, jrc_ob, obj_sV, obj_wF, obj_wG, obj_wR, arr_sV, arr_wF, arr_wG, arr_wR, arL_sV, arL_wF, arL_wG, arL_wR, arR_sV, arR_wF, arR_wG, arR_wR, fI_sV (c := 0), fI_sV (c := 1), fI_sV (c := 2), fI_sV (c := 4), fI_sV (c := 5), fI_sV (c := 7), fI_sV (c := 8), fI_sV (c := 9), fI_sV (c := 10), fI_sV (c := 11), fI_sV (c := 12), fI_sV (c := 6), fL_sV (c := 9), fL_sV (c := 12), fI_sV_k, fL_sV_k, fV_sV_k, fI_wF, fI_wG, fI_wR, fL_wF, fL_wG, fL_wR, fV_wF, fV_wG, fV_wR, aF_sV, aG_sV, aR_sV, aF_wG, aF_wR, aG_wF, aG_wR, aR_wF, aR_wG, gO g1]
  generalize sV h1 7 1 (.int 0) = h2 at *
  have g2 := G_fr g1 rfl k2
  have e06 : fV h2 0 6 = .ref 17 := by rw [frV k2 (by decide) (by decide)]; exact e06
  have e05 : fV h2 0 5 = .ref 10 := by rw [frV k2 (by decide) (by decide)]; exact e05
  have f11 : fI h2 17 10 = nI (rsl t N K).1 := by rw [frI k2 (by decide) (by decide)]; exact f11
  have f12 : fI h2 17 11 = zI (rsl t N K).2 := by rw [frI k2 (by decide) (by decide)]; exact f12
  rw [jgf_ob (c := 11) (by simp only [gO g2]) rfl, e06, jgI_ob (c := 5) (by simp only [gO g2]) rfl, f12, jpI_ob (c := 11) (by simp only [gO g2]) rfl]
  have k3 : fr [] [(0, 7)] h2 (sV h2 0 7 (.int (zI (rsl t N K).2))) := fr_sV (by decide) fr_rfl
  have z7 : fI (sV h2 0 7 (.int (zI (rsl t N K).2))) 0 7 = zI (rsl t N K).2 := by simp (decide := true) only [jgI_ob, jgf_ob, jgL_ob, jpI_ob, jpL_ob, jpR_ob, jpN_ob, jrc_ob, obj_sV, obj_wF, obj_wG, obj_wR, arr_sV, arr_wF, arr_wG, arr_wR, arL_sV, arL_wF, arL_wG, arL_wR, arR_sV, arR_wF, arR_wG, arR_wR, fI_sV (c := 0), fI_sV (c := 1), fI_sV (c := 2), fI_sV (c := 4), fI_sV (c := 5), fI_sV (c := 7), fI_sV (c := 8), fI_sV (c := 9), fI_sV (c := 10), fI_sV (c := 11), fI_sV (c := 12), fI_sV (c := 6), fL_sV (c := 9), fL_sV (c := 12), fI_sV_k, fL_sV_k, fV_sV_k, fI_wF, fI_wG, fI_wR, fL_wF, fL_wG, fL_wR, fV_wF, fV_wG, fV_wR, aF_sV, aG_sV, aR_sV, aF_wG, aF_wR, aG_wF, aG_wR, aR_wF, aR_wG, gO g2]
  generalize sV h2 0 7 (.int (zI (rsl t N K).2)) = h3 at *
  have g3 := G_fr g2 rfl k3
  have k13 : fr [] [(7, 1), (0, 7)] h1 h3 := fr_trans (fr_mono (by decide) (by decide) k2) (fr_mono (by decide) (by decide) k3)
  have k3f : fr PAB RFB h h3 := fr_trans k1f (fr_mono (fun p q => absurd q List.not_mem_nil) (by decide) k13)
  have e06 : fV h3 0 6 = .ref 17 := by rw [frV k3 (by decide) (by decide)]; exact e06
  have e05 : fV h3 0 5 = .ref 10 := by rw [frV k3 (by decide) (by decide)]; exact e05
  have f11 : fI h3 17 10 = nI (rsl t N K).1 := by rw [frI k3 (by decide) (by decide)]; exact f11
  have z1 : fI h3 7 1 = 0 := by rw [frI k3 (by decide) (by decide)]; exact z1
  rw [jgf_ob (c := 11) (by simp only [gO g3]) rfl, e06, jgI_ob (c := 5) (by simp only [gO g3]) rfl, f11]
  refine ⟨fun c0 => ?_, fun c0 => ?_⟩
  · have c0 := (nI_eq (b := 0) (by omega) (by omega)).1 c0
    obtain ⟨ff, cp⟩ := sc c0
    have cp3 := CP_frB cp k13 rfl rfl
    rw [jgf_ob (c := 11) (by simp only [gO g3]) rfl, e05]
    dsimp only [jisr]
    rw [jgf_ob (c := 11) (by simp only [gO g3]) rfl, e06]
    dsimp only [jisr]
    rw [jpR_ob (c := 11) (by simp only [gO g3]) rfl]
    rw [jpR_ob (c := 11) (by simp only [obj_sV, gO g3]) rfl]
    have k4 : fr [] [(0, 5), (0, 6)] h3 (sV (sV h3 0 5 (.ref 17)) 0 6 (.ref 10)) := fr_sV (by decide) (fr_sV (by decide) fr_rfl)
    have w5 : fV (sV (sV h3 0 5 (.ref 17)) 0 6 (.ref 10)) 0 5 = .ref 17 := by rw [fV_sV_k (by decide)]; exact fR_sV (c := 11) (by simp only [gO g3]) rfl
    have w6 : fV (sV (sV h3 0 5 (.ref 17)) 0 6 (.ref 10)) 0 6 = .ref 10 := fR_sV (c := 11) (by simp only [obj_sV, gO g3]) rfl
    generalize sV (sV h3 0 5 (.ref 17)) 0 6 (.ref 10) = h4 at *
    have g4 := G_fr g3 rfl k4
    have v4 : fV h4 24 3 = .ref q := by rw [frV k4 (by decide) (by decide), frV k13 (by decide) (by decide), frV k1 (by decide) (by decide)]; exact va
    rw [jgf_ob (c := 11) (by simp only [gO g4]) rfl, show fV h4 0 8 = .ref 24 by simp only [gF g4], jrc_ob (by simp only [gO g4]), jE_X7_forgetValues]
    refine jT_X7_forgetValues_0 ?_
    rw [jgf_ob (c := 7) (by simp only [gO g4]) rfl, v4]
    change jex X (d + 4 + 1) 67 [.ref q] h4 _
    refine c_untell g4 hq (fun h5 k5 un oth => ?_)
    try dsimp only [jrI, jrN, jrA, jisr, jnul, jcat1]
    have e05' : ∀ k, fV h5 0 k = fV h4 0 k := fun k => oth 0 k (fun i _ => by unfold kvo; split <;> omega)
    refine H h5 0 (fr_trans k3f (fr_trans (fr_mono (fun p q => absurd q List.not_mem_nil) (by decide) k4) (fr_mono (fun _ q => absurd q List.not_mem_nil) (fun p q => List.mem_append_right _ q) k5))) (by rw [c0]; rfl) ?_ ?_ (fun _ => ⟨ff, ?_, ?_, ?_, un⟩) (fun w => absurd c0 w)
    · show vI (fV h5 0 7) = _
      rw [e05', frV k4 (by decide) (by decide)]; exact z7
    · rw [frI k5 (by decide) (by decide), frI k4 (by decide) (by decide)]; exact z1
    · exact CP_frB (CP_frB cp3 k4 rfl rfl) k5 (by decide) rfl
    · rw [e05']; exact w5
    · rw [e05']; exact w6
  · have c0' : (rsl t N K).1 ≠ 0 := fun w => c0 (by rw [w]; rfl)
    rw [jgf_ob (c := 11) (by simp only [gO g3]) rfl, e06, jgI_ob (c := 5) (by simp only [gO g3]) rfl, f11]
    refine H h3 _ k3f rfl z7 z1 (fun w => absurd w c0') (fun _ => ⟨e05, e06, fun p p1 p2 => ?_⟩)
    rw [frV k13 ?_ (fun c => by omega), frV k1 ?_ (fun c => by omega)]
    · intro c
      have : p = 10 ∨ p = 17 ∨ p = 7 := by
        rcases List.mem_append.mp c with w | w
        · simp only [PFB, List.mem_cons, Prod.mk.injEq, List.not_mem_nil, or_false] at w; omega
        · simp only [TF, List.mem_cons, Prod.mk.injEq, List.not_mem_nil, or_false] at w; omega
      omega
    · intro c
      simp only [List.mem_cons, Prod.mk.injEq, List.not_mem_nil, or_false] at c
      omega
end CRDB
