/-! A RUN: the class's, whole -/
def rF1 : List (Nat × Nat) := (24, 2) :: (24, 3) :: (24, 4) :: (24, 19) :: cFv
def rF0 : List (Nat × Nat) := (24, 2) :: (24, 17) :: (24, 18) :: cFv
theorem vF_vAll : ∀ y, y ∈ vF → y ∈ vAll := by
  intro y hy
  unfold vF at hy
  obtain ⟨i, hi, e⟩ := List.mem_map.mp hy
  unfold vAll
  refine List.mem_flatMap.mpr ⟨i, hi, List.mem_map.mpr ⟨0, List.mem_range.mpr (by decide), e⟩⟩
section CRU2
variable {X : JX} {d : Nat} {Q : JQ} {h : JH} {n : Nat} {m ρ τ f : Nat → Nat} {b t : Nat → Bool} {fl : Nat → Nat → Int} {r p q : Nat} {hs ey B : Int} {u : Nat → Int} {N K nn : Nat} {x : S7} {R : Int × Nat × S7 × (Nat → Bool) × (Nat → V6)}
theorem c_crun (g : G h) (rb : RB h n m ρ τ b f t fl) (hr : r < n) (e62 : fV h 6 2 = .ref (ρ r)) (e0 : (fI h 6 0).toInt = hs) (e1 : (fI h 6 1).toInt = ey) (p5 : fV h 0 5 = .ref p) (px : PXs h p u N K) (hq : q = 25 ∨ q = 26) (e3 : fV h 24 3 = .ref (51 - q)) (e4 : fV h 24 4 = .ref q) (pz : PZs hs ey u N K B) (hx : (fI h 6 4).toInt = zs x ∧ (fI h 6 5).toInt = zh x ∧ (fI h 6 6).toInt = zu x ∧ (fI h 6 7).toInt = zv x ∧ zsl x = 0 ∧ zhm x = 0) (bx : BXs B 0 x) (hn : 401 * 200 + K < nn) (eR : R = gof hs ey (slf r (m r) b f t fl) u N K nn 0 0 x (fun _ => false) (fun _ _ => 0) (fun _ => 0)) (K1 : R.1 = 0 → ∀ h2 (pp : Int), fr cA rF1 h h2 → KPs h h2 q → HS h2 6 (setp R.2.2.1 pp) → CVs h2 q R.2.2.2.1 R.2.2.2.2 → fV h2 24 3 = .ref q → fV h2 24 4 = .ref (51 - q) → fI h2 24 19 = fI h2 6 9 → Q (some (.int (fI h2 6 8))) h2) (K0 : R.1 ≠ 0 → ∀ h2, fr cA rF0 h h2 → KPs h h2 q → (fI h2 6 4 = fI h 6 4 ∧ fI h2 6 5 = fI h 6 5 ∧ fI h2 6 6 = fI h 6 6 ∧ fI h2 6 7 = fI h 6 7) → (fI h2 24 17).toInt = R.1 → fI h2 24 18 = nI (tS u N R.2.1) → Q (some (.int (-2))) h2) : jex X (d + 7) 162 [.ref 0] h Q := by
  have ob : obj h 24 7 := by simp only [gO g]
  have K4 := Spt_400 pz.1
  have ob6 : obj h 6 2 := by simp only [gO g]
  rw [jE_X11_run]
  refine jT_X11_run_0 ?_
  rw [jgf_ob (c := 11) (by simp only [gO g]) rfl, show fV h 0 3 = .ref 6 by simp only [gF g], jgf_ob ob6 rfl, e62]
  try dsimp only [jnul]
  rw [jgf_ob (c := 11) (by simp only [gO g]) rfl, show fV h 0 8 = .ref 24 by simp only [gF g], jgf_ob (c := 11) (by simp only [gO g]) rfl, p5, jrc_ob ob]
  change jex X (d + 5 + 1) 163 [.ref 24, .ref p] h _
  rw [jE_X7_perform]
  refine jT_X7_perform_0 ?_
  rw [jgf_ob ob rfl, show fV h 24 0 = .ref 6 by simp only [gF g], jgI_ob ob6 rfl, jgf_ob ob rfl, show fV h 24 0 = .ref 6 by simp only [gF g], jgI_ob ob6 rfl, jgf_ob ob rfl, show fV h 24 0 = .ref 6 by simp only [gF g], jgI_ob ob6 rfl, jgf_ob ob rfl, show fV h 24 0 = .ref 6 by simp only [gF g], jgI_ob ob6 rfl]
  try dsimp only [jisr]
  rw [jpR_ob ob rfl]
  have k1 : fr [] [(24, 2)] h (sV h 24 2 (.ref p)) := fr_sV (by decide) fr_rfl
  have f2 : fV (sV h 24 2 (.ref p)) 24 2 = .ref p := fV_sV ob rfl
  generalize sV h 24 2 (.ref p) = h2 at *
  have g2 := G_fr g (by decide +kernel) k1
  have ob2 : obj h2 24 7 := by simp only [gO g2]
  have o62 : obj h2 6 2 := by simp only [gO g2]
  rw [jgf_ob ob2 rfl, show fV h2 24 0 = .ref 6 by simp only [gF g2], jrc_ob o62]
  change jex X (d + 4 + 1) 164 [.ref 6] h2 _
  rw [jE_X2_startCounting]
  refine jT_X2_startCounting_0 ?_
  simp (decide := true) only [jpI_ob (c := 2), obj_sV, o62]
  try dsimp only [jrI, jrN, jrA, jisr, jnul, jcat1]
  generalize ee : sV (sV (sV h2 6 8 (.int 0)) 6 9 (.int 0)) 6 10 (.int 0) = h3
  have ee := ee.symm
  have k2 : fr [] [(6, 8), (6, 9), (6, 10)] h2 h3 := by rw [ee]; exact fr_sV (by decide) (fr_sV (by decide) (fr_sV (by decide) fr_rfl))
  have f8 : fI h3 6 8 = 0 := by rw [ee]; simp (decide := true) only [jgI_ob, jgf_ob, jgL_ob, jpI_ob, jpL_ob, jpR_ob, jpN_ob, jrc_ob, obj_sV, obj_wF, obj_wG, obj_wR, arr_sV, arr_wF, arr_wG, arr_wR, arL_sV, arL_wF, arL_wG, arL_wR, arR_sV, arR_wF, arR_wG, arR_wR, fI_sV (c := 0), fI_sV (c := 1), fI_sV (c := 2), fI_sV (c := 4), fI_sV (c := 5), fI_sV (c := 7), fI_sV (c := 8), fI_sV (c := 9), fI_sV (c := 10), fI_sV (c := 11), fI_sV (c := 12), fI_sV (c := 6), fL_sV (c := 9), fL_sV (c := 12), fI_sV_k, fL_sV_k, fV_sV_k, fI_wF, fI_wG, fI_wR, fL_wF, fL_wG, fL_wR, fV_wF, fV_wG, fV_wR, aF_sV, aG_sV, aR_sV, aF_wG, aF_wR, aG_wF, aG_wR, aR_wF, aR_wG, o62]
  have f9 : fI h3 6 9 = 0 := by rw [ee]; simp (decide := true) only [jgI_ob, jgf_ob, jgL_ob, jpI_ob, jpL_ob, jpR_ob, jpN_ob, jrc_ob, obj_sV, obj_wF, obj_wG, obj_wR, arr_sV, arr_wF, arr_wG, arr_wR, arL_sV, arL_wF, arL_wG, arL_wR, arR_sV, arR_wF, arR_wG, arR_wR, fI_sV (c := 0), fI_sV (c := 1), fI_sV (c := 2), fI_sV (c := 4), fI_sV (c := 5), fI_sV (c := 7), fI_sV (c := 8), fI_sV (c := 9), fI_sV (c := 10), fI_sV (c := 11), fI_sV (c := 12), fI_sV (c := 6), fL_sV (c := 9), fL_sV (c := 12), fI_sV_k, fL_sV_k, fV_sV_k, fI_wF, fI_wG, fI_wR, fL_wF, fL_wG, fL_wR, fV_wF, fV_wG, fV_wR, aF_sV, aG_sV, aR_sV, aF_wG, aF_wR, aG_wF, aG_wR, aR_wF, aR_wG, o62]
  have f10 : fI h3 6 10 = 0 := by rw [ee]; simp (decide := true) only [jgI_ob, jgf_ob, jgL_ob, jpI_ob, jpL_ob, jpR_ob, jpN_ob, jrc_ob, obj_sV, obj_wF, obj_wG, obj_wR, arr_sV, arr_wF, arr_wG, arr_wR, arL_sV, arL_wF, arL_wG, arL_wR, arR_sV, arR_wF, arR_wG, arR_wR, fI_sV (c := 0), fI_sV (c := 1), fI_sV (c := 2), fI_sV (c := 4), fI_sV (c := 5), fI_sV (c := 7), fI_sV (c := 8), fI_sV (c := 9), fI_sV (c := 10), fI_sV (c := 11), fI_sV (c := 12), fI_sV (c := 6), fL_sV (c := 9), fL_sV (c := 12), fI_sV_k, fL_sV_k, fV_sV_k, fI_wF, fI_wG, fI_wR, fL_wF, fL_wG, fL_wR, fV_wF, fV_wG, fV_wR, aF_sV, aG_sV, aR_sV, aF_wG, aF_wR, aG_wF, aG_wR, aR_wF, aR_wG, o62]
  clear ee
  have g3 := G_fr g2 (by decide +kernel) k2
  have ob3 : obj h3 24 7 := by simp only [gO g3]
  have i4 : fV h3 24 4 = .ref q := by rw [frV k2 (by decide) (by decide), frV k1 (by decide) (by decide)]; exact e4
  rw [jgf_ob ob3 rfl, i4]
  refine c_untell (d := d + 4) g3 hq (fun h4 k3 z0 oth => ?_)
  have g4 := G_fr g3 (by decide +kernel) k3
  have ob4 : obj h4 24 7 := by simp only [gO g4]
  try dsimp only [jrI, jrN, jrA, jisr, jnul, jcat1]
  simp (decide := true) only [jpI_ob (c := 7), obj_sV, ob4]
  generalize ee : sV (sV h4 24 14 (.int 0)) 24 15 (.int 0) = h5
  have ee := ee.symm
  have k4 : fr [] [(24, 14), (24, 15)] h4 h5 := by rw [ee]; exact fr_sV (by decide) (fr_sV (by decide) fr_rfl)
  have f14 : fI h5 24 14 = nI 0 := by rw [ee]; simp (decide := true) only [jgI_ob, jgf_ob, jgL_ob, jpI_ob, jpL_ob, jpR_ob, jpN_ob, jrc_ob, obj_sV, obj_wF, obj_wG, obj_wR, arr_sV, arr_wF, arr_wG, arr_wR, arL_sV, arL_wF, arL_wG, arL_wR, arR_sV, arR_wF, arR_wG, arR_wR, fI_sV (c := 0), fI_sV (c := 1), fI_sV (c := 2), fI_sV (c := 4), fI_sV (c := 5), fI_sV (c := 7), fI_sV (c := 8), fI_sV (c := 9), fI_sV (c := 10), fI_sV (c := 11), fI_sV (c := 12), fI_sV (c := 6), fL_sV (c := 9), fL_sV (c := 12), fI_sV_k, fL_sV_k, fV_sV_k, fI_wF, fI_wG, fI_wR, fL_wF, fL_wG, fL_wR, fV_wF, fV_wG, fV_wR, aF_sV, aG_sV, aR_sV, aF_wG, aF_wR, aG_wF, aG_wR, aR_wF, aR_wG, ob4]
  have f15 : fI h5 24 15 = nI 0 := by rw [ee]; simp (decide := true) only [jgI_ob, jgf_ob, jgL_ob, jpI_ob, jpL_ob, jpR_ob, jpN_ob, jrc_ob, obj_sV, obj_wF, obj_wG, obj_wR, arr_sV, arr_wF, arr_wG, arr_wR, arL_sV, arL_wF, arL_wG, arL_wR, arR_sV, arR_wF, arR_wG, arR_wR, fI_sV (c := 0), fI_sV (c := 1), fI_sV (c := 2), fI_sV (c := 4), fI_sV (c := 5), fI_sV (c := 7), fI_sV (c := 8), fI_sV (c := 9), fI_sV (c := 10), fI_sV (c := 11), fI_sV (c := 12), fI_sV (c := 6), fL_sV (c := 9), fL_sV (c := 12), fI_sV_k, fL_sV_k, fV_sV_k, fI_wF, fI_wG, fI_wR, fL_wF, fL_wG, fL_wR, fV_wF, fV_wG, fV_wR, aF_sV, aG_sV, aR_sV, aF_wG, aF_wR, aG_wF, aG_wR, aR_wF, aR_wG, ob4]
  clear ee
  have g5 := G_fr g4 (by decide +kernel) k4
  -- from the beginning to the loop
  have kk : fr cA ((24, 2) :: cFv) h h5 := fr_trans (fr_mono (by decide) (fun y hy => by rw [List.mem_singleton.mp hy]; exact List.mem_cons_self) k1) (fr_trans (fr_mono (by decide) (fun y hy => List.mem_cons_of_mem _ (List.mem_append_left _ ((show ∀ y, y ∈ ([(6, 8), (6, 9), (6, 10)] : List (Nat × Nat)) → y ∈ cF by decide) y hy))) k2) (fr_trans (fr_mono (by decide) (fun y hy => List.mem_cons_of_mem _ (List.mem_append_right _ (vF_vAll y hy))) k3) (fr_mono (by decide) (fun y hy => List.mem_cons_of_mem _ (List.mem_append_left _ ((show ∀ y, y ∈ ([(24, 14), (24, 15)] : List (Nat × Nat)) → y ∈ cF by decide) y hy))) k4)))
  have nv : ∀ {a c : Nat}, (a < 27 ∨ 50 < a) → ∀ i, i < 12 → a ≠ kvo q i := fun hc i hi => by have := kvo_r (q := q) hi; omega
  have T4 : ∀ {a c : Nat}, (a < 27 ∨ 50 < a) → fV h4 a c = fV h3 a c := fun hc => oth _ _ (nv (c := 0) hc)
  have T4I : ∀ {a c : Nat}, (a < 27 ∨ 50 < a) → fI h4 a c = fI h3 a c := fun hc => by unfold fI; rw [T4 hc]
  have ce : CEs h5 n m ρ τ b f t fl r hs ey p q u N K := by
    refine ⟨g5, RB_fr rb kk (by decide +kernel), hr, ?_, ?_, ?_, PX_fr px kk (by decide +kernel) (by decide +kernel), ?_, hq, ?_⟩
    · rw [frV kk (nmF (by decide +kernel)) (by decide)]; exact e62
    · rw [frI kk (nmF (by decide +kernel)) (by decide)]; exact e0
    · rw [frI kk (nmF (by decide +kernel)) (by decide)]; exact e1
    · rw [frV k4 (by decide) (by decide), T4 (by decide), frV k2 (by decide) (by decide)]; exact f2
    · rw [frV kk (nmF (by decide +kernel)) (by decide)]; exact e4
  have i3 : fV h5 24 3 = .ref (51 - q) := by rw [frV kk (nmF (by decide +kernel)) (by decide)]; exact e3
  have H6 : ∀ c, c < 8 → fI h5 6 c = fI h 6 c := fun c hc => by
    rw [frI k4 (by intro w; simp only [List.mem_cons, Prod.mk.injEq, List.not_mem_nil, or_false] at w; omega) (by omega), T4I (by decide), frI k2 (by intro w; simp only [List.mem_cons, Prod.mk.injEq, List.not_mem_nil, or_false] at w; omega) (by omega), frI k1 (by intro w; simp only [List.mem_cons, Prod.mk.injEq, List.not_mem_nil, or_false] at w; omega) (by omega)]
  have hx5 : HS h5 6 (setp x 0) := by
    obtain ⟨x1, x2, x3, x4, x5, x6⟩ := hx
    unfold HS
    rw [H6 4 (by decide), H6 5 (by decide), H6 6 (by decide), H6 7 (by decide), frI k4 (p := 6) (k := 8) (by decide) (by decide), T4I (a := 6) (c := 8) (by decide), f8, frI k4 (p := 6) (k := 9) (by decide) (by decide), T4I (a := 6) (c := 9) (by decide), f9, frI k4 (p := 6) (k := 10) (by decide) (by decide), T4I (a := 6) (c := 10) (by decide), f10]
    exact ⟨x1, x2, x3, x4, x5.symm, x6.symm, rfl⟩
  have cv5 : CVs h5 q (fun _ => false) (fun _ _ => 0) := fun i hi => by
    have kr := kvo_r (q := q) hi
    refine ⟨?_, fun w => absurd (show false = true from w) (by decide)⟩
    rw [frI k4 (mid_n (by decide) kr.1 kr.2) (by omega), z0 i hi]
    rfl
  have kp5 : KPs h h5 q := fun i hi w hw => by
    have kr := kvo_r (q := 51 - q) hi
    have e : fI h4 (kvo (51 - q) i) w = fI h3 (kvo (51 - q) i) w := by unfold fI; rw [oth _ _ (fun j _ => kvo_x hq)]
    rw [frI k4 (mid_n (by decide) kr.1 kr.2) (by omega), e, frI k2 (mid_n (by decide) kr.1 kr.2) (by omega), frI k1 (mid_n (by decide) kr.1 kr.2) (by omega)]
  change jB_X7_perform_69 X (d + 5) _ 24 _ _ _ _ _ 0 (nI 0) h5 0 0
  refine l_perf (hb := h5) (R := R) ce pz (fun q0 h6 pp k5 kp6 hx6 cv6 o7 => ?_) (fun q0 h6 y k5 kp6 ey' hkb f16 o7 => ?_) nn 0 0 x (fun _ => false) (fun _ _ => 0) (fun _ => 0) h5 0 (by omega) (by omega) eR ⟨Nat.zero_le _, rfl, by decide, fr_rfl, fun _ _ _ _ => rfl, ⟨0, by decide, by decide, hx5⟩, bx, f14, f15, cv5, fun bb hb => absurd hb List.not_mem_nil⟩
  · have ce6 := CE_fr ce k5 (fun _ w => w) (fun _ w => w)
    have g6 := ce6.1
    have ob6' : obj h6 24 7 := by simp only [gO g6]
    have j3 : fV h6 24 3 = .ref (51 - q) := by rw [frV k5 (nmF (by decide +kernel)) (by decide)]; exact i3
    have j4 : fV h6 24 4 = .ref q := ce6.2.2.2.2.2.2.2.2.2
    refine jT_X7_perform_278 (jif_t rfl ?_)
    rw [jgf_ob ob6' rfl, j3]
    try dsimp only [jisr]
    rw [jgf_ob ob6' rfl, j4]
    try dsimp only [jisr]
    rw [jpR_ob ob6' rfl]
    have ob7 : obj (sV h6 24 3 (.ref q)) 24 7 := by simp only [obj_sV]; exact ob6'
    rw [jpR_ob ob7 rfl]
    have k7 : fr [] [(24, 3), (24, 4)] h6 (sV (sV h6 24 3 (.ref q)) 24 4 (.ref (51 - q))) := fr_sV (by decide) (fr_sV (by decide) fr_rfl)
    have v3 : fV (sV (sV h6 24 3 (.ref q)) 24 4 (.ref (51 - q))) 24 3 = .ref q := by rw [fV_sV_k (by decide)]; exact fV_sV ob6' rfl
    have v4 : fV (sV (sV h6 24 3 (.ref q)) 24 4 (.ref (51 - q))) 24 4 = .ref (51 - q) := fV_sV ob7 rfl
    generalize sV (sV h6 24 3 (.ref q)) 24 4 (.ref (51 - q)) = h7 at *
    have g7 := G_fr g6 (by decide +kernel) k7
    have ob8 : obj h7 24 7 := by simp only [gO g7]
    rw [jgf_ob ob8 rfl, show fV h7 24 0 = .ref 6 by simp only [gF g7], jgI_ob (c := 2) (by simp only [gO g7]) rfl, jpI_ob ob8 rfl]
    have k8 : fr [] [(24, 19)] h7 (sV h7 24 19 (.int (fI h7 6 9))) := fr_sV (by decide) fr_rfl
    have f19 : fI (sV h7 24 19 (.int (fI h7 6 9))) 24 19 = fI h7 6 9 := fI_sV ob8 rfl
    generalize sV h7 24 19 (.int (fI h7 6 9)) = h8 at *
    have g8 := G_fr g7 (by decide +kernel) k8
    refine ⟨by decide, ?_⟩
    try dsimp only [jrI, jrN, jrA, jisr, jnul, jcat1]
    refine jif_n (by decide) ?_
    rw [jgf_ob (c := 11) (by simp only [gO g8]) rfl, show fV h8 0 3 = .ref 6 by simp only [gF g8], jgI_ob (c := 2) (by simp only [gO g8]) rfl]
    have sub : ∀ y, y ∈ cFv → y ∈ rF1 := fun y hy => List.mem_cons_of_mem _ (List.mem_cons_of_mem _ (List.mem_cons_of_mem _ (List.mem_cons_of_mem _ hy)))
    refine K1 q0 h8 pp (fr_trans (fr_mono (fun _ w => w) (fun y hy => ?_) kk) (fr_trans (fr_mono (fun _ w => w) sub k5) (fr_trans (fr_mono (by decide) (fun y hy => ?_) k7) (fr_mono (by decide) (fun y hy => ?_) k8)))) (KPs_fr (KPs_fr (KPs_tr kp5 kp6) k7 (by decide)) k8 (by decide)) (HS_fr (HS_fr hx6 k7 (by decide) (by decide) (by decide) (by decide) (by decide) (by decide) (by decide)) k8 (by decide) (by decide) (by decide) (by decide) (by decide) (by decide) (by decide)) (CVs_fr (CVs_fr cv6 k7 (by decide)) k8 (by decide)) ?_ ?_ ?_
    · rcases List.mem_cons.mp hy with e | e
      · rw [e]; exact List.mem_cons_self
      · exact sub y e
    · rcases List.mem_cons.mp hy with e | e
      · rw [e]; exact List.mem_cons_of_mem _ List.mem_cons_self
      · rw [List.mem_singleton.mp e]; exact List.mem_cons_of_mem _ (List.mem_cons_of_mem _ List.mem_cons_self)
    · rw [List.mem_singleton.mp hy]; exact List.mem_cons_of_mem _ (List.mem_cons_of_mem _ (List.mem_cons_of_mem _ List.mem_cons_self))
    · rw [frV k8 (by decide) (by decide)]; exact v3
    · rw [frV k8 (by decide) (by decide)]; exact v4
    · rw [f19, frI k8 (by decide) (by decide)]
  · have ce6 := CE_fr ce k5 (fun _ w => w) (fun _ w => w)
    have g6 := ce6.1
    have ob6' : obj h6 24 7 := by simp only [gO g6]
    have o66 : obj h6 6 2 := by simp only [gO g6]
    have yn : y ≠ 0 := fun w => q0 (by rw [← ey', w]; rfl)
    refine jT_X7_perform_278 (jif_n yn ?_)
    rw [jgf_ob ob6' rfl, show fV h6 24 0 = .ref 6 by simp only [gF g6], jrc_ob o66]
    change jex X (d + 4 + 1) 136 _ _ _
    rw [jE_X2_setAll]
    refine jT_X2_setAll_0 ?_
    simp (decide := true) only [jpI_ob (c := 2), obj_sV, o66]
    try dsimp only [jrI, jrN, jrA, jisr, jnul, jcat1]
    generalize ee : sV (sV (sV (sV h6 6 4 (.int (fI h 6 4))) 6 5 (.int (fI h 6 5))) 6 6 (.int (fI h 6 6))) 6 7 (.int (fI h 6 7)) = h7
    have ee := ee.symm
    have k7 : fr [] [(6, 4), (6, 5), (6, 6), (6, 7)] h6 h7 := by rw [ee]; exact fr_sV (by decide) (fr_sV (by decide) (fr_sV (by decide) (fr_sV (by decide) fr_rfl)))
    have s4 : fI h7 6 4 = fI h 6 4 ∧ fI h7 6 5 = fI h 6 5 ∧ fI h7 6 6 = fI h 6 6 ∧ fI h7 6 7 = fI h 6 7 := by rw [ee]; simp (decide := true) only [jgI_ob, jgf_ob, jgL_ob, jpI_ob, jpL_ob, jpR_ob, jpN_ob, jrc_ob, obj_sV, obj_wF, obj_wG, obj_wR, arr_sV, arr_wF, arr_wG, arr_wR, arL_sV, arL_wF, arL_wG, arL_wR, arR_sV, arR_wF, arR_wG, arR_wR, fI_sV (c := 0), fI_sV (c := 1), fI_sV (c := 2), fI_sV (c := 4), fI_sV (c := 5), fI_sV (c := 7), fI_sV (c := 8), fI_sV (c := 9), fI_sV (c := 10), fI_sV (c := 11), fI_sV (c := 12), fI_sV (c := 6), fL_sV (c := 9), fL_sV (c := 12), fI_sV_k, fL_sV_k, fV_sV_k, fI_wF, fI_wG, fI_wR, fL_wF, fL_wG, fL_wR, fV_wF, fV_wG, fV_wR, aF_sV, aG_sV, aR_sV, aF_wG, aF_wR, aG_wF, aG_wR, aR_wF, aR_wG, o66, and_self]
    clear ee
    have g7 := G_fr g6 (by decide +kernel) k7
    have ob7 : obj h7 24 7 := by simp only [gO g7]
    rw [jpI_ob ob7 rfl]
    have k8 : fr [] [(24, 17)] h7 (sV h7 24 17 (.int y)) := fr_sV (by decide) fr_rfl
    have f17 : fI (sV h7 24 17 (.int y)) 24 17 = y := fI_sV ob7 rfl
    generalize sV h7 24 17 (.int y) = h8 at *
    have g8 := G_fr g7 (by decide +kernel) k8
    have ob8 : obj h8 24 7 := by simp only [gO g8]
    have px8 : PXs h8 p u N K := PX_fr (PX_fr ce6.2.2.2.2.2.2.1 k7 (by decide) (by decide)) k8 (by decide) (by decide)
    have j2 : fV h8 24 2 = .ref p := by rw [frV k8 (by decide) (by decide), frV k7 (by decide) (by decide)]; exact ce6.2.2.2.2.2.2.2.1
    have j16 : fI h8 24 16 = nI R.2.1 := by rw [frI k8 (by decide) (by decide), frI k7 (by decide) (by decide)]; exact f16
    rw [jgf_ob ob8 rfl, j2, jgI_ob ob8 rfl, j16, jrc_ob (px_ob g8 px8)]
    refine c_pstart (d := d + 3) g8 px8 K4 rfl hkb ?_
    try dsimp only [jrI, jrN, jrA, jisr, jnul, jcat1]
    rw [jpI_ob ob8 rfl]
    have k9 : fr [] [(24, 18)] h8 (sV h8 24 18 (.int (nI (tS u N R.2.1)))) := fr_sV (by decide) fr_rfl
    have f18 : fI (sV h8 24 18 (.int (nI (tS u N R.2.1)))) 24 18 = nI (tS u N R.2.1) := fI_sV ob8 rfl
    generalize sV h8 24 18 (.int (nI (tS u N R.2.1))) = h9 at *
    refine ⟨by decide, ?_⟩
    try dsimp only [jrI, jrN, jrA, jisr, jnul, jcat1]
    refine jif_t (by decide) ?_
    have sub : ∀ y, y ∈ cFv → y ∈ rF0 := fun y hy => List.mem_cons_of_mem _ (List.mem_cons_of_mem _ (List.mem_cons_of_mem _ hy))
    refine K0 q0 h9 (fr_trans (fr_mono (fun _ w => w) (fun y hy => ?_) kk) (fr_trans (fr_mono (fun _ w => w) sub k5) (fr_trans (fr_mono (by decide) (fun y hy => ?_) k7) (fr_trans (fr_mono (by decide) (fun y hy => ?_) k8) (fr_mono (by decide) (fun y hy => ?_) k9))))) (KPs_fr (KPs_fr (KPs_fr (KPs_tr kp5 kp6) k7 (by decide)) k8 (by decide)) k9 (by decide)) ?_ ?_ f18
    · rcases List.mem_cons.mp hy with e | e
      · rw [e]; exact List.mem_cons_self
      · exact sub y e
    · exact sub y (List.mem_append_left _ ((show ∀ y, y ∈ ([(6, 4), (6, 5), (6, 6), (6, 7)] : List (Nat × Nat)) → y ∈ cF by decide) y hy))
    · rw [List.mem_singleton.mp hy]; exact List.mem_cons_of_mem _ List.mem_cons_self
    · rw [List.mem_singleton.mp hy]; exact List.mem_cons_of_mem _ (List.mem_cons_of_mem _ List.mem_cons_self)
    · rw [frI k9 (by decide) (by decide), frI k8 (by decide) (by decide), frI k9 (by decide) (by decide), frI k8 (by decide) (by decide), frI k9 (by decide) (by decide), frI k8 (by decide) (by decide), frI k9 (by decide) (by decide), frI k8 (by decide) (by decide)]
      exact s4
    · rw [frI k9 (by decide) (by decide), f17]; exact ey'
end CRU2
