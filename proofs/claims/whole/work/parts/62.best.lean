/-! THE BEST ORDER: class and model alike -/
def nc (h : JH) : Nat := (fI h 59 3).toInt.toNat
def Uc (h : JH) (k : Nat) : Int := (lgU ((aF h 60 k).toInt - 100).toNat : Nat)
def Pc (h : JH) (k : Nat) : Int := (aF h 61 k).toInt
def Oc (h : JH) (k : Nat) : Bool := decide (aF h 62 k ≠ 0)
def anyO (n : Nat) (O : Nat → Bool) : Bool := (List.range n).any (fun k => !(O k))
def BF (h : JH) : Acc := fo (Uc h) (Pc h) (Oc h) (anyO (nc h) (Oc h)) (nc h) 5040 (List.range (nc h)) none
/-- what the class has kept of its search -/
def SE (h : JH) : Prop := fI h 59 9 = 0 ∨ (1 ≤ nc h ∧ AC h (nc h) (BF h))
def F65 : List (Nat × Nat) := F64 ++ FMo
section BST
variable {X : JX} {d : Nat} {Q : JQ} {h h1 : JH}
theorem AN_any {n : Nat} {O : Nat → Bool} : AN n O (anyO n O) := by
  unfold AN anyO
  refine ⟨fun e => ?_, fun e f hf => ?_⟩
  · obtain ⟨f, h1, h2⟩ := List.any_eq_true.mp e
    refine ⟨f, List.mem_range.mp h1, ?_⟩
    cases c : O f with
    | false => rfl
    | true => rw [c] at h2; cases h2
  · cases c : O f with
    | true => rfl
    | false =>
      have : (List.range n).any (fun k => !(O k)) = true := List.any_eq_true.mpr ⟨f, List.mem_range.mpr hf, by rw [c]; rfl⟩
      rw [this] at e
      cases e
theorem BF_eq (e3 : fI h1 59 3 = fI h 59 3) (e60 : aF h1 60 = aF h 60) (e61 : aF h1 61 = aF h 61) (e62 : aF h1 62 = aF h 62) : nc h1 = nc h ∧ BF h1 = BF h := by
  have a0 : nc h1 = nc h := by unfold nc; rw [e3]
  have a1 : Uc h1 = Uc h := by funext k; unfold Uc; rw [e60]
  have a2 : Pc h1 = Pc h := by funext k; unfold Pc; rw [e61]
  have a3 : Oc h1 = Oc h := by funext k; unfold Oc; rw [e62]
  refine ⟨a0, ?_⟩
  unfold BF
  rw [a0, a1, a2, a3]
theorem SE_fw {A : List Nat} {F : List (Nat × Nat)} (x : SE h) (a : fw A F h h1) (k : offF [(59, 3), (59, 9), (59, 10), (59, 11), (59, 12)] F = true) (k2 : offA [60, 61, 62, 69] A = true) : SE h1 := by
  have e := offV a k
  have e2 := offR a k2
  have v : ∀ q, (59, q) ∈ [(59, 3), (59, 9), (59, 10), (59, 11), (59, 12)] → fI h1 59 q = fI h 59 q := fun q hq => by unfold fI; rw [e (59, q) hq]
  have b := BF_eq (h := h) (h1 := h1) (v 3 (by decide)) (e2 60 (by decide)).1 (e2 61 (by decide)).1 (e2 62 (by decide)).1
  unfold SE at *
  rw [v 9 (by decide), b.1, b.2]
  rcases x with x | ⟨x, y⟩
  · exact Or.inl x
  · exact Or.inr ⟨x, AC_eq y (v 10 (by decide)) (v 11 (by decide)) (v 12 (by decide)) (e2 69 (by decide)).1⟩
theorem FC_n (fc : FC h) : (fI h 59 3).toInt = nc h ∧ nc h ≤ 7 ∧ (fI h 81 58).toInt = nc h := by
  obtain ⟨e, x0, x1, x2⟩ := fc
  unfold nc
  rw [e]
  omega
theorem FC_bi {x : Int32} (c : x = 0 ∨ x = 1) : x = bi (decide (x ≠ 0)) := by
  rcases c with c | c <;> rw [c] <;> rfl
theorem FC_FD (fc : FC h) : FD h 60 61 62 (nc h) (Uc h) (Pc h) (Oc h) ∧ FD h 113 114 115 (nc h) (Uc h) (Pc h) (Oc h) := by
  have hn := FC_n fc
  obtain ⟨e, x0, x1, x2⟩ := fc
  refine ⟨fun k hk => ?_, fun k hk => ?_⟩
  · obtain ⟨y1, y2, y3, y4, y5, y6, y7, y8⟩ := x2 k (by omega)
    exact ⟨y4, y5, rfl, rfl, y6, y7, FC_bi y8⟩
  · obtain ⟨y1, y2, y3, y4, y5, y6, y7, y8⟩ := x2 k (by omega)
    rw [y1, y2, y3]
    exact ⟨y4, y5, rfl, rfl, y6, y7, FC_bi y8⟩
theorem BF_some (fc : FC h) (h1 : 1 ≤ nc h) : ∃ q, BF h = some q := by
  have := fo_best (U := Uc h) (P := Pc h) h1 (FC_n fc).2.1 (AN_any (n := nc h) (O := Oc h)).1
  unfold BF
  cases e : fo (Uc h) (Pc h) (Oc h) (anyO (nc h) (Oc h)) (nc h) 5040 (List.range (nc h)) none with
  | none => rw [e] at this; cases this
  | some q => exact ⟨q, rfl⟩
theorem c_settled (g : G h) (fc : FC h) (se : SE h) (h1 : 1 ≤ nc h) (H : ∀ h' q, fr [68, 69] F64 h h' → SE h' → BF h = some q → AC h' (nc h) (some q) → Q none h') : jex X (d + 5) 234 [.ref 59] h Q := by
  obtain ⟨q, hq⟩ := BF_some fc h1
  refine c_settle g h1 (FC_n fc).2.1 (FC_n fc).1 (FC_FD fc).1 AN_any (fun c => ?_) (fun c h' k e9 ac => ?_)
  · refine H h q fr_rfl se hq ?_
    rcases se with x | ⟨x, y⟩
    · exact absurd x c
    · rw [hq] at y; exact y
  · have b := BF_eq (h := h) (h1 := h') (frI k (by decide) (by decide)) (frF k (by decide)) (frF k (by decide)) (frF k (by decide))
    have ac2 : AC h' (nc h) (BF h) := ac
    refine H h' q k (Or.inr ⟨by rw [b.1]; exact h1, by rw [b.1, b.2]; exact ac2⟩) hq (by rw [← hq]; exact ac2)
theorem c_orders (g : G h) (fc : FC h) (h1 : 1 ≤ nc h) (H : ∀ h' q, fr [116, 117] FMo h h' → BF h = some q → MA h' (nc h) q → Q (some (.int 1)) h') : jex X (d + 3) 241 [.ref 81] h Q :=
  c_ordered g h1 (FC_n fc).2.1 (FC_n fc).2.2 (FC_FD fc).2 AN_any (fun h' q k e ma => H h' q k e ma)
theorem a_fewest (g : G h) (fc : FC h) (se : SE h) {a1 : Int32} : AGR X 233 240 [.int a1] h (fun h2 => fr [68, 69, 116, 117] F65 h h2 ∧ SE h2) := by
  have fn := FC_n fc
  intro Q K
  rw [jE_X11_fewest]
  refine jT_X11_fewest_0 ?_
  simp (decide := true) only [jgI_ob, jgf_ob, jgL_ob, jpI_ob, jpL_ob, jpR_ob, jpN_ob, jrc_ob, obj_sV, obj_wF, obj_wG, obj_wR, arr_sV, arr_wF, arr_wG, arr_wR, arL_sV, arL_wF, arL_wG, arL_wR, arR_sV, arR_wF, arR_wG, arR_wR, fI_sV (c := 0), fI_sV (c := 1), fI_sV (c := 2), fI_sV (c := 4), fI_sV (c := 5), fI_sV (c := 7), fI_sV (c := 8), fI_sV (c := 9), fI_sV (c := 10), fI_sV (c := 11), fI_sV (c := 12), fI_sV (c := 6), fL_sV (c := 9), fL_sV (c := 12), fI_sV_k, fL_sV_k, fV_sV_k, fI_wF, fI_wG, fI_wR, fL_wF, fL_wG, fL_wR, fV_wF, fV_wG, fV_wR, aF_sV, aG_sV, aR_sV, aF_wG, aF_wR, aG_wF, aG_wR, aR_wF, aR_wG, gO g, gF g]
  refine ⟨fun c => ?_, fun c => ?_⟩
  · refine K _ _ (fun Q2 H => ?_)
    rw [jE_X12_fewest]
    refine jT_X12_fewest_0 ?_
    rw [jrc_ob (by simp only [gM g]), jE_X12_ordered]
    refine jT_X12_ordered_0 ?_
    rw [jgI_ob (c := 12) (by simp only [gM g]) rfl, fc.1]
    refine jif_t c ⟨by decide, ?_⟩
    try dsimp only [jrI, jrN, jrA, jisr, jnul, jcat1]
    exact jif_t rfl (H _ ⟨fr_rfl, se⟩)
  · have h1 : 1 ≤ nc h := by
      have : (fI h 59 3).toInt ≠ 0 := fun e => c (by rw [← Int32.toInt_inj]; exact e)
      omega
    refine c_settled (d := 4) g fc se h1 (fun h4 q k se4 hq ac => ?_)
    try dsimp only [jrI, jrN, jrA, jisr, jnul, jcat1]
    have g4 := G_fr g rfl k
    have fc4 : FC h4 := FC_fw fc (fw_fr k) rfl rfl
    have b := BF_eq (h := h) (h1 := h4) (frI k (by decide) (by decide)) (frF k (by decide)) (frF k (by decide)) (frF k (by decide))
    obtain ⟨c1, c2, c3, c4, c5⟩ := ac
    have R : ∀ (y : Int32), (∀ h', G h' → MA h' (nc h) q → ∀ Q2 : JQ, Q2 (some (.int y)) h' → jifp (a1 = 0) (jgI h' (.ref 81) 12 64 fun x6 => (Q2 (some (.int x6)) h')) (jifp (a1 = 1) (jgI h' (.ref 81) 12 65 fun x5 => (Q2 (some (.int x5)) h')) (jifp (a1 = 2) (jgI h' (.ref 81) 12 66 fun x4 => (Q2 (some (.int x4)) h')) (Q2 (some (.int (-1000))) h')))) → Q (some (.int y)) h4 := by
      intro y hy
      refine K _ _ (fun Q2 H => ?_)
      rw [jE_X12_fewest]
      refine jT_X12_fewest_0 ?_
      rw [jrc_ob (by simp only [gM g4])]
      refine c_orders (d := 6) g4 fc4 (by rw [b.1]; exact h1) (fun h5 q5 k5 hq5 ma => ?_)
      rw [b.2, hq] at hq5
      have := Option.some.inj hq5
      subst this
      rw [b.1] at ma
      try dsimp only [jrI, jrN, jrA, jisr, jnul, jcat1]
      refine jif_n (by decide) (hy h5 (G_fr g4 rfl k5) ma Q2 (H h5 ⟨?_, SE_fw se4 (fw_fr k5) rfl rfl⟩))
      exact fr_trans (fr_mono (fun p c => by rcases List.mem_cons.mp c with e | c; rw [e]; decide; rw [List.mem_singleton.mp c]; decide) (fun p c => List.mem_append_left _ c) k) (fr_mono (fun p c => by rcases List.mem_cons.mp c with e | c; rw [e]; decide; rw [List.mem_singleton.mp c]; decide) (fun p c => List.mem_append_right _ c) k5)
    rw [jgf_ob (c := 11) (by simp only [gO g4]) rfl, show fV h4 0 9 = .ref 59 by simp only [gF g4]]
    simp (decide := true) only [jgI_ob, jgf_ob, jgL_ob, jpI_ob, jpL_ob, jpR_ob, jpN_ob, jrc_ob, obj_sV, obj_wF, obj_wG, obj_wR, arr_sV, arr_wF, arr_wG, arr_wR, arL_sV, arL_wF, arL_wG, arL_wR, arR_sV, arR_wF, arR_wG, arR_wR, fI_sV (c := 0), fI_sV (c := 1), fI_sV (c := 2), fI_sV (c := 4), fI_sV (c := 5), fI_sV (c := 7), fI_sV (c := 8), fI_sV (c := 9), fI_sV (c := 10), fI_sV (c := 11), fI_sV (c := 12), fI_sV (c := 6), fL_sV (c := 9), fL_sV (c := 12), fI_sV_k, fL_sV_k, fV_sV_k, fI_wF, fI_wG, fI_wR, fL_wF, fL_wG, fL_wR, fV_wF, fV_wG, fV_wR, aF_sV, aG_sV, aR_sV, aF_wG, aF_wR, aG_wF, aG_wR, aR_wF, aR_wG, gO g4]
    refine ⟨fun e => ?_, fun e => ⟨fun e2 => ?_, fun e2 => ⟨fun e3 => ?_, fun e3 => ?_⟩⟩⟩
    · refine R _ (fun h5 g5 ma Q2 q2 => jif_t e ?_)
      rw [jgI_ob (c := 12) (by simp only [gM g5]) rfl, show fI h5 81 64 = fI h4 59 10 by rw [← Int32.toInt_inj, ma.1, c1]]
      exact q2
    · rw [show fV h4 0 9 = .ref 59 by simp only [gF g4], jgI_ob (c := 4) (by simp only [gO g4]) rfl]
      refine R _ (fun h5 g5 ma Q2 q2 => jif_n e (jif_t e2 ?_))
      rw [jgI_ob (c := 12) (by simp only [gM g5]) rfl, show fI h5 81 65 = fI h4 59 11 by rw [← Int32.toInt_inj, ma.2.1, c2]]
      exact q2
    · rw [show fV h4 0 9 = .ref 59 by simp only [gF g4], jgI_ob (c := 4) (by simp only [gO g4]) rfl]
      refine R _ (fun h5 g5 ma Q2 q2 => jif_n e (jif_n e2 (jif_t e3 ?_)))
      rw [jgI_ob (c := 12) (by simp only [gM g5]) rfl, show fI h5 81 66 = fI h4 59 12 by rw [← Int32.toInt_inj, ma.2.2.1, c3]]
      exact q2
    · exact R _ (fun h5 g5 ma Q2 q2 => jif_n e (jif_n e2 (jif_n e3 q2)))
theorem a_order (g : G h) (fc : FC h) (se : SE h) {a1 : Int32} : AGR X 245 247 [.int a1] h (fun h2 => fr [68, 69, 116, 117] F65 h h2 ∧ SE h2) := by
  have fn := FC_n fc
  intro Q K
  rw [jE_X11_order]
  refine jT_X11_order_0 ?_
  simp (decide := true) only [jgI_ob, jgf_ob, jgL_ob, jpI_ob, jpL_ob, jpR_ob, jpN_ob, jrc_ob, obj_sV, obj_wF, obj_wG, obj_wR, arr_sV, arr_wF, arr_wG, arr_wR, arL_sV, arL_wF, arL_wG, arL_wR, arR_sV, arR_wF, arR_wG, arR_wR, fI_sV (c := 0), fI_sV (c := 1), fI_sV (c := 2), fI_sV (c := 4), fI_sV (c := 5), fI_sV (c := 7), fI_sV (c := 8), fI_sV (c := 9), fI_sV (c := 10), fI_sV (c := 11), fI_sV (c := 12), fI_sV (c := 6), fL_sV (c := 9), fL_sV (c := 12), fI_sV_k, fL_sV_k, fV_sV_k, fI_wF, fI_wG, fI_wR, fL_wF, fL_wG, fL_wR, fV_wF, fV_wG, fV_wR, aF_sV, aG_sV, aR_sV, aF_wG, aF_wR, aG_wF, aG_wR, aR_wF, aR_wG, gO g, gF g]
  rw [jE_X4_factorInOrder]
  refine jT_X4_factorInOrder_0 ⟨fun c => ?_, fun c => ?_⟩
  · try dsimp only [jrI, jrN, jrA, jisr, jnul, jcat1]
    refine K _ _ (fun Q2 H => ?_)
    rw [jE_X12_order]
    exact jT_X12_order_0 (jif_t c (H _ ⟨fr_rfl, se⟩))
  · simp (decide := true) only [jgI_ob, jgf_ob, jgL_ob, jpI_ob, jpL_ob, jpR_ob, jpN_ob, jrc_ob, obj_sV, obj_wF, obj_wG, obj_wR, arr_sV, arr_wF, arr_wG, arr_wR, arL_sV, arL_wF, arL_wG, arL_wR, arR_sV, arR_wF, arR_wG, arR_wR, fI_sV (c := 0), fI_sV (c := 1), fI_sV (c := 2), fI_sV (c := 4), fI_sV (c := 5), fI_sV (c := 7), fI_sV (c := 8), fI_sV (c := 9), fI_sV (c := 10), fI_sV (c := 11), fI_sV (c := 12), fI_sV (c := 6), fL_sV (c := 9), fL_sV (c := 12), fI_sV_k, fL_sV_k, fV_sV_k, fI_wF, fI_wG, fI_wR, fL_wF, fL_wG, fL_wR, fV_wF, fV_wG, fV_wR, aF_sV, aG_sV, aR_sV, aF_wG, aF_wR, aG_wF, aG_wR, aR_wF, aR_wG, kC, kM, gO g, gF g]
    refine ⟨fun c2 => ?_, fun c2 => ?_⟩
    · rw [ti_lt] at c c2
      have c' : 0 ≤ a1.toInt := by rw [tl.1] at c; omega
      have h1 : 1 ≤ nc h := by omega
      have iv : vp_in a1 7 := by rw [vp_inI]; omega
      have ea : a1.toNatClampNeg = a1.toInt.toNat := ti_clamp a1
      refine jif_t (by rw [ti_lt]; show a1.toInt < 7; omega) ?_
      refine c_settled (d := 3) g fc se h1 (fun h4 q k se4 hq ac => ?_)
      try dsimp only [jrI, jrN, jrA, jisr, jnul, jcat1]
      have g4 := G_fr g rfl k
      have fc4 : FC h4 := FC_fw fc (fw_fr k) rfl rfl
      have b := BF_eq (h := h) (h1 := h4) (frI k (by decide) (by decide)) (frF k (by decide)) (frF k (by decide)) (frF k (by decide))
      obtain ⟨c1, c2', c3, c4, c5⟩ := ac
      simp (decide := true) only [jgI_ob, jgf_ob, jgL_ob, jpI_ob, jpL_ob, jpR_ob, jpN_ob, jrc_ob, obj_sV, obj_wF, obj_wG, obj_wR, arr_sV, arr_wF, arr_wG, arr_wR, arL_sV, arL_wF, arL_wG, arL_wR, arR_sV, arR_wF, arR_wG, arR_wR, fI_sV (c := 0), fI_sV (c := 1), fI_sV (c := 2), fI_sV (c := 4), fI_sV (c := 5), fI_sV (c := 7), fI_sV (c := 8), fI_sV (c := 9), fI_sV (c := 10), fI_sV (c := 11), fI_sV (c := 12), fI_sV (c := 6), fL_sV (c := 9), fL_sV (c := 12), fI_sV_k, fL_sV_k, fV_sV_k, fI_wF, fI_wG, fI_wR, fL_wF, fL_wG, fL_wR, fV_wF, fV_wG, fV_wR, aF_sV, aG_sV, aR_sV, aF_wG, aF_wR, aG_wF, aG_wR, aR_wF, aR_wG, kC, kM, gO g4, gF g4, iv, true_and]
      refine K _ _ (fun Q2 H => ?_)
      rw [jE_X12_order]
      refine jT_X12_order_0 (jif_n (by rw [ti_lt]; exact c) ?_)
      rw [jgI_ob (c := 12) (by simp only [gM g4]) rfl]
      refine jif_t (by rw [ti_lt, (FC_n fc4).2.2, b.1]; omega) ?_
      rw [jrc_ob (by simp only [gM g4])]
      refine c_orders (d := 6) g4 fc4 (by rw [b.1]; exact h1) (fun h5 q5 k5 hq5 ma => ?_)
      rw [b.2, hq] at hq5
      have := Option.some.inj hq5
      subst this
      rw [b.1] at ma
      try dsimp only [jrI, jrN, jrA, jisr, jnul, jcat1]
      have g5 := G_fr g4 rfl k5
      refine jif_n (by decide) ?_
      simp (decide := true) only [jgI_ob, jgf_ob, jgL_ob, jpI_ob, jpL_ob, jpR_ob, jpN_ob, jrc_ob, obj_sV, obj_wF, obj_wG, obj_wR, arr_sV, arr_wF, arr_wG, arr_wR, arL_sV, arL_wF, arL_wG, arL_wR, arR_sV, arR_wF, arR_wG, arR_wR, fI_sV (c := 0), fI_sV (c := 1), fI_sV (c := 2), fI_sV (c := 4), fI_sV (c := 5), fI_sV (c := 7), fI_sV (c := 8), fI_sV (c := 9), fI_sV (c := 10), fI_sV (c := 11), fI_sV (c := 12), fI_sV (c := 6), fL_sV (c := 9), fL_sV (c := 12), fI_sV_k, fL_sV_k, fV_sV_k, fI_wF, fI_wG, fI_wR, fL_wF, fL_wG, fL_wR, fV_wF, fV_wG, fV_wR, aF_sV, aG_sV, aR_sV, aF_wG, aF_wR, aG_wF, aG_wR, aR_wF, aR_wG, kC, kM, gM g5, gN g5, iv, true_and]
      have el : a1.toInt.toNat < q.2.2.2.length := by rw [c5.1]; omega
      rw [ea, ma.2.2.2.1 _ el, ← c4 _ el, ← ea]
      exact H h5 ⟨fr_trans (fr_mono (fun p c => by rcases List.mem_cons.mp c with e | c; rw [e]; decide; rw [List.mem_singleton.mp c]; decide) (fun p c => List.mem_append_left _ c) k) (fr_mono (fun p c => by rcases List.mem_cons.mp c with e | c; rw [e]; decide; rw [List.mem_singleton.mp c]; decide) (fun p c => List.mem_append_right _ c) k5), SE_fw se4 (fw_fr k5) rfl rfl⟩
    · try dsimp only [jrI, jrN, jrA, jisr, jnul, jcat1]
      refine K _ _ (fun Q2 H => ?_)
      rw [jE_X12_order]
      refine jT_X12_order_0 (jif_n c ?_)
      rw [jgI_ob (c := 12) (by simp only [gM g]) rfl, fc.1]
      exact jif_n c2 (H _ ⟨fr_rfl, se⟩)
end BST
