/-! WHAT CLASS AND MODEL HAVE IN COMMON -/
/-- the standing cells as they were, but for the arrays A and the fields F -/
def fw (A : List Nat) (F : List (Nat × Nat)) (h h1 : JH) : Prop := (∀ p, p < 126 → p ∉ A → aF h1 p = aF h p ∧ aG h1 p = aG h p ∧ aR h1 p = aR h p) ∧ (∀ p k, p < 126 → (p, k) ∉ F → fV h1 p k = fV h p k)
theorem fw_fr {A : List Nat} {F : List (Nat × Nat)} {h h1 : JH} (a : fr A F h h1) : fw A F h h1 := ⟨fun p _ hn => a.2.2.1 p hn, fun p k hp hn => a.2.2.2 p k hn (fun c => by omega)⟩
def offF (L F : List (Nat × Nat)) : Bool := L.all (fun q => !(F.contains q) && (q.1 < 126))
def offA (L A : List Nat) : Bool := L.all (fun q => !(A.contains q) && (q < 126))
theorem offV {A : List Nat} {F : List (Nat × Nat)} {h h1 : JH} (a : fw A F h h1) {L : List (Nat × Nat)} (k : offF L F = true) (q : Nat × Nat) (hq : q ∈ L) : fV h1 q.1 q.2 = fV h q.1 q.2 := by
  have h2 := List.all_eq_true.mp k q hq
  rw [Bool.and_eq_true, Bool.not_eq_true', ← Bool.not_eq_true, decide_eq_true_eq] at h2
  exact a.2 _ _ h2.2 (fun c => h2.1 (List.contains_iff_mem.mpr c))
theorem offR {A : List Nat} {F : List (Nat × Nat)} {h h1 : JH} (a : fw A F h h1) {L : List Nat} (k : offA L A = true) (q : Nat) (hq : q ∈ L) : aF h1 q = aF h q ∧ aG h1 q = aG h q ∧ aR h1 q = aR h q := by
  have h2 := List.all_eq_true.mp k q hq
  rw [Bool.and_eq_true, Bool.not_eq_true', ← Bool.not_eq_true, decide_eq_true_eq] at h2
  exact a.1 _ h2.2 (fun c => h2.1 (List.contains_iff_mem.mpr c))
/-- the rules and their scales -/
def RB (h : JH) (n : Nat) (m ρ τ : Nat → Nat) (b : Nat → Bool) (f : Nat → Nat) (t : Nat → Bool) (fl : Nat → Nat → Int) : Prop := n ≤ 4 ∧ (fI h 0 2).toInt = n ∧ (fI h 81 4).toInt = n ∧ (∀ r, r < n → m r ≤ 8 ∧ aR h 5 r = some (ρ r) ∧ 126 ≤ ρ r ∧ obj h (ρ r) 6 ∧ fV h (ρ r) 0 = .ref (ρ r + 1) ∧ arR h (ρ r + 1) 8 8 ∧ (fI h (ρ r) 1).toInt = m r ∧ (aF h 83 r).toInt = m r) ∧ (∀ r s, r < n → s < m r → aR h (ρ r + 1) s = some (τ (8 * r + s)) ∧ 126 ≤ τ (8 * r + s) ∧ SC h (τ (8 * r + s)) (b (8 * r + s)) (f (8 * r + s)) (t (8 * r + s)) (fl (8 * r + s)) ∧ SM h (8 * r + s) (b (8 * r + s)) (f (8 * r + s)) (t (8 * r + s)) (fl (8 * r + s))) ∧ (∀ r r', r < n → r' < n → ρ r = ρ r' → r = r') ∧ (∀ r s r' s', r < n → s < m r → r' < n → s' < m r' → τ (8 * r + s) = τ (8 * r' + s') → 8 * r + s = 8 * r' + s') ∧ (∀ r s j, r < 4 → s < 8 → (r < n → m r ≤ s) → j < 16 → aF h 87 (16 * (8 * r + s) + j) = 0)
/-- the steps of hand and eye -/
def ST (h : JH) : Prop := fI h 81 10 = fI h 6 0 ∧ fI h 81 11 = fI h 6 1 ∧ 0 ≤ (fI h 6 0).toInt ∧ (fI h 6 0).toInt ≤ 20 ∧ 9 ≤ (fI h 6 1).toInt ∧ (fI h 6 1).toInt ≤ 40
/-- the rule in hand; B bounds the doubts -/
def HD (B : Int) (h : JH) (n : Nat) (ρ : Nat → Nat) : Prop := fI h 81 13 = fI h 6 3 ∧ fI h 81 14 = fI h 6 4 ∧ fI h 81 15 = fI h 6 5 ∧ fI h 81 16 = fI h 6 6 ∧ fI h 81 17 = fI h 6 7 ∧ -4096 ≤ (fI h 6 4).toInt ∧ (fI h 6 4).toInt ≤ 4096 ∧ 0 ≤ (fI h 6 5).toInt ∧ (fI h 6 5).toInt ≤ 4096 ∧ 0 ≤ (fI h 6 6).toInt ∧ (fI h 6 6).toInt ≤ B ∧ 0 ≤ (fI h 6 7).toInt ∧ (fI h 6 7).toInt ≤ B ∧ (((fI h 6 3).toInt = -1 ∧ fV h 6 2 = .null) ∨ ∃ r, r < n ∧ (fI h 6 3).toInt = (r : Nat) ∧ fV h 6 2 = .ref (ρ r))
/-- a byte as the model keeps it -/
def sg (x : Int) : Int := if x < 128 then x else x - 256
/-- the tape -/
def TP (h : JH) : Prop := fI h 81 1 = fI h 7 1 ∧ 0 ≤ (fI h 7 1).toInt ∧ (fI h 7 1).toInt ≤ 2000 ∧ ∀ i : Nat, (i : Int) < (fI h 7 1).toInt → 0 ≤ (aF h 8 i).toInt ∧ (aF h 8 i).toInt ≤ 255 ∧ (aF h 82 i).toInt = sg (aF h 8 i).toInt
/-- the factors -/
def FC (h : JH) : Prop := fI h 81 58 = fI h 59 3 ∧ 0 ≤ (fI h 59 3).toInt ∧ (fI h 59 3).toInt ≤ 7 ∧ ∀ i : Nat, (i : Int) < (fI h 59 3).toInt → aF h 113 i = aF h 60 i ∧ aF h 114 i = aF h 61 i ∧ aF h 115 i = aF h 62 i ∧ 100 ≤ (aF h 60 i).toInt ∧ (aF h 60 i).toInt ≤ 999 ∧ -99 ≤ (aF h 61 i).toInt ∧ (aF h 61 i).toInt ≤ 99 ∧ (aF h 62 i = 0 ∨ aF h 62 i = 1)
/-- the chart -/
def CH (h : JH) : Prop := fI h 81 70 = fI h 70 0 ∧ fI h 81 71 = fI h 70 1 ∧ fI h 81 72 = fI h 70 2 ∧ fI h 81 73 = fI h 70 3 ∧ 1 ≤ (fI h 70 0).toInt ∧ (fI h 70 0).toInt ≤ 3 ∧ 1 ≤ (fI h 70 1).toInt ∧ (fI h 70 1).toInt ≤ 3 ∧ 1 ≤ (fI h 70 2).toInt ∧ (fI h 70 2).toInt ≤ 7 ∧ 1 ≤ (fI h 70 3).toInt ∧ (fI h 70 3).toInt ≤ 9
/-- one fact -/
def FA1 (h : JH) (n : Nat) (m f : Nat → Nat) (t : Nat → Bool) (i : Nat) : Prop := ((aF h 72 i).toInt = -1 ∧ (aF h 118 i).toInt = -1 ∧ ∃ j : Nat, j < i ∧ (aF h 76 i).toInt = j ∧ (aF h 119 i).toInt = j) ∨ ∃ r o e x y x' y' : Nat, r < n ∧ o < m r ∧ e < m r ∧ o ≠ e ∧ (aF h 72 i).toInt = r ∧ (aF h 118 i).toInt = r ∧ (aF h 119 i).toInt = o ∧ (aF h 122 i).toInt = e ∧ (aF h 120 i).toInt = x ∧ (aF h 121 i).toInt = y ∧ 100 ≤ y ∧ y ≤ 999 ∧ 900 * x + y ≤ 900 * f (8 * r + o) + 100 ∧ (aF h 123 i).toInt = x' ∧ (aF h 124 i).toInt = y' ∧ 100 ≤ y' ∧ y' ≤ 999 ∧ 900 * x' + y' ≤ 900 * f (8 * r + e) + 100 ∧ (aF h 73 i).toInt = tp (f (8 * r + o)) (t (8 * r + o)) (900 * x + y - 100) - tp (f (8 * r + e)) (t (8 * r + e)) (900 * x' + y' - 100) ∧ (aF h 74 i).toInt = 16 * (o : Int) + min (tp (f (8 * r + o)) (t (8 * r + o)) (900 * x + y - 100) / 256) 15 ∧ (aF h 75 i).toInt = 16 * (e : Int) + min (tp (f (8 * r + e)) (t (8 * r + e)) (900 * x' + y' - 100) / 256) 15
/-- the book of facts -/
def FA (h : JH) (n : Nat) (m f : Nat → Nat) (t : Nat → Bool) : Prop := fI h 81 74 = fI h 71 5 ∧ 0 ≤ (fI h 71 5).toInt ∧ (fI h 71 5).toInt ≤ 80 ∧ ∀ i : Nat, (i : Int) < (fI h 71 5).toInt → FA1 h n m f t i
section IFR
variable {A : List Nat} {F : List (Nat × Nat)} {h h1 : JH} {n : Nat} {m ρ τ f : Nat → Nat} {b t : Nat → Bool} {fl : Nat → Nat → Int} {B : Int}
theorem ST_fw (x : ST h) (a : fw A F h h1) (k : offF [(6, 0), (6, 1), (81, 10), (81, 11)] F = true) : ST h1 := by
  have e := offV a k
  unfold ST fI at *
  rw [e (6, 0) (by decide), e (6, 1) (by decide), e (81, 10) (by decide), e (81, 11) (by decide)]
  exact x
theorem HD_fw (x : HD B h n ρ) (a : fw A F h h1) (k : offF [(6, 2), (6, 3), (6, 4), (6, 5), (6, 6), (6, 7), (81, 13), (81, 14), (81, 15), (81, 16), (81, 17)] F = true) : HD B h1 n ρ := by
  have e := offV a k
  unfold HD fI at *
  rw [e (6, 2) (by decide), e (6, 3) (by decide), e (6, 4) (by decide), e (6, 5) (by decide), e (6, 6) (by decide), e (6, 7) (by decide), e (81, 13) (by decide), e (81, 14) (by decide), e (81, 15) (by decide), e (81, 16) (by decide), e (81, 17) (by decide)]
  exact x
theorem TP_fw (x : TP h) (a : fw A F h h1) (k : offF [(7, 1), (81, 1)] F = true) (k2 : offA [8, 82] A = true) : TP h1 := by
  have e := offV a k
  have e2 := offR a k2
  unfold TP fI at *
  rw [e (7, 1) (by decide), e (81, 1) (by decide), (e2 8 (by decide)).1, (e2 82 (by decide)).1]
  exact x
theorem FC_fw (x : FC h) (a : fw A F h h1) (k : offF [(59, 3), (81, 58)] F = true) (k2 : offA [60, 61, 62, 113, 114, 115] A = true) : FC h1 := by
  have e := offV a k
  have e2 := offR a k2
  unfold FC fI at *
  rw [e (59, 3) (by decide), e (81, 58) (by decide), (e2 60 (by decide)).1, (e2 61 (by decide)).1, (e2 62 (by decide)).1, (e2 113 (by decide)).1, (e2 114 (by decide)).1, (e2 115 (by decide)).1]
  exact x
theorem CH_fw (x : CH h) (a : fw A F h h1) (k : offF [(70, 0), (70, 1), (70, 2), (70, 3), (81, 70), (81, 71), (81, 72), (81, 73)] F = true) : CH h1 := by
  have e := offV a k
  unfold CH fI at *
  rw [e (70, 0) (by decide), e (70, 1) (by decide), e (70, 2) (by decide), e (70, 3) (by decide), e (81, 70) (by decide), e (81, 71) (by decide), e (81, 72) (by decide), e (81, 73) (by decide)]
  exact x
theorem FA_fw (x : FA h n m f t) (a : fw A F h h1) (k : offF [(71, 5), (81, 74)] F = true) (k2 : offA [72, 73, 74, 75, 76, 118, 119, 120, 121, 122, 123, 124] A = true) : FA h1 n m f t := by
  have e := offV a k
  have e2 := offR a k2
  unfold FA FA1 fI at *
  rw [e (71, 5) (by decide), e (81, 74) (by decide), (e2 72 (by decide)).1, (e2 73 (by decide)).1, (e2 74 (by decide)).1, (e2 75 (by decide)).1, (e2 76 (by decide)).1, (e2 118 (by decide)).1, (e2 119 (by decide)).1, (e2 120 (by decide)).1, (e2 121 (by decide)).1, (e2 122 (by decide)).1, (e2 123 (by decide)).1, (e2 124 (by decide)).1]
  exact x
theorem lowA_of (k : A.all (fun q => decide (q < 126)) = true) : lowA A := fun q hq => of_decide_eq_true (List.all_eq_true.mp k q hq)
theorem lowF_of (k : F.all (fun q => decide (q.1 < 126)) = true) : lowF F := fun q hq => of_decide_eq_true (List.all_eq_true.mp k q hq)
theorem RB_fr (x : RB h n m ρ τ b f t fl) (a : fr A F h h1) (k : (offF [(0, 2), (81, 4)] F && offA [5, 83, 84, 85, 86, 87] A && A.all (fun q => decide (q < 126)) && F.all (fun q => decide (q.1 < 126))) = true) : RB h1 n m ρ τ b f t fl := by
  rw [Bool.and_eq_true, Bool.and_eq_true, Bool.and_eq_true] at k
  obtain ⟨⟨⟨k1, k2⟩, k3⟩, k4⟩ := k
  have e := offV (fw_fr a) k1
  have e2 := offR (fw_fr a) k2
  have lA := lowA_of k3
  have lF := lowF_of k4
  obtain ⟨x1, x2, x3, x4, x5, x6, x7, x8⟩ := x
  unfold fI at x2 x3
  refine ⟨x1, ?_, ?_, fun r hr => ?_, fun r s hr hs => ?_, x6, x7, by rw [(e2 87 (by decide)).1]; exact x8⟩
  · unfold fI; rw [e (0, 2) (by decide)]; exact x2
  · unfold fI; rw [e (81, 4) (by decide)]; exact x3
  · obtain ⟨y1, y2, y3, y4, y5, y6, y7, y8⟩ := x4 r hr
    refine ⟨y1, ?_, y3, ?_, ?_, ?_, ?_, ?_⟩
    · rw [(e2 5 (by decide)).2.2]; exact y2
    · rw [frO a]; exact y4
    · rw [frVh a lF y3 (by decide)]; exact y5
    · rw [frAR a]; exact y6
    · rw [frIh a lF y3 (by decide)]; exact y7
    · rw [(e2 83 (by decide)).1]; exact y8
  · obtain ⟨y1, y2, y3, y4⟩ := x5 r s hr hs
    have y0 := (x4 r hr).2.2.1
    refine ⟨?_, y2, SC_fr y3 y2 lA lF a, ?_⟩
    · rw [frRh a lA (by omega)]; exact y1
    · unfold SM
      rw [(e2 84 (by decide)).1, (e2 85 (by decide)).1, (e2 86 (by decide)).1, (e2 87 (by decide)).1]
      exact y4
end IFR
/-- class and model answer alike, and leave what J says -/
def AGR (X : JX) (idc idm : Nat) (args : List Value) (h : JH) (J : JH → Prop) : Prop := ∀ Q : JQ, (∀ (y : Int32) (h1 : JH), (∀ Q2 : JQ, (∀ h2, J h2 → Q2 (some (.int y)) h2) → jex X 10 idm (.ref 81 :: args) h1 Q2) → Q (some (.int y)) h1) → jex X 10 idc (.ref 0 :: args) h Q
/-! FINDING RULES AND SCALES -/
section FIND
variable {X : JX} {d : Nat} {Q : JQ} {h : JH} {n : Nat} {m ρ τ f : Nat → Nat} {b t : Nat → Bool} {fl : Nat → Nat → Int} {τ1 f1 : Nat} {b1 t1 : Bool} {fl1 : Nat → Int}
theorem c_ruleAt (g : G h) (x : RB h n m ρ τ b f t fl) {a : Int32} (H0 : ¬ (0 ≤ a.toInt ∧ a.toInt < n) → Q (some .null) h) (H1 : ∀ r : Nat, r < n → a.toInt = r → Q (some (.ref (ρ r))) h) : jex X (d + 1) 102 [.ref 0, .int a] h Q := by
  obtain ⟨x1, x2, x3, x4, x5, x6, x7⟩ := x
  rw [jE_X11_ruleAt]
  refine jT_X11_ruleAt_0 ?_
  simp (decide := true) only [jgI_ob, jgf_ob, jgL_ob, jpI_ob, jpL_ob, jpR_ob, jpN_ob, jrc_ob, obj_sV, obj_wF, obj_wG, obj_wR, arr_sV, arr_wF, arr_wG, arr_wR, arL_sV, arL_wF, arL_wG, arL_wR, arR_sV, arR_wF, arR_wG, arR_wR, fI_sV (c := 0), fI_sV (c := 1), fI_sV (c := 2), fI_sV (c := 4), fI_sV (c := 5), fI_sV (c := 7), fI_sV (c := 8), fI_sV (c := 9), fI_sV (c := 10), fI_sV (c := 11), fI_sV (c := 12), fI_sV (c := 6), fL_sV (c := 9), fL_sV (c := 12), fI_sV_k, fL_sV_k, fV_sV_k, fI_wF, fI_wG, fI_wR, fL_wF, fL_wG, fL_wR, fV_wF, fV_wG, fV_wR, aF_sV, aG_sV, aR_sV, aF_wG, aF_wR, aG_wF, aG_wR, aR_wF, aR_wG, gO g, gF g, ti_lt, tl, x2, jaA_ar (show arR h 5 6 4 by simp only [gO g]), vp_inI, ti_clamp]
  refine ⟨fun c => H0 (by omega), fun c => ⟨fun c2 => ?_, fun c2 => H0 (by omega)⟩⟩
  have e : a.toInt = (a.toInt.toNat : Nat) := by omega
  have hr : a.toInt.toNat < n := by omega
  have y := (x4 _ hr).2.1
  refine ⟨by omega, ?_⟩
  rw [y]
  exact H1 _ hr e
theorem c_scaleAt6 {r : Nat} (x : RB h n m ρ τ b f t fl) (hr : r < n) {a : Int32} (H0 : ¬ (0 ≤ a.toInt ∧ a.toInt < m r) → Q (some .null) h) (H1 : ∀ s : Nat, s < m r → a.toInt = s → Q (some (.ref (τ (8 * r + s)))) h) : jex X (d + 1) 108 [.ref (ρ r), .int a] h Q := by
  obtain ⟨x1, x2, x3, x4, x5, x6, x7⟩ := x
  obtain ⟨y1, y2, y3, y4, y5, y6, y7, y8⟩ := x4 r hr
  rw [jE_X6_scaleAt]
  refine jT_X6_scaleAt_0 ?_
  simp (decide := true) only [jgI_ob, jgf_ob, jgL_ob, jpI_ob, jpL_ob, jpR_ob, jpN_ob, jrc_ob, obj_sV, obj_wF, obj_wG, obj_wR, arr_sV, arr_wF, arr_wG, arr_wR, arL_sV, arL_wF, arL_wG, arL_wR, arR_sV, arR_wF, arR_wG, arR_wR, fI_sV (c := 0), fI_sV (c := 1), fI_sV (c := 2), fI_sV (c := 4), fI_sV (c := 5), fI_sV (c := 7), fI_sV (c := 8), fI_sV (c := 9), fI_sV (c := 10), fI_sV (c := 11), fI_sV (c := 12), fI_sV (c := 6), fL_sV (c := 9), fL_sV (c := 12), fI_sV_k, fL_sV_k, fV_sV_k, fI_wF, fI_wG, fI_wR, fL_wF, fL_wG, fL_wR, fV_wF, fV_wG, fV_wR, aF_sV, aG_sV, aR_sV, aF_wG, aF_wR, aG_wF, aG_wR, aR_wF, aR_wG, y4, y5, ti_lt, tl, y7, jaA_ar y6, vp_inI, ti_clamp]
  refine ⟨fun c => H0 (by omega), fun c => ⟨fun c2 => ?_, fun c2 => H0 (by omega)⟩⟩
  have e : a.toInt = (a.toInt.toNat : Nat) := by omega
  have hs : a.toInt.toNat < m r := by omega
  refine ⟨by omega, ?_⟩
  rw [(x5 r _ hr hs).1]
  exact H1 _ hs e
theorem c_scaleAt (g : G h) (x : RB h n m ρ τ b f t fl) {a e : Int32} (H0 : (¬ ∃ r s : Nat, r < n ∧ s < m r ∧ a.toInt = r ∧ e.toInt = s) → Q (some .null) h) (H1 : ∀ r s : Nat, r < n → s < m r → a.toInt = r → e.toInt = s → Q (some (.ref (τ (8 * r + s)))) h) : jex X (d + 2) 107 [.ref 0, .int a, .int e] h Q := by
  rw [jE_X11_scaleAt]
  refine jT_X11_scaleAt_0 ?_
  simp (decide := true) only [jgI_ob, jgf_ob, jgL_ob, jpI_ob, jpL_ob, jpR_ob, jpN_ob, jrc_ob, obj_sV, obj_wF, obj_wG, obj_wR, arr_sV, arr_wF, arr_wG, arr_wR, arL_sV, arL_wF, arL_wG, arL_wR, arR_sV, arR_wF, arR_wG, arR_wR, fI_sV (c := 0), fI_sV (c := 1), fI_sV (c := 2), fI_sV (c := 4), fI_sV (c := 5), fI_sV (c := 7), fI_sV (c := 8), fI_sV (c := 9), fI_sV (c := 10), fI_sV (c := 11), fI_sV (c := 12), fI_sV (c := 6), fL_sV (c := 9), fL_sV (c := 12), fI_sV_k, fL_sV_k, fV_sV_k, fI_wF, fI_wG, fI_wR, fL_wF, fL_wG, fL_wR, fV_wF, fV_wG, fV_wR, aF_sV, aG_sV, aR_sV, aF_wG, aF_wR, aG_wF, aG_wR, aR_wF, aR_wG, gO g]
  refine c_ruleAt g x (fun c => ?_) (fun r hr er => ?_)
  · refine H0 (fun ⟨r, s, z1, z2, z3, z4⟩ => c (by omega))
  · dsimp only [jrA, jisr, jnul]
    rw [jrc_ob ((x.2.2.2.1 r hr).2.2.2.1)]
    refine c_scaleAt6 x hr (fun c => ?_) (fun s hs es => ?_)
    · refine H0 (fun ⟨r', s', z1, z2, z3, z4⟩ => c ?_)
      have : r' = r := by omega
      subst this
      omega
    · exact H1 r s hr hs er es
theorem c_isRule (g : G h) (x : RB h n m ρ τ b f t fl) {a : Int32} (H0 : ¬ (0 ≤ a.toInt ∧ a.toInt < n) → Q (some (.int 0)) h) (H1 : ∀ r : Nat, r < n → a.toInt = r → Q (some (.int 1)) h) : jex X (d + 1) 105 [.ref 81, .int a] h Q := by
  obtain ⟨x1, x2, x3, x4, x5, x6, x7⟩ := x
  rw [jE_X12_isRule]
  refine jT_X12_isRule_0 ?_
  simp (decide := true) only [jgI_ob, jgf_ob, jgL_ob, jpI_ob, jpL_ob, jpR_ob, jpN_ob, jrc_ob, obj_sV, obj_wF, obj_wG, obj_wR, arr_sV, arr_wF, arr_wG, arr_wR, arL_sV, arL_wF, arL_wG, arL_wR, arR_sV, arR_wF, arR_wG, arR_wR, fI_sV (c := 0), fI_sV (c := 1), fI_sV (c := 2), fI_sV (c := 4), fI_sV (c := 5), fI_sV (c := 7), fI_sV (c := 8), fI_sV (c := 9), fI_sV (c := 10), fI_sV (c := 11), fI_sV (c := 12), fI_sV (c := 6), fL_sV (c := 9), fL_sV (c := 12), fI_sV_k, fL_sV_k, fV_sV_k, fI_wF, fI_wG, fI_wR, fL_wF, fL_wG, fL_wR, fV_wF, fV_wG, fV_wR, aF_sV, aG_sV, aR_sV, aF_wG, aF_wR, aG_wF, aG_wR, aR_wF, aR_wG, gM g, ti_lt, tl, x3, true_and]
  exact ⟨fun c => H0 (by omega), fun c => ⟨fun c2 => H1 a.toInt.toNat (by omega) (by omega), fun c2 => H0 (by omega)⟩⟩
theorem c_isScale (g : G h) (x : RB h n m ρ τ b f t fl) {a e : Int32} (H0 : (¬ ∃ r s : Nat, r < n ∧ s < m r ∧ a.toInt = r ∧ e.toInt = s) → Q (some (.int 0)) h) (H1 : ∀ r s : Nat, r < n → s < m r → a.toInt = r → e.toInt = s → Q (some (.int 1)) h) : jex X (d + 2) 111 [.ref 81, .int a, .int e] h Q := by
  rw [jE_X12_isScale]
  refine jT_X12_isScale_0 ?_
  simp (decide := true) only [jgI_ob, jgf_ob, jgL_ob, jpI_ob, jpL_ob, jpR_ob, jpN_ob, jrc_ob, obj_sV, obj_wF, obj_wG, obj_wR, arr_sV, arr_wF, arr_wG, arr_wR, arL_sV, arL_wF, arL_wG, arL_wR, arR_sV, arR_wF, arR_wG, arR_wR, fI_sV (c := 0), fI_sV (c := 1), fI_sV (c := 2), fI_sV (c := 4), fI_sV (c := 5), fI_sV (c := 7), fI_sV (c := 8), fI_sV (c := 9), fI_sV (c := 10), fI_sV (c := 11), fI_sV (c := 12), fI_sV (c := 6), fL_sV (c := 9), fL_sV (c := 12), fI_sV_k, fL_sV_k, fV_sV_k, fI_wF, fI_wG, fI_wR, fL_wF, fL_wG, fL_wR, fV_wF, fV_wG, fV_wR, aF_sV, aG_sV, aR_sV, aF_wG, aF_wR, aG_wF, aG_wR, aR_wF, aR_wG, gM g, gN g]
  refine c_isRule g x (fun c => ?_) (fun r hr er => ?_)
  · dsimp only [jrI]
    exact jif_t rfl ⟨by decide, H0 (fun ⟨r, s, z1, z2, z3, z4⟩ => c (by omega))⟩
  · dsimp only [jrI]
    have y8 := (x.2.2.2.1 r hr).2.2.2.2.2.2.2
    have x1 := x.1
    simp (decide := true) only [jgI_ob, jgf_ob, jgL_ob, jpI_ob, jpL_ob, jpR_ob, jpN_ob, jrc_ob, obj_sV, obj_wF, obj_wG, obj_wR, arr_sV, arr_wF, arr_wG, arr_wR, arL_sV, arL_wF, arL_wG, arL_wR, arR_sV, arR_wF, arR_wG, arR_wR, fI_sV (c := 0), fI_sV (c := 1), fI_sV (c := 2), fI_sV (c := 4), fI_sV (c := 5), fI_sV (c := 7), fI_sV (c := 8), fI_sV (c := 9), fI_sV (c := 10), fI_sV (c := 11), fI_sV (c := 12), fI_sV (c := 6), fL_sV (c := 9), fL_sV (c := 12), fI_sV_k, fL_sV_k, fV_sV_k, fI_wF, fI_wG, fI_wR, fL_wF, fL_wG, fL_wR, fV_wF, fV_wG, fV_wR, aF_sV, aG_sV, aR_sV, aF_wG, aF_wR, aG_wF, aG_wR, aR_wF, aR_wG, kC, kM, gM g, gN g, jif_F, ti_lt, ti_clamp, er, Int.toNat_natCast, y8, tl, true_and]
    refine ⟨fun c => H0 (fun ⟨r', s', z1, z2, z3, z4⟩ => by omega), fun c => ⟨by rw [vp_inI]; omega, fun c2 => H1 r e.toInt.toNat hr (by omega) er (by omega), fun c2 => H0 (fun ⟨r', s', z1, z2, z3, z4⟩ => ?_)⟩⟩
    have : r' = r := by omega
    subst this
    omega
theorem c_hasMark (sc : SC h τ1 b1 f1 t1 fl1) {a e : Int32} (H0 : (¬ ∃ n x y : Nat, a.toInt = x ∧ e.toInt = y ∧ 100 ≤ y ∧ y ≤ 999 ∧ n + 100 = 900 * x + y ∧ n ≤ 900 * f1) → Q (some (.int 0)) h) (H1 : ∀ n x y : Nat, a.toInt = x → e.toInt = y → 100 ≤ y → y ≤ 999 → n + 100 = 900 * x + y → n ≤ 900 * f1 → Q (some (.int 1)) h) : jex X (d + 1) 115 [.ref τ1, .int a, .int e] h Q := by
  obtain ⟨ho, f1', f3, e0, e1, e2, e3, e4, ha, hv, hf⟩ := sc
  have ef : (nI f1).toInt = f1 := nI_toInt (by omega)
  rw [jE_X8_hasMark]
  refine jT_X8_hasMark_0 ?_
  simp (decide := true) only [jgI_ob, jgf_ob, jgL_ob, jpI_ob, jpL_ob, jpR_ob, jpN_ob, jrc_ob, obj_sV, obj_wF, obj_wG, obj_wR, arr_sV, arr_wF, arr_wG, arr_wR, arL_sV, arL_wF, arL_wG, arL_wR, arR_sV, arR_wF, arR_wG, arR_wR, fI_sV (c := 0), fI_sV (c := 1), fI_sV (c := 2), fI_sV (c := 4), fI_sV (c := 5), fI_sV (c := 7), fI_sV (c := 8), fI_sV (c := 9), fI_sV (c := 10), fI_sV (c := 11), fI_sV (c := 12), fI_sV (c := 6), fL_sV (c := 9), fL_sV (c := 12), fI_sV_k, fL_sV_k, fV_sV_k, fI_wF, fI_wG, fI_wR, fL_wF, fL_wG, fL_wR, fV_wF, fV_wG, fV_wR, aF_sV, aG_sV, aR_sV, aF_wG, aF_wR, aG_wF, aG_wR, aR_wF, aR_wG, ho, e1, ti_lt, ti_eq, tl, ef, true_and]
  refine ⟨fun c => ⟨fun c2 => H1 (900 * f1) f1 100 c (by omega) (by omega) (by omega) (by omega) (by omega), fun c2 => H0 (fun ⟨n, x, y, z1, z2, z3, z4, z5, z6⟩ => by omega)⟩, fun c => ⟨fun c2 => H0 (fun ⟨n, x, y, z1, z2, z3, z4, z5, z6⟩ => by omega), fun c2 => ⟨fun c3 => ⟨fun c4 => H0 (fun ⟨n, x, y, z1, z2, z3, z4, z5, z6⟩ => by omega), fun c4 => ⟨fun c5 => H0 (fun ⟨n, x, y, z1, z2, z3, z4, z5, z6⟩ => by omega), fun c5 => H1 (900 * a.toInt.toNat + e.toInt.toNat - 100) a.toInt.toNat e.toInt.toNat (by omega) (by omega) (by omega) (by omega) (by omega) (by omega)⟩⟩, fun c3 => H0 (fun ⟨n, x, y, z1, z2, z3, z4, z5, z6⟩ => by omega)⟩⟩⟩
theorem c_isDigits {a : Int32} (H0 : ¬ (100 ≤ a.toInt ∧ a.toInt ≤ 999) → Q (some (.int 0)) h) (H1 : 100 ≤ a.toInt → a.toInt ≤ 999 → Q (some (.int 1)) h) : jex X (d + 1) 97 [.int a] h Q := by
  rw [jE_X12_isDigits]
  refine jT_X12_isDigits_0 ?_
  simp (decide := true) only [ti_lt, tl, true_and]
  exact ⟨fun c => H0 (by omega), fun c => ⟨fun c2 => H0 (by omega), fun c2 => H1 (by omega) (by omega)⟩⟩
theorem c_isMark (g : G h) {k : Nat} (sm : SM h k b1 f1 t1 fl1) {i a e : Int32} (hk : i.toInt = k) (H0 : (¬ ∃ n x y : Nat, a.toInt = x ∧ e.toInt = y ∧ 100 ≤ y ∧ y ≤ 999 ∧ n + 100 = 900 * x + y ∧ n ≤ 900 * f1) → Q (some (.int 0)) h) (H1 : ∀ n x y : Nat, a.toInt = x → e.toInt = y → 100 ≤ y → y ≤ 999 → n + 100 = 900 * x + y → n ≤ 900 * f1 → Q (some (.int 1)) h) : jex X (d + 2) 119 [.ref 81, .int i, .int a, .int e] h Q := by
  obtain ⟨k1, f1', f3, e1, e2, e3, hv, hf⟩ := sm
  have ef : (nI f1).toInt = f1 := nI_toInt (by omega)
  have iv : vp_in i 32 := by rw [vp_inI]; omega
  rw [jE_X12_isMark]
  refine jT_X12_isMark_0 ?_
  simp (decide := true) only [jgI_ob, jgf_ob, jgL_ob, jpI_ob, jpL_ob, jpR_ob, jpN_ob, jrc_ob, obj_sV, obj_wF, obj_wG, obj_wR, arr_sV, arr_wF, arr_wG, arr_wR, arL_sV, arL_wF, arL_wG, arL_wR, arR_sV, arR_wF, arR_wG, arR_wR, fI_sV (c := 0), fI_sV (c := 1), fI_sV (c := 2), fI_sV (c := 4), fI_sV (c := 5), fI_sV (c := 7), fI_sV (c := 8), fI_sV (c := 9), fI_sV (c := 10), fI_sV (c := 11), fI_sV (c := 12), fI_sV (c := 6), fL_sV (c := 9), fL_sV (c := 12), fI_sV_k, fL_sV_k, fV_sV_k, fI_wF, fI_wG, fI_wR, fL_wF, fL_wG, fL_wR, fV_wF, fV_wG, fV_wR, aF_sV, aG_sV, aR_sV, aF_wG, aF_wR, aG_wF, aG_wR, aR_wF, aR_wG, kC, kM, gM g, gN g, ti_lt, ti_eq, ti_clamp, hk, Int.toNat_natCast, e2, tl, ef, iv, true_and]
  refine ⟨fun c => ⟨fun c2 => by omega, fun c2 => H0 (fun ⟨n, x, y, z1, z2, z3, z4, z5, z6⟩ => by omega)⟩, fun c => ⟨fun c2 => ?_, fun c2 => ⟨fun c3 => ⟨fun c4 => H1 (900 * f1) f1 100 c3 (by omega) (by omega) (by omega) (by omega) (by omega), fun c4 => H0 (fun ⟨n, x, y, z1, z2, z3, z4, z5, z6⟩ => by omega)⟩, fun c3 => H0 (fun ⟨n, x, y, z1, z2, z3, z4, z5, z6⟩ => by omega)⟩⟩⟩
  refine c_isDigits (fun c3 => ?_) (fun c3 c4 => ?_)
  · dsimp only [jrI]
    refine jif_t rfl ?_
    simp (decide := true) only [jgI_ob, jgf_ob, jgL_ob, jpI_ob, jpL_ob, jpR_ob, jpN_ob, jrc_ob, obj_sV, obj_wF, obj_wG, obj_wR, arr_sV, arr_wF, arr_wG, arr_wR, arL_sV, arL_wF, arL_wG, arL_wR, arR_sV, arR_wF, arR_wG, arR_wR, fI_sV (c := 0), fI_sV (c := 1), fI_sV (c := 2), fI_sV (c := 4), fI_sV (c := 5), fI_sV (c := 7), fI_sV (c := 8), fI_sV (c := 9), fI_sV (c := 10), fI_sV (c := 11), fI_sV (c := 12), fI_sV (c := 6), fL_sV (c := 9), fL_sV (c := 12), fI_sV_k, fL_sV_k, fV_sV_k, fI_wF, fI_wG, fI_wR, fL_wF, fL_wG, fL_wR, fV_wF, fV_wG, fV_wR, aF_sV, aG_sV, aR_sV, aF_wG, aF_wR, aG_wF, aG_wR, aR_wF, aR_wG, kC, kM, gM g, gN g, ti_clamp, hk, Int.toNat_natCast, e2, ef, iv, true_and]
    exact ⟨fun c4 => by omega, fun c4 => H0 (fun ⟨n, x, y, z1, z2, z3, z4, z5, z6⟩ => by omega)⟩
  · dsimp only [jrI]
    exact jif_n (by decide) (H1 (900 * a.toInt.toNat + e.toInt.toNat - 100) a.toInt.toNat e.toInt.toNat (by omega) (by omega) (by omega) (by omega) (by omega) (by omega))
end FIND
