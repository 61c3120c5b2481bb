/-! READING: the model's picture -/
section MPD
variable {t : Nat → Int} {N k : Nat}
def wrd (t : Nat → Int) (N i : Nat) : Int32 := if xe t N i = 5 then kwM (tK t N (i - 1)) else -1
def ovr (t : Nat → Int) (N i : Nat) : Bool := if xe t N i = 5 then decide (tK t N (i - 2) = 20) else decide (tK t N (i - 1) = 20)
/-- what stands for the program in place is as it was -/
def LOW (h h1 : JH) : Prop := aF h1 90 0 = aF h 90 0 ∧ (∀ j, j < 410 → aF h1 91 j = aF h 91 j ∧ aF h1 92 j = aF h 92 j ∧ aF h1 93 j = aF h 93 j ∧ aF h1 94 j = aF h 94 j ∧ aF h1 95 j = aF h 95 j) ∧ aF h1 96 0 = aF h 96 0 ∧ (∀ j, j < 210 → aF h1 97 j = aF h 97 j ∧ aF h1 98 j = aF h 98 j ∧ aF h1 99 j = aF h 99 j ∧ aF h1 100 j = aF h 100 j ∧ aF h1 101 j = aF h 101 j) ∧ aF h1 102 0 = aF h 102 0
theorem LOW_rfl {h : JH} : LOW h h := ⟨rfl, fun _ _ => ⟨rfl, rfl, rfl, rfl, rfl⟩, rfl, fun _ _ => ⟨rfl, rfl, rfl, rfl, rfl⟩, rfl⟩
theorem LOW_trans {h h1 h2 : JH} (a : LOW h h1) (b : LOW h1 h2) : LOW h h2 := ⟨b.1.trans a.1, fun j hj => ⟨(b.2.1 j hj).1.trans (a.2.1 j hj).1, (b.2.1 j hj).2.1.trans (a.2.1 j hj).2.1, (b.2.1 j hj).2.2.1.trans (a.2.1 j hj).2.2.1, (b.2.1 j hj).2.2.2.1.trans (a.2.1 j hj).2.2.2.1, (b.2.1 j hj).2.2.2.2.trans (a.2.1 j hj).2.2.2.2⟩, b.2.2.1.trans a.2.2.1, fun j hj => ⟨(b.2.2.2.1 j hj).1.trans (a.2.2.2.1 j hj).1, (b.2.2.2.1 j hj).2.1.trans (a.2.2.2.1 j hj).2.1, (b.2.2.2.1 j hj).2.2.1.trans (a.2.2.2.1 j hj).2.2.1, (b.2.2.2.1 j hj).2.2.2.1.trans (a.2.2.2.1 j hj).2.2.2.1, (b.2.2.2.1 j hj).2.2.2.2.trans (a.2.2.2.1 j hj).2.2.2.2⟩, b.2.2.2.2.trans a.2.2.2.2⟩
theorem LOW_fr {A : List Nat} {F : List (Nat × Nat)} {h h1 : JH} (a : fr A F h h1) (k2 : offA [90, 91, 92, 93, 94, 95, 96, 97, 98, 99, 100, 101, 102] A = true) : LOW h h1 := by
  have e2 := offR (fw_fr a) k2
  unfold LOW
  rw [(e2 90 (by decide)).1, (e2 91 (by decide)).1, (e2 92 (by decide)).1, (e2 93 (by decide)).1, (e2 94 (by decide)).1, (e2 95 (by decide)).1, (e2 96 (by decide)).1, (e2 97 (by decide)).1, (e2 98 (by decide)).1, (e2 99 (by decide)).1, (e2 100 (by decide)).1, (e2 101 (by decide)).1, (e2 102 (by decide)).1]
  exact LOW_rfl
/-- token k is the current one -/
def MKt (bh h : JH) (t : Nat → Int) (N k : Nat) : Prop := MT h t N (tS t N k) ∧ fI h 81 24 = nI (k + 1) ∧ TM h t N ∧ LOW bh h
/-- the names -/
def MN (h : JH) (t : Nat → Int) (N : Nat) (l : List Nat) (td : Nat → Bool) : Prop := aF h 102 1 = nI l.length ∧ ∀ j, j < l.length → aG h 103 (12 + j) = lN (w08 t N (l.getD j 0)) ∧ aF h 104 j = bi (td j)
/-- the atoms -/
def MA1 (h : JH) (t : Nat → Int) (N i : Nat) : Prop := aF h 97 (210 + na t N i) = wrd t N i ∧ aF h 98 (210 + na t N i) = bi (ovr t N i) ∧ (tK t N i = 2 → aF h 99 (210 + na t N i) = nI (nnum t N i)) ∧ (tK t N i = 3 → aF h 99 (210 + na t N i) = -1 ∧ (dgs t N (tS t N i) ≠ 0 → aF h 100 (210 + na t N i) = nI (dgs t N (tS t N i)) ∧ aF h 101 (210 + na t N i) = zI (dpl t N (tS t N i))))
def MAt (h : JH) (t : Nat → Int) (N k : Nat) : Prop := aF h 96 1 = nI (na t N k) ∧ ∀ i, i < k → isAt t N i = true → MA1 h t N i
/-- the fault so far -/
def MFl (h : JH) (t : Nat → Int) (N k : Nat) : Prop := fI h 81 2 = nI (sft t N k).1 ∧ fI h 81 3 = zI (sft t N k).2
theorem tkZ_gt {b : Nat} (hb : b < N) : b < tkZ t N b := by
  unfold tkZ
  rw [if_neg (by omega)]
  split
  · next c => rw [tkE_go hb c]; exact tkE_ge
  split
  · next c =>
    have := ptE_lt (t := t) hb c
    have := nmE_ge (t := t) (N := N) (b := b)
    omega
  split <;> omega
theorem tS_lt1 (h : tK t N k ≠ 1) : tS t N k < tS t N (k + 1) := by
  have a := tS_le (t := t) (N := N) k
  have hb : tS t N k < N := by
    refine Classical.byContradiction (fun c => h ?_)
    exact if_pos (by omega)
  have z := tkZ_gt (t := t) hb
  have w := (tkb_r (t := t) (tpo_le (t := t) (N := N) (k + 1))).1
  rw [tpo_s] at w
  have e : tS t N (k + 1) = tkb t N (tkZ t N (tS t N k)) := rfl
  omega
theorem tS_lt {j : Nat} (o : OKt t N k) (h : j < k) : tS t N j < tS t N k := by
  induction k with
  | zero => omega
  | succ k ih =>
    obtain ⟨o1, o2⟩ := OKt_s o
    have s := tS_lt1 (t := t) (N := N) (k := k) (fun e => by have := hft_end e; omega)
    by_cases e : j = k
    · rw [e]; exact s
    · have := ih o1 (by omega)
      omega
theorem sft_pl : ∀ k, OKt t N k → (sft t N k).1 ≠ 0 → (sft t N k).1 ≤ 5 ∧ 0 ≤ (sft t N k).2 ∧ (sft t N k).2 < tS t N k
  | 0, _, h => absurd rfl h
  | k + 1, o, h => by
    obtain ⟨o1, o2⟩ := OKt_s o
    have ih := sft_pl k o1
    have s := tS_lt1 (t := t) (N := N) (k := k) (fun e => by have := hft_end e; omega)
    rw [sft_s] at h ⊢
    by_cases c : (sft t N k).1 ≠ 0
    · rw [if_pos c]
      have := ih c
      omega
    · rw [if_neg c] at h ⊢
      by_cases c1 : unt t N k = true
      · rw [if_pos c1]
        show (4 : Nat) ≤ 5 ∧ (0 : Int) ≤ (tS t N k : Nat) ∧ ((tS t N k : Nat) : Int) < _
        omega
      · rw [if_neg c1] at h ⊢
        by_cases c2 : wrg t N k = true
        · rw [if_pos c2]
          show (5 : Nat) ≤ 5 ∧ (0 : Int) ≤ (tS t N k : Nat) ∧ ((tS t N k : Nat) : Int) < _
          omega
        · rw [if_neg c2] at h
          exact absurd h c
theorem na_le : ∀ k, OKt t N k → 2 * na t N k ≤ k ∧ ((xe t N k = 4 ∨ xe t N k = 5 ∨ xe t N k = 8 ∨ xe t N k = 9 ∨ xe t N k = 11) → 2 * na t N k + 1 ≤ k)
  | 0, _ => ⟨Nat.le_refl _, fun c => by have : xe t N 0 = 1 := rfl; omega⟩
  | k + 1, o => by
    obtain ⟨o1, o2⟩ := OKt_s o
    have ih := na_le k o1
    have fi := fwl_inv (hft_0 o2).1
    have e : na t N (k + 1) = na t N k + (if isAt t N k = true then 1 else 0) := rfl
    rw [xe_s, e]
    by_cases c : isAt t N k = true
    · rw [if_pos c]
      have c := of_decide_eq_true c
      omega
    · rw [if_neg c]
      omega
theorem na_m : ∀ m, na t N k ≤ na t N (k + m)
  | 0 => Nat.le_refl _
  | m + 1 => Nat.le_trans (na_m m) (Nat.le_add_right _ _)
theorem na_mono {j : Nat} (h : j ≤ k) : na t N j ≤ na t N k := by
  have := na_m (t := t) (N := N) (k := j) (k - j)
  rw [show j + (k - j) = k by omega] at this
  exact this
theorem na_lt {j : Nat} (h : j < k) (a : isAt t N j = true) : na t N j < na t N k := by
  have e : na t N (j + 1) = na t N j + (if isAt t N j = true then 1 else 0) := rfl
  rw [if_pos a] at e
  have := na_mono (t := t) (N := N) (j := j + 1) (k := k) h
  omega
theorem ns_m : ∀ m, ns t N k ≤ ns t N (k + m)
  | 0 => Nat.le_refl _
  | m + 1 => Nat.le_trans (ns_m m) (Nat.le_add_right _ _)
theorem ns_mono {j : Nat} (h : j ≤ k) : ns t N j ≤ ns t N k := by
  have := ns_m (t := t) (N := N) (k := j) (k - j)
  rw [show j + (k - j) = k by omega] at this
  exact this
theorem ns_lt {j : Nat} (h : j < k) (a : isSt t N j = true) : ns t N j < ns t N k := by
  have e : ns t N (j + 1) = ns t N j + (if isSt t N j = true then 1 else 0) := rfl
  rw [if_pos a] at e
  have := ns_mono (t := t) (N := N) (j := j + 1) (k := k) h
  omega
theorem ns_le : ∀ k, ns t N k ≤ k
  | 0 => Nat.le_refl _
  | k + 1 => by
    have := ns_le k
    have e : ns t N (k + 1) = ns t N k + (if isSt t N k = true then 1 else 0) := rfl
    rw [e]
    split <;> omega
theorem nms_m : ∀ m, (nms t N k).length ≤ (nms t N (k + m)).length
  | 0 => Nat.le_refl _
  | m + 1 => by
    refine Nat.le_trans (nms_m m) ?_
    show _ ≤ (nms t N ((k + m) + 1)).length
    rw [nms_s]
    split
    · rw [List.length_append]; omega
    · exact Nat.le_refl _
theorem nnum_lt {i : Nat} (h : i < k) (e : tK t N i = 2) : nnum t N i < (nms t N k).length := by
  have a : nnum t N i < (nms t N (i + 1)).length := by
    have b : nnum t N i ≤ (nms t N i).length := nix_le
    rw [nms_s]
    by_cases c : nnum t N i = (nms t N i).length
    · rw [if_pos ⟨e, c⟩, List.length_append, List.length_singleton]; omega
    · rw [if_neg (fun q => c q.2)]; omega
  have := nms_m (t := t) (N := N) (k := i + 1) (k - (i + 1))
  rw [show i + 1 + (k - (i + 1)) = k by omega] at this
  omega
theorem tld_len : ∀ k j, OKt t N k → tld t N k j = true → j < (nms t N k).length
  | 0, _, _, h => by cases h
  | k + 1, j, o, h => by
    obtain ⟨o1, o2⟩ := OKt_s o
    have e : tld t N (k + 1) j = if tK t N k = 15 ∧ j = nnum t N (la t N k + 1) then true else tld t N k j := rfl
    have mm := nms_m (t := t) (N := N) (k := k) 1
    rw [e] at h
    split at h
    · next c =>
      have fi := fwl_inv (hft_0 o2).1
      have l := la_in k o1 (by omega) (by omega)
      have l2 := l.2.2.2.1 (by omega)
      rw [c.2]
      exact nnum_lt (by omega) l2.2
    · have := tld_len k j o1 h
      omega
/-- what stands at the current token, where the reading stops at K -/
theorem Spt_lt {K : Nat} (st : Spt t N K) (hk : k ≤ K) (o : hft t N k = 0) : k < K := by
  refine Classical.byContradiction (fun c => ?_)
  have e : k = K := by omega
  subst e
  rcases st.2 with q | q
  · have := hft_end q.1; omega
  · exact q o
theorem Spt_eq {K : Nat} (st : Spt t N K) (hk : k ≤ K) (o : hft t N k ≠ 0) : k = K := by
  refine Classical.byContradiction (fun c => o (st.1 k (by omega)))
end MPD
section MPF
variable {A : List Nat} {F : List (Nat × Nat)} {h h1 bh : JH} {t : Nat → Int} {N k : Nat} {l : List Nat} {td : Nat → Bool}
theorem MKt_lw (x : MKt bh h t N k) (a : fr A F h h1) (k1 : offF [(81, 1), (81, 19), (81, 20), (81, 21), (81, 22), (81, 23), (81, 24)] F = true) (k2 : offA [82] A = true) (lw : LOW h h1) : MKt bh h1 t N k := by
  have e := offV (fw_fr a) k1
  have e2 := offR (fw_fr a) k2
  refine ⟨?_, ?_, ?_, LOW_trans x.2.2.2 lw⟩
  · have x1 := x.1
    unfold MT fI fL at *
    rw [e (81, 19) (by decide), e (81, 20) (by decide), e (81, 21) (by decide), e (81, 22) (by decide), e (81, 23) (by decide)]
    exact x1
  · have x1 := x.2.1
    unfold fI at *
    rw [e (81, 24) (by decide)]
    exact x1
  · have x1 := x.2.2.1
    unfold TM fI at *
    rw [e (81, 1) (by decide), (e2 82 (by decide)).1]
    exact x1
theorem MKt_fr (x : MKt bh h t N k) (a : fr A F h h1) (k1 : offF [(81, 1), (81, 19), (81, 20), (81, 21), (81, 22), (81, 23), (81, 24)] F = true) (k2 : offA [82, 90, 91, 92, 93, 94, 95, 96, 97, 98, 99, 100, 101, 102] A = true) : MKt bh h1 t N k := by
  have e2 := offR (fw_fr a) k2
  refine MKt_lw x a k1 ?_ ?_
  · unfold offA at *
    rw [List.all_cons, Bool.and_eq_true] at k2
    rw [List.all_cons, k2.1]
    rfl
  · unfold LOW
    rw [(e2 90 (by decide)).1, (e2 91 (by decide)).1, (e2 92 (by decide)).1, (e2 93 (by decide)).1, (e2 94 (by decide)).1, (e2 95 (by decide)).1, (e2 96 (by decide)).1, (e2 97 (by decide)).1, (e2 98 (by decide)).1, (e2 99 (by decide)).1, (e2 100 (by decide)).1, (e2 101 (by decide)).1, (e2 102 (by decide)).1]
    exact LOW_rfl
theorem MN_fr (x : MN h t N l td) (a : fr A F h h1) (k2 : offA [102, 103, 104] A = true) : MN h1 t N l td := by
  have e2 := offR (fw_fr a) k2
  unfold MN at *
  rw [(e2 102 (by decide)).1, (e2 103 (by decide)).2.1, (e2 104 (by decide)).1]
  exact x
theorem MAt_fr (x : MAt h t N k) (a : fr A F h h1) (k2 : offA [96, 97, 98, 99, 100, 101] A = true) : MAt h1 t N k := by
  have e2 := offR (fw_fr a) k2
  unfold MAt MA1 at *
  rw [(e2 96 (by decide)).1, (e2 97 (by decide)).1, (e2 98 (by decide)).1, (e2 99 (by decide)).1, (e2 100 (by decide)).1, (e2 101 (by decide)).1]
  exact x
theorem MFl_fr (x : MFl h t N k) (a : fr A F h h1) (k1 : offF [(81, 2), (81, 3)] F = true) : MFl h1 t N k := by
  have e := offV (fw_fr a) k1
  unfold MFl fI at *
  rw [e (81, 2) (by decide), e (81, 3) (by decide)]
  exact x
end MPF
section MPC
variable {X : JX} {d : Nat} {Q : JQ} {h bh : JH} {N k K : Nat} {t : Nat → Int} {l : List Nat} {td : Nat → Bool}
theorem c_mstop (g : G h) {a e : Int32} (H : Q (some (.int 0)) (sV (sV h 81 2 (.int a)) 81 3 (.int e))) : jex X (d + 1) 77 [.ref 81, .int a, .int e] h Q := by
  rw [jE_X12_stop]
  refine jT_X12_stop_0 ?_
  simp (decide := true) only [jgI_ob, jgf_ob, jgL_ob, jpI_ob, jpL_ob, jpR_ob, jpN_ob, jrc_ob, obj_sV, obj_wF, obj_wG, obj_wR, arr_sV, arr_wF, arr_wG, arr_wR, arL_sV, arL_wF, arL_wG, arL_wR, arR_sV, arR_wF, arR_wG, arR_wR, fI_sV (c := 0), fI_sV (c := 1), fI_sV (c := 2), fI_sV (c := 4), fI_sV (c := 5), fI_sV (c := 7), fI_sV (c := 8), fI_sV (c := 9), fI_sV (c := 10), fI_sV (c := 11), fI_sV (c := 12), fI_sV (c := 6), fL_sV (c := 9), fL_sV (c := 12), fI_sV_k, fL_sV_k, fV_sV_k, fI_wF, fI_wG, fI_wR, fL_wF, fL_wG, fL_wR, fV_wF, fV_wG, fV_wR, aF_sV, aG_sV, aR_sV, aF_wG, aF_wR, aG_wF, aG_wR, aR_wF, aR_wG, gM g, true_and]
  exact H
/-- the reading stops here -/
def SPD (bh h : JH) (t : Nat → Int) (N K : Nat) : Prop := fI h 81 2 = nI (hft t N K) ∧ fI h 81 3 = nI (tS t N K) ∧ ¬ fin t N K ∧ LOW bh h
theorem c_mstopK (g : G h) (st : Spt t N K) (hk : k ≤ K) (mk : MKt bh h t N k) {v : Nat} (v0 : v ≠ 0) (ev : hft t N k = v) (nf : v = 1 → ¬ fin t N k) {R : Int32 → JH → Prop} (H : ∀ h1, fr [] [(81, 2), (81, 3)] h h1 → SPD bh h1 t N K → R 0 h1) : jgI h (.ref 81) 12 20 fun x5 => (jrc h (.ref 81) 12 (jex X (d + 1) 77 [.ref 81, .int (nI v), .int x5] h fun r7 h6 => (jrI r7 fun x8 => (R x8 h6)))) := by
  have e := Spt_eq st hk (by omega)
  rw [jgI_ob (c := 12) (by simp only [gM g]) rfl, mk.1.1, jrc_ob (by simp only [gM g])]
  refine c_mstop g ?_
  try dsimp only [jrI, jrN, jrA, jisr, jnul, jcat1]
  have k2 : fr [] [(81, 2), (81, 3)] h (sV (sV h 81 2 (.int (nI v))) 81 3 (.int (nI (tS t N k)))) := fr_sV (by decide) (fr_sV (by decide) fr_rfl)
  refine H _ k2 ⟨?_, ?_, ?_, LOW_trans mk.2.2.2 (LOW_fr k2 rfl)⟩
  · simp (decide := true) only [jgI_ob, jgf_ob, jgL_ob, jpI_ob, jpL_ob, jpR_ob, jpN_ob, jrc_ob, obj_sV, obj_wF, obj_wG, obj_wR, arr_sV, arr_wF, arr_wG, arr_wR, arL_sV, arL_wF, arL_wG, arL_wR, arR_sV, arR_wF, arR_wG, arR_wR, fI_sV (c := 0), fI_sV (c := 1), fI_sV (c := 2), fI_sV (c := 4), fI_sV (c := 5), fI_sV (c := 7), fI_sV (c := 8), fI_sV (c := 9), fI_sV (c := 10), fI_sV (c := 11), fI_sV (c := 12), fI_sV (c := 6), fL_sV (c := 9), fL_sV (c := 12), fI_sV_k, fL_sV_k, fV_sV_k, fI_wF, fI_wG, fI_wR, fL_wF, fL_wG, fL_wR, fV_wF, fV_wG, fV_wR, aF_sV, aG_sV, aR_sV, aF_wG, aF_wR, aG_wF, aG_wR, aR_wF, aR_wG, gM g]
    rw [← e, ev]
  · simp (decide := true) only [jgI_ob, jgf_ob, jgL_ob, jpI_ob, jpL_ob, jpR_ob, jpN_ob, jrc_ob, obj_sV, obj_wF, obj_wG, obj_wR, arr_sV, arr_wF, arr_wG, arr_wR, arL_sV, arL_wF, arL_wG, arL_wR, arR_sV, arR_wF, arR_wG, arR_wR, fI_sV (c := 0), fI_sV (c := 1), fI_sV (c := 2), fI_sV (c := 4), fI_sV (c := 5), fI_sV (c := 7), fI_sV (c := 8), fI_sV (c := 9), fI_sV (c := 10), fI_sV (c := 11), fI_sV (c := 12), fI_sV (c := 6), fL_sV (c := 9), fL_sV (c := 12), fI_sV_k, fL_sV_k, fV_sV_k, fI_wF, fI_wG, fI_wR, fL_wF, fL_wG, fL_wR, fV_wF, fV_wG, fV_wR, aF_sV, aG_sV, aR_sV, aF_wG, aF_wR, aG_wF, aG_wR, aR_wF, aR_wG, gM g]
    rw [e]
  · rw [← e]
    by_cases q : v = 1
    · exact nf q
    · intro w
      have := hft_end w.1
      omega
def sf2 (s : Nat × Int) (n : Nat) (p : Nat) : Nat × Int := if s.1 ≠ 0 then s else (n, (p : Int))
theorem c_mfault (g : G h) (mf : MFl h t N k) (ok : OKt t N k) (k4 : tS t N k ≤ 2000) {n : Nat} (H : ∀ h1, fr [] [(81, 2), (81, 3)] h h1 → fI h1 81 2 = nI (sf2 (sft t N k) n (tS t N k)).1 → fI h1 81 3 = zI (sf2 (sft t N k) n (tS t N k)).2 → Q none h1) : jex X (d + 1) 86 [.ref 81, .int (nI n), .int (nI (tS t N k))] h Q := by
  have sp := sft_pl k ok
  unfold sf2 at H
  rw [jE_X12_fault]
  refine jT_X12_fault_0 ?_
  rw [jgI_ob (c := 12) (by simp only [gM g]) rfl, mf.1]
  by_cases c : (sft t N k).1 = 0
  · rw [if_neg (fun q => q c)] at H
    refine jif_t (by rw [c]; rfl) ?_
    simp (decide := true) only [jgI_ob, jgf_ob, jgL_ob, jpI_ob, jpL_ob, jpR_ob, jpN_ob, jrc_ob, obj_sV, obj_wF, obj_wG, obj_wR, arr_sV, arr_wF, arr_wG, arr_wR, arL_sV, arL_wF, arL_wG, arL_wR, arR_sV, arR_wF, arR_wG, arR_wR, fI_sV (c := 0), fI_sV (c := 1), fI_sV (c := 2), fI_sV (c := 4), fI_sV (c := 5), fI_sV (c := 7), fI_sV (c := 8), fI_sV (c := 9), fI_sV (c := 10), fI_sV (c := 11), fI_sV (c := 12), fI_sV (c := 6), fL_sV (c := 9), fL_sV (c := 12), fI_sV_k, fL_sV_k, fV_sV_k, fI_wF, fI_wG, fI_wR, fL_wF, fL_wG, fL_wR, fV_wF, fV_wG, fV_wR, aF_sV, aG_sV, aR_sV, aF_wG, aF_wR, aG_wF, aG_wR, aR_wF, aR_wG, gM g]
    refine H _ (fr_sV (by decide) (fr_sV (by decide) fr_rfl)) ?_ ?_
    · simp (decide := true) only [jgI_ob, jgf_ob, jgL_ob, jpI_ob, jpL_ob, jpR_ob, jpN_ob, jrc_ob, obj_sV, obj_wF, obj_wG, obj_wR, arr_sV, arr_wF, arr_wG, arr_wR, arL_sV, arL_wF, arL_wG, arL_wR, arR_sV, arR_wF, arR_wG, arR_wR, fI_sV (c := 0), fI_sV (c := 1), fI_sV (c := 2), fI_sV (c := 4), fI_sV (c := 5), fI_sV (c := 7), fI_sV (c := 8), fI_sV (c := 9), fI_sV (c := 10), fI_sV (c := 11), fI_sV (c := 12), fI_sV (c := 6), fL_sV (c := 9), fL_sV (c := 12), fI_sV_k, fL_sV_k, fV_sV_k, fI_wF, fI_wG, fI_wR, fL_wF, fL_wG, fL_wR, fV_wF, fV_wG, fV_wR, aF_sV, aG_sV, aR_sV, aF_wG, aF_wR, aG_wF, aG_wR, aR_wF, aR_wG, gM g]
    · simp (decide := true) only [jgI_ob, jgf_ob, jgL_ob, jpI_ob, jpL_ob, jpR_ob, jpN_ob, jrc_ob, obj_sV, obj_wF, obj_wG, obj_wR, arr_sV, arr_wF, arr_wG, arr_wR, arL_sV, arL_wF, arL_wG, arL_wR, arR_sV, arR_wF, arR_wG, arR_wR, fI_sV (c := 0), fI_sV (c := 1), fI_sV (c := 2), fI_sV (c := 4), fI_sV (c := 5), fI_sV (c := 7), fI_sV (c := 8), fI_sV (c := 9), fI_sV (c := 10), fI_sV (c := 11), fI_sV (c := 12), fI_sV (c := 6), fL_sV (c := 9), fL_sV (c := 12), fI_sV_k, fL_sV_k, fV_sV_k, fI_wF, fI_wG, fI_wR, fL_wF, fL_wG, fL_wR, fV_wF, fV_wG, fV_wR, aF_sV, aG_sV, aR_sV, aF_wG, aF_wR, aG_wF, aG_wR, aR_wF, aR_wG, gM g]
      rfl
  · rw [if_pos c] at H
    have sp := sp c
    refine jif_n (nI_ne0 (by omega) (by omega)) ?_
    have e3 : (zI (sft t N k).2).toInt = (sft t N k).2 := zt (by omega) (by omega)
    have es : (nI (tS t N k)).toInt = (tS t N k : Nat) := nI_toInt (by omega)
    rw [jgI_ob (c := 12) (by simp only [gM g]) rfl, mf.2]
    refine jif_n (by rw [ti_lt, e3, es]; omega) ?_
    rw [jgI_ob (c := 12) (by simp only [gM g]) rfl, mf.2]
    exact jif_n (by rw [ti_eq, e3, es]; omega) (H h fr_rfl mf.1 mf.2)
/-- the next token becomes the current one -/
theorem c_pass (g : G h) (st : Spt t N K) (hk : k ≤ K) (mk : MKt bh h t N k) (pw : hft t N k = 0 ∨ (hft t N k = 2 ∧ 400 ≤ k)) (HS : ∀ h1, fr [] [(81, 2), (81, 3)] h h1 → SPD bh h1 t N K → Q (some (.int 0)) h1) (HC : k < K → hft t N k = 0 → ∀ h1, fr [] [(81, 19), (81, 20), (81, 21), (81, 22), (81, 23), (81, 24)] h h1 → MKt bh h1 t N (k + 1) → Q (some (.int 1)) h1) : jex X (d + 5) 79 [.ref 81] h Q := by
  have K4 := Spt_400 st
  rw [jE_X12_pass]
  refine jT_X12_pass_0 ?_
  rw [jgI_ob (c := 12) (by simp only [gM g]) rfl, mk.2.1]
  refine ⟨fun c => ?_, fun c => ?_⟩
  · have c := (nI_ltI (a := 400) (by omega) (by omega)).1 c
    have e2 : hft t N k = 2 := by
      rcases pw with q | q
      · have := Spt_lt st hk q; omega
      · exact q.1
    change jgI h (.ref 81) 12 20 fun x6 => (jrc h (.ref 81) 12 (jex X (d + 3 + 1) 77 [.ref 81, .int (nI 2), .int x6] h fun r8 h7 => (jrI r8 fun x9 => ((fun (x9 : Int32) (h7 : JH) => ((x9 : Int32) &&& 1 = x9 ∧ (Q (some (.int x9)) h7))) x9 h7))))
    exact c_mstopK g st hk mk (by decide) e2 (fun q => absurd q (by decide)) (fun h1 k1 w => ⟨by decide, HS h1 k1 w⟩)
  · have c : ¬ 400 < k + 1 := fun q => c (nI_lt (a := 400) q (by omega))
    have o0 : hft t N k = 0 := by
      rcases pw with q | q
      · exact q
      · omega
    have lt := Spt_lt st hk o0
    rw [jgI_ob (c := 12) (by simp only [gM g]) rfl, mk.2.1, nI_1, jpI_ob (c := 12) (by simp only [gM g]) rfl]
    have k1 : fr [] [(81, 19), (81, 20), (81, 21), (81, 22), (81, 23), (81, 24)] h (sV h 81 24 (.int (nI (k + 1 + 1)))) := fr_sV (by decide) fr_rfl
    have q24 : fI (sV h 81 24 (.int (nI (k + 1 + 1)))) 81 24 = nI (k + 1 + 1) := by simp (decide := true) only [jgI_ob, jgf_ob, jgL_ob, jpI_ob, jpL_ob, jpR_ob, jpN_ob, jrc_ob, obj_sV, obj_wF, obj_wG, obj_wR, arr_sV, arr_wF, arr_wG, arr_wR, arL_sV, arL_wF, arL_wG, arL_wR, arR_sV, arR_wF, arR_wG, arR_wR, fI_sV (c := 0), fI_sV (c := 1), fI_sV (c := 2), fI_sV (c := 4), fI_sV (c := 5), fI_sV (c := 7), fI_sV (c := 8), fI_sV (c := 9), fI_sV (c := 10), fI_sV (c := 11), fI_sV (c := 12), fI_sV (c := 6), fL_sV (c := 9), fL_sV (c := 12), fI_sV_k, fL_sV_k, fV_sV_k, fI_wF, fI_wG, fI_wR, fL_wF, fL_wG, fL_wR, fV_wF, fV_wG, fV_wR, aF_sV, aG_sV, aR_sV, aF_wG, aF_wR, aG_wF, aG_wR, aR_wF, aR_wG, gM g]
    have q21 : fI (sV h 81 24 (.int (nI (k + 1 + 1)))) 81 21 = nI (tkZ t N (tS t N k)) := by simp (decide := true) only [jgI_ob, jgf_ob, jgL_ob, jpI_ob, jpL_ob, jpR_ob, jpN_ob, jrc_ob, obj_sV, obj_wF, obj_wG, obj_wR, arr_sV, arr_wF, arr_wG, arr_wR, arL_sV, arL_wF, arL_wG, arL_wR, arR_sV, arR_wF, arR_wG, arR_wR, fI_sV (c := 0), fI_sV (c := 1), fI_sV (c := 2), fI_sV (c := 4), fI_sV (c := 5), fI_sV (c := 7), fI_sV (c := 8), fI_sV (c := 9), fI_sV (c := 10), fI_sV (c := 11), fI_sV (c := 12), fI_sV (c := 6), fL_sV (c := 9), fL_sV (c := 12), fI_sV_k, fL_sV_k, fV_sV_k, fI_wF, fI_wG, fI_wR, fL_wF, fL_wG, fL_wR, fV_wF, fV_wG, fV_wR, aF_sV, aG_sV, aR_sV, aF_wG, aF_wR, aG_wF, aG_wR, aR_wF, aR_wG, gM g]; exact mk.1.2.1
    generalize sV h 81 24 (.int (nI (k + 1 + 1))) = h1 at *
    have g1 := G_fr g rfl k1
    have tm1 := TM_fr mk.2.2.1 k1 (by decide) (by decide)
    rw [jrc_ob (by simp only [gM g1])]
    refine c_token g1 tm1 q21 (tkZ_r (tS_le k)).2 (fun h2 k2 mt => ?_)
    try dsimp only [jrI, jrN, jrA, jisr, jnul, jcat1]
    refine ⟨by decide, HC lt o0 h2 (fr_trans k1 (fr_mono (fun _ q => q) (by decide) k2)) ⟨mt, ?_, TM_fr tm1 k2 (by decide) (by decide), LOW_trans mk.2.2.2 (LOW_trans (LOW_fr k1 rfl) (LOW_fr k2 rfl))⟩⟩
    rw [frI k2 (by decide) (by decide)]
    exact q24
/-- a name's number -/
theorem c_named (g : G h) (mk : MKt bh h t N k) (h2 : tK t N k = 2) (ok : OKt t N k) (mn : MN h t N (nms t N k) (tld t N k)) (HC : nnum t N k < 12 → ∀ h1, fr [102, 103, 104] [] h h1 → aF h1 102 0 = aF h 102 0 → MN h1 t N (nms t N (k + 1)) (tld t N k) → Q (some (.int (nI (nnum t N k)))) h1) (HF : 12 ≤ nnum t N k → Q (some (.int (-2))) h) : jex X (d + 1) 80 [.ref 81] h Q := by
  have hl := nms_len k ok
  have hlt : fL h 81 23 = lN (w08 t N (tS t N k)) := mk.1.2.2.2.2.2 h2
  have nm := nms_name (t := t) (N := N) k
  have en : nnum t N k = nix t N (nms t N k) (tS t N k) := rfl
  have td0 : tld t N k (nms t N k).length = false := by
    cases e : tld t N k (nms t N k).length with
    | false => rfl
    | true => have := tld_len k _ ok e; omega
  have ens := nms_s (t := t) (N := N) (k := k)
  have i1 : vp_in 1 2 := by rw [vp_inI]; decide
  have c1 : (1 : Int32).toNatClampNeg = 1 := rfl
  have L : ∀ (r i : Nat) (c s : Nat), i + r = (nms t N k).length → (∀ j, j < i → w27 t N ((nms t N k).getD j 0) ≠ w27 t N (tS t N k)) → jB_X12_named_2 X d Q 81 (nI i) h c s := by
    intro r
    induction r with
    | zero =>
      intro i c s hi n
      have ex := nix_none (t := t) (N := N) (nms t N k) (tS t N k) (fun j hj => n j (by omega))
      rw [← en] at ex
      refine jT_X12_named_2 ?_
      simp (decide := true) only [jgI_ob, jgf_ob, jgL_ob, jpI_ob, jpL_ob, jpR_ob, jpN_ob, jrc_ob, obj_sV, obj_wF, obj_wG, obj_wR, arr_sV, arr_wF, arr_wG, arr_wR, arL_sV, arL_wF, arL_wG, arL_wR, arR_sV, arR_wF, arR_wG, arR_wR, fI_sV (c := 0), fI_sV (c := 1), fI_sV (c := 2), fI_sV (c := 4), fI_sV (c := 5), fI_sV (c := 7), fI_sV (c := 8), fI_sV (c := 9), fI_sV (c := 10), fI_sV (c := 11), fI_sV (c := 12), fI_sV (c := 6), fL_sV (c := 9), fL_sV (c := 12), fI_sV_k, fL_sV_k, fV_sV_k, fI_wF, fI_wG, fI_wR, fL_wF, fL_wG, fL_wR, fV_wF, fV_wG, fV_wR, aF_sV, aG_sV, aR_sV, aF_wG, aF_wR, aG_wF, aG_wR, aR_wF, aR_wG, kC, kM, gM g, gN g, i1, c1, true_and, mn.1]
      refine jif_n (nI_nlt (by omega) (by omega)) ?_
      refine ⟨fun c12 => HF ?_, fun c12 => ?_⟩
      · have := (nI_eq (b := 12) (by omega) (by omega)).1 c12
        omega
      · have c12 : (nms t N k).length < 12 := by
          rcases Nat.lt_or_ge (nms t N k).length 12 with q | q
          · exact q
          · exact absurd (show nI (nms t N k).length = 12 by rw [show (nms t N k).length = 12 by omega]; rfl) c12
        rw [if_pos ⟨h2, ex⟩] at ens
        have iv : vp_in (nI (nms t N k).length) 12 := by rw [vp_inI, nI_toInt (by omega)]; omega
        have iv2 : vp_in (12 + nI (nms t N k).length) 24 := by
          rw [show (12 : Int32) + nI (nms t N k).length = nI (12 + (nms t N k).length) from nI_add 12 _, vp_inI, nI_toInt (by omega)]
          omega
        have ic2 : (12 + nI (nms t N k).length).toNatClampNeg = 12 + (nms t N k).length := by
          rw [show (12 : Int32) + nI (nms t N k).length = nI (12 + (nms t N k).length) from nI_add 12 _, nI_clamp (by omega)]
        have ic : (nI (nms t N k).length).toNatClampNeg = (nms t N k).length := nI_clamp (by omega)
        dsimp only [jcat1]
        simp (decide := true) only [jgI_ob, jgf_ob, jgL_ob, jpI_ob, jpL_ob, jpR_ob, jpN_ob, jrc_ob, obj_sV, obj_wF, obj_wG, obj_wR, arr_sV, arr_wF, arr_wG, arr_wR, arL_sV, arL_wF, arL_wG, arL_wR, arR_sV, arR_wF, arR_wG, arR_wR, fI_sV (c := 0), fI_sV (c := 1), fI_sV (c := 2), fI_sV (c := 4), fI_sV (c := 5), fI_sV (c := 7), fI_sV (c := 8), fI_sV (c := 9), fI_sV (c := 10), fI_sV (c := 11), fI_sV (c := 12), fI_sV (c := 6), fL_sV (c := 9), fL_sV (c := 12), fI_sV_k, fL_sV_k, fV_sV_k, fI_wF, fI_wG, fI_wR, fL_wF, fL_wG, fL_wR, fV_wF, fV_wG, fV_wR, aF_sV, aG_sV, aR_sV, aF_wG, aF_wR, aG_wF, aG_wR, aR_wF, aR_wG, kC, kM, gM g, gN g, i1, c1, iv, iv2, ic, ic2, true_and, mn.1, aF_wF_ne, hlt, nI_1, aG_wF]
        have HC := HC (by omega)
        rw [ex] at HC
        rw [upd_s, show nI ((nms t N k).length + 1) - 1 = nI (nms t N k).length from nI_pred _]
        refine HC _ (fr_wF (by decide) (fr_wG (by decide) (fr_wF (by decide) fr_rfl))) (by simp (decide := true) only [jgI_ob, jgf_ob, jgL_ob, jpI_ob, jpL_ob, jpR_ob, jpN_ob, jrc_ob, obj_sV, obj_wF, obj_wG, obj_wR, arr_sV, arr_wF, arr_wG, arr_wR, arL_sV, arL_wF, arL_wG, arL_wR, arR_sV, arR_wF, arR_wG, arR_wR, fI_sV (c := 0), fI_sV (c := 1), fI_sV (c := 2), fI_sV (c := 4), fI_sV (c := 5), fI_sV (c := 7), fI_sV (c := 8), fI_sV (c := 9), fI_sV (c := 10), fI_sV (c := 11), fI_sV (c := 12), fI_sV (c := 6), fL_sV (c := 9), fL_sV (c := 12), fI_sV_k, fL_sV_k, fV_sV_k, fI_wF, fI_wG, fI_wR, fL_wF, fL_wG, fL_wR, fV_wF, fV_wG, fV_wR, aF_sV, aG_sV, aR_sV, aF_wG, aF_wR, aG_wF, aG_wR, aR_wF, aR_wG, kC, kM, gM g, aF_wF_ne]; exact upd_n (by decide)) ?_
        rw [ens]
        unfold MN
        rw [List.length_append, List.length_singleton]
        simp (decide := true) only [jgI_ob, jgf_ob, jgL_ob, jpI_ob, jpL_ob, jpR_ob, jpN_ob, jrc_ob, obj_sV, obj_wF, obj_wG, obj_wR, arr_sV, arr_wF, arr_wG, arr_wR, arL_sV, arL_wF, arL_wG, arL_wR, arR_sV, arR_wF, arR_wG, arR_wR, fI_sV (c := 0), fI_sV (c := 1), fI_sV (c := 2), fI_sV (c := 4), fI_sV (c := 5), fI_sV (c := 7), fI_sV (c := 8), fI_sV (c := 9), fI_sV (c := 10), fI_sV (c := 11), fI_sV (c := 12), fI_sV (c := 6), fL_sV (c := 9), fL_sV (c := 12), fI_sV_k, fL_sV_k, fV_sV_k, fI_wF, fI_wG, fI_wR, fL_wF, fL_wG, fL_wR, fV_wF, fV_wG, fV_wR, aF_sV, aG_sV, aR_sV, aF_wG, aF_wR, aG_wF, aG_wR, aR_wF, aR_wG, kC, kM, gM g, aF_wF_ne, aG_wF]
        refine ⟨if_pos rfl, fun j hj => ?_⟩
        rw [aG_wG (n := 24) (by simp (decide := true) only [jgI_ob, jgf_ob, jgL_ob, jpI_ob, jpL_ob, jpR_ob, jpN_ob, jrc_ob, obj_sV, obj_wF, obj_wG, obj_wR, arr_sV, arr_wF, arr_wG, arr_wR, arL_sV, arL_wF, arL_wG, arL_wR, arR_sV, arR_wF, arR_wG, arR_wR, fI_sV (c := 0), fI_sV (c := 1), fI_sV (c := 2), fI_sV (c := 4), fI_sV (c := 5), fI_sV (c := 7), fI_sV (c := 8), fI_sV (c := 9), fI_sV (c := 10), fI_sV (c := 11), fI_sV (c := 12), fI_sV (c := 6), fL_sV (c := 9), fL_sV (c := 12), fI_sV_k, fL_sV_k, fV_sV_k, fI_wF, fI_wG, fI_wR, fL_wF, fL_wG, fL_wR, fV_wF, fV_wG, fV_wR, aF_sV, aG_sV, aR_sV, aF_wG, aF_wR, aG_wF, aG_wR, aR_wF, aR_wG, gM g])]
        unfold vp_updL upd
        by_cases q : j = (nms t N k).length
        · rw [if_pos (by omega), if_pos q, q, td0, List.getD_eq_getElem?_getD, List.getElem?_append_right (Nat.le_refl _), Nat.sub_self]
          exact ⟨rfl, rfl⟩
        · rw [if_neg (by omega), if_neg q, List.getD_eq_getElem?_getD, List.getElem?_append_left (by omega), ← List.getD_eq_getElem?_getD]
          exact mn.2 j (by omega)
    | succ r ih =>
      intro i c s hi n
      have iv2 : vp_in (12 + nI i) 24 := by
        rw [show (12 : Int32) + nI i = nI (12 + i) from nI_add 12 _, vp_inI, nI_toInt (by omega)]
        omega
      have ic2 : (12 + nI i).toNatClampNeg = 12 + i := by
        rw [show (12 : Int32) + nI i = nI (12 + i) from nI_add 12 _, nI_clamp (by omega)]
      refine jT_X12_named_2 ?_
      simp (decide := true) only [jgI_ob, jgf_ob, jgL_ob, jpI_ob, jpL_ob, jpR_ob, jpN_ob, jrc_ob, obj_sV, obj_wF, obj_wG, obj_wR, arr_sV, arr_wF, arr_wG, arr_wR, arL_sV, arL_wF, arL_wG, arL_wR, arR_sV, arR_wF, arR_wG, arR_wR, fI_sV (c := 0), fI_sV (c := 1), fI_sV (c := 2), fI_sV (c := 4), fI_sV (c := 5), fI_sV (c := 7), fI_sV (c := 8), fI_sV (c := 9), fI_sV (c := 10), fI_sV (c := 11), fI_sV (c := 12), fI_sV (c := 6), fL_sV (c := 9), fL_sV (c := 12), fI_sV_k, fL_sV_k, fV_sV_k, fI_wF, fI_wG, fI_wR, fL_wF, fL_wG, fL_wR, fV_wF, fV_wG, fV_wR, aF_sV, aG_sV, aR_sV, aF_wG, aF_wR, aG_wF, aG_wR, aR_wF, aR_wG, kC, kM, gM g, gN g, i1, c1, true_and, mn.1, iv2, ic2, hlt]
      refine jif_t (nI_lt (by omega) (by omega)) ?_
      rw [(mn.2 i (by omega)).1]
      refine ⟨fun e => ?_, fun e => ?_⟩
      · rw [lg_cmp_eq, lN_big (w08_lt (nm i (by omega))) (w08_lt h2)] at e
        have ex := nix_at (t := t) (N := N) (nms t N k) i (tS t N k) (by omega) n ((w_inj (nm i (by omega)) h2).2 e)
        rw [← en] at ex
        rw [ex] at HC ens
        rw [if_neg (by omega)] at ens
        refine HC (by omega) h fr_rfl rfl ?_
        rw [ens]
        exact mn
      · rw [nI_1]
        refine ih (i + 1) c s (by omega) (fun j hj => ?_)
        by_cases q : j = i
        · subst q
          intro q2
          exact e (by rw [lg_cmp_eq, (w_inj (nm j (by omega)) h2).1 q2])
        · exact n j (by omega)
  rw [jE_X12_named]
  refine jT_X12_named_0 ?_
  exact L _ 0 _ _ (Nat.zero_add _) (fun j hj => by omega)
end MPC
