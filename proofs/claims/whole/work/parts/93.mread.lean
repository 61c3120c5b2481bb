/-! READING: the model's, whole -/
def MS0 (h : JH) (t : Nat → Int) (N k i : Nat) : Prop := aF h 91 (ns t N i) = skd t N i ∧ ((tK t N i = 4 ∨ tK t N i = 5 ∨ tK t N i = 7) → aF h 92 (ns t N i) = nI (tS t N i)) ∧ (tK t N i = 6 → aF h 92 (ns t N i) = nI (tS t N (hd0 (xo t N i)))) ∧ (tK t N i = 4 → aF h 93 (ns t N i) = nI (nnum t N (i + 1)) ∧ aF h 94 (ns t N i) = nI (na t N i) ∧ aF h 95 (ns t N i) = nI (na t N (cl t N k i))) ∧ (tK t N i = 5 → (ptd t N (tS t N (i + 1)) = false → aF h 93 (ns t N i) = nI (whl t (tS t N (i + 1)) (ptE t N (tS t N (i + 1)) - tS t N (i + 1)))) ∧ aF h 94 (ns t N i) = nI (xo t N i).length) ∧ (tK t N i = 7 → aF h 93 (ns t N i) = nI (ifA t N i) ∧ aF h 94 (ns t N i) = nI (na t N i)) ∧ (tK t N i = 6 → aF h 94 (ns t N i) = nI (xo t N (hd0 (xo t N i))).length ∧ aF h 95 (ns t N i) = nI (ns t N (hd0 (xo t N i)) + 1)) ∧ ((tK t N i = 5 ∨ tK t N i = 7 ∨ tK t N i = 9) → cl t N k i ≠ 0 → aF h 95 (ns t N i) = nI (ns t N (cl t N k i + 1)))
def MA0 (h : JH) (t : Nat → Int) (N i : Nat) : Prop := aF h 97 (na t N i) = wrd t N i ∧ aF h 98 (na t N i) = bi (ovr t N i) ∧ (tK t N i = 2 → aF h 99 (na t N i) = nI (nnum t N i)) ∧ (tK t N i = 3 → aF h 99 (na t N i) = -1 ∧ (dgs t N (tS t N i) ≠ 0 → aF h 100 (na t N i) = nI (dgs t N (tS t N i)) ∧ aF h 101 (na t N i) = zI (dpl t N (tS t N i))))
/-- the model's program in place -/
def PM0 (h : JH) (t : Nat → Int) (N K : Nat) : Prop := aF h 90 0 = nI (ns t N K) ∧ (∀ i, i < K → isSt t N i = true → MS0 h t N K i) ∧ aF h 96 0 = nI (na t N K) ∧ (∀ i, i < K → isAt t N i = true → MA0 h t N i) ∧ aF h 102 0 = nI (nms t N K).length
def cpy (f : Nat → Int32) (B n : Nat) : Nat → Int32 := fun j => if j < n then f (B + j) else f j
theorem cpy_0 {f : Nat → Int32} {B : Nat} : cpy f B 0 = f := by funext j; exact if_neg (Nat.not_lt_zero _)
theorem cpy_s {f : Nat → Int32} {B n : Nat} : upd (cpy f B n) n (cpy f B n (B + n)) = cpy f B (n + 1) := by
  funext j
  unfold upd cpy
  by_cases e : j = n
  · rw [if_pos e, if_neg (by omega), if_pos (by omega), e]
  · rw [if_neg e]
    by_cases c : j < n
    · rw [if_pos c, if_pos (by omega)]
    · rw [if_neg c, if_neg (by omega)]
def MRA : List Nat := MAr ++ [107]
def MRF : List (Nat × Nat) := MFi ++ [(81, 1)]
section MRD
variable {X : JX} {d : Nat} {Q : JQ} {h bh : JH} {N K : Nat} {t : Nat → Int}
theorem rsl_r (st : Spt t N K) : (rsl t N K).1 ≤ 5 := by
  unfold rsl
  split
  · by_cases c : (sft t N K).1 = 0
    · omega
    · exact (sft_pl K st.1 c).1
  · show hft t N K ≤ 5
    unfold hft
    split
    · omega
    · split <;> omega
theorem c_mread (g : G h) (tm : TM h t N) (st : Spt t N K) (H : ∀ (h1 : JH) (y : Int32), fr MRA MRF h h1 → y = nI (rsl t N K).1 → fI h1 81 3 = zI (rsl t N K).2 → fI h1 81 1 = 0 → ((rsl t N K).1 ≠ 0 → LOW h h1 ∧ aF h1 107 = aF h 107) → ((rsl t N K).1 = 0 → PM0 h1 t N K ∧ ∀ j, j < 12 → aF h1 107 j = 0) → Q (some (.int y)) h1) : jex X (d + 9) 68 [.ref 81] h Q := by
  have K4 := Spt_400 st
  have hN := tm.2.1
  have i1 : vp_in 1 2 := by rw [vp_inI]; decide
  have c1 : (1 : Int32).toNatClampNeg = 1 := rfl
  have i0 : vp_in 0 2 := by rw [vp_inI]; decide
  have c0 : (0 : Int32).toNatClampNeg = 0 := rfl
  have rr := rsl_r st
  -- it was wrong
  have BAD : ∀ (h1 : JH) (o1 o2 : Option Value) (c s : Nat), fr MAr MFi h h1 → LOW h h1 → (rsl t N K).1 ≠ 0 → fI h1 81 2 = nI (rsl t N K).1 → fI h1 81 3 = zI (rsl t N K).2 → jB_X12_read_69 X (d + 8) Q 81 o1 o2 0 h1 c s := by
    intro h1 o1 o2 c s k1 lw nz f2 f3
    have k1' : fr MRA MRF h h1 := fr_mono (fun p q => List.mem_append_left _ q) (fun p q => List.mem_append_left _ q) k1
    have g1 := G_fr g rfl k1'
    refine jT_X12_read_69 ?_
    rw [jpI_ob (c := 12) (by simp only [gM g1]) rfl]
    refine jif_t rfl ?_
    have k2 : fr [] [(81, 1)] h1 (sV h1 81 1 (.int 0)) := fr_sV (by decide) fr_rfl
    have g2 := G_fr g1 rfl k2
    rw [jgI_ob (c := 12) (by simp only [gM g2]) rfl]
    refine H _ _ (fr_trans k1' (fr_mono (fun p q => absurd q List.not_mem_nil) (fun p q => List.mem_append_right _ q) k2)) ?_ ?_ ?_ (fun _ => ⟨LOW_trans lw (LOW_fr k2 rfl), ?_⟩) (fun q => absurd q nz)
    · rw [frI k2 (by decide) (by decide)]; exact f2
    · rw [frI k2 (by decide) (by decide)]; exact f3
    · simp (decide := true) only [jgI_ob, jgf_ob, jgL_ob, jpI_ob, jpL_ob, jpR_ob, jpN_ob, jrc_ob, obj_sV, obj_wF, obj_wG, obj_wR, arr_sV, arr_wF, arr_wG, arr_wR, arL_sV, arL_wF, arL_wG, arL_wR, arR_sV, arR_wF, arR_wG, arR_wR, fI_sV (c := 0), fI_sV (c := 1), fI_sV (c := 2), fI_sV (c := 4), fI_sV (c := 5), fI_sV (c := 7), fI_sV (c := 8), fI_sV (c := 9), fI_sV (c := 10), fI_sV (c := 11), fI_sV (c := 12), fI_sV (c := 6), fL_sV (c := 9), fL_sV (c := 12), fI_sV_k, fL_sV_k, fV_sV_k, fI_wF, fI_wG, fI_wR, fL_wF, fL_wG, fL_wR, fV_wF, fV_wG, fV_wR, aF_sV, aG_sV, aR_sV, aF_wG, aF_wR, aG_wF, aG_wR, aR_wF, aR_wG, gM g1]
    · rw [frF k2 (by decide)]
      exact frF k1 (by decide)
  -- it was right
  have GOOD : ∀ (h1 : JH) (o1 o2 : Option Value) (c s : Nat), fr MAr MFi h h1 → ALLm h h1 t N K → (rsl t N K).1 = 0 → (rsl t N K).2 = -1 → fI h1 81 3 = -1 → jB_X12_read_69 X (d + 8) Q 81 o1 o2 1 h1 c s := by
    intro h1 o1 o2 c s k1 al ez e3 f3
    obtain ⟨mk, mn, ma, mf, ms, mo⟩ := al
    have k1' : fr MRA MRF h h1 := fr_mono (fun p q => List.mem_append_left _ q) (fun p q => List.mem_append_left _ q) k1
    have g1 := G_fr g rfl k1'
    refine jT_X12_read_69 ?_
    rw [jpI_ob (c := 12) (by simp only [gM g1]) rfl]
    refine jif_n (by decide) ?_
    have k2 : fr [] [(81, 1)] h1 (sV h1 81 1 (.int 0)) := fr_sV (by decide) fr_rfl
    have z1 : fI (sV h1 81 1 (.int 0)) 81 1 = 0 := by simp (decide := true) only [jgI_ob, jgf_ob, jgL_ob, jpI_ob, jpL_ob, jpR_ob, jpN_ob, jrc_ob, obj_sV, obj_wF, obj_wG, obj_wR, arr_sV, arr_wF, arr_wG, arr_wR, arL_sV, arL_wF, arL_wG, arL_wR, arR_sV, arR_wF, arR_wG, arR_wR, fI_sV (c := 0), fI_sV (c := 1), fI_sV (c := 2), fI_sV (c := 4), fI_sV (c := 5), fI_sV (c := 7), fI_sV (c := 8), fI_sV (c := 9), fI_sV (c := 10), fI_sV (c := 11), fI_sV (c := 12), fI_sV (c := 6), fL_sV (c := 9), fL_sV (c := 12), fI_sV_k, fL_sV_k, fV_sV_k, fI_wF, fI_wG, fI_wR, fL_wF, fL_wG, fL_wR, fV_wF, fV_wG, fV_wR, aF_sV, aG_sV, aR_sV, aF_wG, aF_wR, aG_wF, aG_wR, aR_wF, aR_wG, gM g1]
    generalize sV h1 81 1 (.int 0) = h2 at *
    have g2 := G_fr g1 rfl k2
    simp (decide := true) only [jgf_ob (c := 12), gM g2, gN g2, jaI_ar (p := 90) (n := 2), jwI_ar (p := 90) (n := 2), jaI_ar (p := 96) (n := 2), jwI_ar (p := 96) (n := 2), jaI_ar (p := 102) (n := 2), jwI_ar (p := 102) (n := 2), obj_wF, arr_wF, fV_wF, i1, c1, i0, c0, true_and, aF_wF_ne]
    refine (fun S : (∀ h3, fr [90, 96, 102] [] h2 h3 → aF h3 90 0 = aF h2 90 1 → aF h3 96 0 = aF h2 96 1 → aF h3 102 0 = aF h2 102 1 → jB_X12_read_122 X (d + 8) Q 81 (some (.int 1)) 0 h3 c s) => S _ (fr_wF (by decide) (fr_wF (by decide) (fr_wF (by decide) fr_rfl))) (by simp (decide := true) only [jgI_ob, jgf_ob, jgL_ob, jpI_ob, jpL_ob, jpR_ob, jpN_ob, jrc_ob, obj_sV, obj_wF, obj_wG, obj_wR, arr_sV, arr_wF, arr_wG, arr_wR, arL_sV, arL_wF, arL_wG, arL_wR, arR_sV, arR_wF, arR_wG, arR_wR, fI_sV (c := 0), fI_sV (c := 1), fI_sV (c := 2), fI_sV (c := 4), fI_sV (c := 5), fI_sV (c := 7), fI_sV (c := 8), fI_sV (c := 9), fI_sV (c := 10), fI_sV (c := 11), fI_sV (c := 12), fI_sV (c := 6), fL_sV (c := 9), fL_sV (c := 12), fI_sV_k, fL_sV_k, fV_sV_k, fI_wF, fI_wG, fI_wR, fL_wF, fL_wG, fL_wR, fV_wF, fV_wG, fV_wR, aF_sV, aG_sV, aR_sV, aF_wG, aF_wR, aG_wF, aG_wR, aR_wF, aR_wG, kC, kM, gM g2, aF_wF_ne]; exact if_pos rfl) (by simp (decide := true) only [jgI_ob, jgf_ob, jgL_ob, jpI_ob, jpL_ob, jpR_ob, jpN_ob, jrc_ob, obj_sV, obj_wF, obj_wG, obj_wR, arr_sV, arr_wF, arr_wG, arr_wR, arL_sV, arL_wF, arL_wG, arL_wR, arR_sV, arR_wF, arR_wG, arR_wR, fI_sV (c := 0), fI_sV (c := 1), fI_sV (c := 2), fI_sV (c := 4), fI_sV (c := 5), fI_sV (c := 7), fI_sV (c := 8), fI_sV (c := 9), fI_sV (c := 10), fI_sV (c := 11), fI_sV (c := 12), fI_sV (c := 6), fL_sV (c := 9), fL_sV (c := 12), fI_sV_k, fL_sV_k, fV_sV_k, fI_wF, fI_wG, fI_wR, fL_wF, fL_wG, fL_wR, fV_wF, fV_wG, fV_wR, aF_sV, aG_sV, aR_sV, aF_wG, aF_wR, aG_wF, aG_wR, aR_wF, aR_wG, kC, kM, gM g2, aF_wF_ne]; exact if_pos rfl) (by simp (decide := true) only [jgI_ob, jgf_ob, jgL_ob, jpI_ob, jpL_ob, jpR_ob, jpN_ob, jrc_ob, obj_sV, obj_wF, obj_wG, obj_wR, arr_sV, arr_wF, arr_wG, arr_wR, arL_sV, arL_wF, arL_wG, arL_wR, arR_sV, arR_wF, arR_wG, arR_wR, fI_sV (c := 0), fI_sV (c := 1), fI_sV (c := 2), fI_sV (c := 4), fI_sV (c := 5), fI_sV (c := 7), fI_sV (c := 8), fI_sV (c := 9), fI_sV (c := 10), fI_sV (c := 11), fI_sV (c := 12), fI_sV (c := 6), fL_sV (c := 9), fL_sV (c := 12), fI_sV_k, fL_sV_k, fV_sV_k, fI_wF, fI_wG, fI_wR, fL_wF, fL_wG, fL_wR, fV_wF, fV_wG, fV_wR, aF_sV, aG_sV, aR_sV, aF_wG, aF_wR, aG_wF, aG_wR, aR_wF, aR_wG, kC, kM, gM g2, aF_wF_ne]; exact if_pos rfl)) (fun h3 k3 q90 q96 q102 => ?_)
    have k3' : fr MRA MRF h h3 := fr_trans k1' (fr_trans (fr_mono (fun p q => absurd q List.not_mem_nil) (fun p q => List.mem_append_right _ q) k2) (fr_mono (by decide) (by decide) k3))
    have g3 := G_fr g rfl k3'
    have e91 : aF h3 91 = aF h1 91 := (frF k3 (by decide)).trans (frF k2 (by decide))
    have e92 : aF h3 92 = aF h1 92 := (frF k3 (by decide)).trans (frF k2 (by decide))
    have e93 : aF h3 93 = aF h1 93 := (frF k3 (by decide)).trans (frF k2 (by decide))
    have e94 : aF h3 94 = aF h1 94 := (frF k3 (by decide)).trans (frF k2 (by decide))
    have e95 : aF h3 95 = aF h1 95 := (frF k3 (by decide)).trans (frF k2 (by decide))
    have e97 : aF h3 97 = aF h1 97 := (frF k3 (by decide)).trans (frF k2 (by decide))
    have e98 : aF h3 98 = aF h1 98 := (frF k3 (by decide)).trans (frF k2 (by decide))
    have e99 : aF h3 99 = aF h1 99 := (frF k3 (by decide)).trans (frF k2 (by decide))
    have e100 : aF h3 100 = aF h1 100 := (frF k3 (by decide)).trans (frF k2 (by decide))
    have e101 : aF h3 101 = aF h1 101 := (frF k3 (by decide)).trans (frF k2 (by decide))
    -- no name has a value
    have W3 : ∀ (r n : Nat) (h5 : JH) (o1 : Option Value) (c s : Nat), n + r = 12 → fr [91, 92, 93, 94, 95, 97, 98, 99, 100, 101, 107] [] h3 h5 → aF h5 91 = cpy (aF h3 91) 410 410 → aF h5 92 = cpy (aF h3 92) 410 410 → aF h5 93 = cpy (aF h3 93) 410 410 → aF h5 94 = cpy (aF h3 94) 410 410 → aF h5 95 = cpy (aF h3 95) 410 410 → aF h5 97 = cpy (aF h3 97) 210 210 → aF h5 98 = cpy (aF h3 98) 210 210 → aF h5 99 = cpy (aF h3 99) 210 210 → aF h5 100 = cpy (aF h3 100) 210 210 → aF h5 101 = cpy (aF h3 101) 210 210 → (∀ j, j < n → aF h5 107 j = 0) → jB_X12_read_312 X (d + 8) Q 81 o1 (nI n) h5 c s := by
      intro r
      induction r with
      | zero =>
        intro n h5 o1 c s hn k5 d1 d2 d3 d4 d5 a1 a2 a3 a4 a5 b
        refine jT_X12_read_312 (jif_n (nI_nlt (a := n) (b := 12) (by omega) (by omega)) ?_)
        refine H h5 0 (fr_trans k3' (fr_mono (by decide) (by decide) k5)) (by rw [ez]; rfl) ?_ ?_ (fun q => absurd ez q) (fun _ => ⟨⟨?_, fun i hi si => ?_, ?_, fun i hi ai => ?_, ?_⟩, fun j hj => b j (by omega)⟩)
        · rw [frI k5 (by decide) (by decide), frI k3 (by decide) (by decide), frI k2 (by decide) (by decide), f3, e3]; rfl
        · rw [frI k5 (by decide) (by decide), frI k3 (by decide) (by decide)]; exact z1
        · rw [frF k5 (by decide), q90, frF k2 (by decide)]; exact ms.1
        · have m1 := ms.2 i hi si
          have nl := ns_le (t := t) (N := N) i
          have Cd : ∀ f : Nat → Int32, cpy f 410 410 (ns t N i) = f (410 + ns t N i) := fun f => if_pos (by omega)
          unfold MS0
          rw [d1, d2, d3, d4, d5, Cd, Cd, Cd, Cd, Cd, e91, e92, e93, e94, e95]
          exact m1
        · rw [frF k5 (by decide), q96, frF k2 (by decide)]; exact ma.1
        · have m1 := ma.2 i hi ai
          have nl := (na_le i (OKt_m st.1 (by omega))).1
          have Ca : ∀ f : Nat → Int32, cpy f 210 210 (na t N i) = f (210 + na t N i) := fun f => if_pos (by omega)
          unfold MA0
          rw [a1, a2, a3, a4, a5, Ca, Ca, Ca, Ca, Ca, e97, e98, e99, e100, e101]
          exact m1
        · rw [frF k5 (by decide), q102, frF k2 (by decide)]; exact mn.1
      | succ r ih =>
        intro n h5 o1 c s hn k5 d1 d2 d3 d4 d5 a1 a2 a3 a4 a5 b
        have g5 := G_fr g3 rfl k5
        have iv : vp_in (nI n) 12 := by rw [vp_inI, nI_toInt (by omega)]; omega
        have ic : (nI n).toNatClampNeg = n := nI_clamp (by omega)
        refine jT_X12_read_312 (jif_t (nI_lt (b := 12) (by omega) (by omega)) ?_)
        rw [jgf_ob (c := 12) (by simp only [gM g5]) rfl, show fV h5 81 43 = .ref 107 by simp only [gN g5], jwZ_ar (n := 12) (by simp only [gM g5])]
        refine ⟨iv, ?_⟩
        rw [ic, nar_z (Or.inl rfl), nI_1]
        have k6 : fr [107] [] h5 (wF h5 107 (upd (aF h5 107) n 0)) := fr_wF (by decide) fr_rfl
        have p107 : aF (wF h5 107 (upd (aF h5 107) n 0)) 107 = upd (aF h5 107) n 0 := aF_wF (t := .boolean) (n := 12) (by simp only [gM g5])
        refine ih (n + 1) _ _ _ _ (by omega) (fr_trans k5 (fr_mono (by decide) (fun _ q => q) k6)) ?_ ?_ ?_ ?_ ?_ ?_ ?_ ?_ ?_ ?_ (fun j hj => ?_)
        · rw [frF k6 (by decide)]; exact d1
        · rw [frF k6 (by decide)]; exact d2
        · rw [frF k6 (by decide)]; exact d3
        · rw [frF k6 (by decide)]; exact d4
        · rw [frF k6 (by decide)]; exact d5
        · rw [frF k6 (by decide)]; exact a1
        · rw [frF k6 (by decide)]; exact a2
        · rw [frF k6 (by decide)]; exact a3
        · rw [frF k6 (by decide)]; exact a4
        · rw [frF k6 (by decide)]; exact a5
        · rw [p107]
          by_cases q : j = n
          · rw [q, upd_s]
          · rw [upd_n q]; exact b j (by omega)
    -- the atoms
    have W2 : ∀ (r n : Nat) (h5 : JH) (o1 : Option Value) (c s : Nat), n + r = 210 → fr [91, 92, 93, 94, 95, 97, 98, 99, 100, 101] [] h3 h5 → aF h5 91 = cpy (aF h3 91) 410 410 → aF h5 92 = cpy (aF h3 92) 410 410 → aF h5 93 = cpy (aF h3 93) 410 410 → aF h5 94 = cpy (aF h3 94) 410 410 → aF h5 95 = cpy (aF h3 95) 410 410 → aF h5 97 = cpy (aF h3 97) 210 n → aF h5 98 = cpy (aF h3 98) 210 n → aF h5 99 = cpy (aF h3 99) 210 n → aF h5 100 = cpy (aF h3 100) 210 n → aF h5 101 = cpy (aF h3 101) 210 n → jB_X12_read_217 X (d + 8) Q 81 o1 (nI n) h5 c s := by
      intro r
      induction r with
      | zero =>
        intro n h5 o1 c s hn k5 d1 d2 d3 d4 d5 a1 a2 a3 a4 a5
        have en : n = 210 := by omega
        subst en
        refine jT_X12_read_217 (jif_n (nI_nlt (a := 210) (b := 210) (by omega) (by omega)) ?_)
        exact W3 12 0 h5 _ _ _ (by omega) (fr_mono (by decide) (fun _ q => q) k5) d1 d2 d3 d4 d5 a1 a2 a3 a4 a5 (fun j hj => absurd hj (Nat.not_lt_zero _))
      | succ r ih =>
        intro n h5 o1 c s hn k5 d1 d2 d3 d4 d5 a1 a2 a3 a4 a5
        have g5 := G_fr g3 rfl k5
        have iv : vp_in (nI n) 420 := by rw [vp_inI, nI_toInt (by omega)]; omega
        have ic : (nI n).toNatClampNeg = n := nI_clamp (by omega)
        have ei : (210 : Int32) + nI n = nI (210 + n) := nI_add 210 n
        have iv2 : vp_in (nI (210 + n)) 420 := by rw [vp_inI, nI_toInt (by omega)]; omega
        have ic2 : (nI (210 + n)).toNatClampNeg = 210 + n := nI_clamp (by omega)
        refine jT_X12_read_217 (jif_t (nI_lt (b := 210) (by omega) (by omega)) ?_)
        simp (decide := true) only [jgI_ob, jgf_ob, jgL_ob, jpI_ob, jpL_ob, jpR_ob, jpN_ob, jrc_ob, obj_sV, obj_wF, obj_wG, obj_wR, arr_sV, arr_wF, arr_wG, arr_wR, arL_sV, arL_wF, arL_wG, arL_wR, arR_sV, arR_wF, arR_wG, arR_wR, fI_sV (c := 0), fI_sV (c := 1), fI_sV (c := 2), fI_sV (c := 4), fI_sV (c := 5), fI_sV (c := 7), fI_sV (c := 8), fI_sV (c := 9), fI_sV (c := 10), fI_sV (c := 11), fI_sV (c := 12), fI_sV (c := 6), fL_sV (c := 9), fL_sV (c := 12), fI_sV_k, fL_sV_k, fV_sV_k, fI_wF, fI_wG, fI_wR, fL_wF, fL_wG, fL_wR, fV_wF, fV_wG, fV_wR, aF_sV, aG_sV, aR_sV, aF_wG, aF_wR, aG_wF, aG_wR, aR_wF, aR_wG, kC, kM, gM g5, gN g5, ei, iv, ic, iv2, ic2, true_and, aF_wF_ne, nI_1]
        refine ih (n + 1) _ _ _ _ (by omega) (fr_wF (by decide) (fr_wF (by decide) (fr_wF (by decide) (fr_wF (by decide) (fr_wF (by decide) k5))))) ?_ ?_ ?_ ?_ ?_ ?_ ?_ ?_ ?_ ?_
        · simp (decide := true) only [jgI_ob, jgf_ob, jgL_ob, jpI_ob, jpL_ob, jpR_ob, jpN_ob, jrc_ob, obj_sV, obj_wF, obj_wG, obj_wR, arr_sV, arr_wF, arr_wG, arr_wR, arL_sV, arL_wF, arL_wG, arL_wR, arR_sV, arR_wF, arR_wG, arR_wR, fI_sV (c := 0), fI_sV (c := 1), fI_sV (c := 2), fI_sV (c := 4), fI_sV (c := 5), fI_sV (c := 7), fI_sV (c := 8), fI_sV (c := 9), fI_sV (c := 10), fI_sV (c := 11), fI_sV (c := 12), fI_sV (c := 6), fL_sV (c := 9), fL_sV (c := 12), fI_sV_k, fL_sV_k, fV_sV_k, fI_wF, fI_wG, fI_wR, fL_wF, fL_wG, fL_wR, fV_wF, fV_wG, fV_wR, aF_sV, aG_sV, aR_sV, aF_wG, aF_wR, aG_wF, aG_wR, aR_wF, aR_wG, kC, kM, gM g5, aF_wF_ne]; exact d1
        · simp (decide := true) only [jgI_ob, jgf_ob, jgL_ob, jpI_ob, jpL_ob, jpR_ob, jpN_ob, jrc_ob, obj_sV, obj_wF, obj_wG, obj_wR, arr_sV, arr_wF, arr_wG, arr_wR, arL_sV, arL_wF, arL_wG, arL_wR, arR_sV, arR_wF, arR_wG, arR_wR, fI_sV (c := 0), fI_sV (c := 1), fI_sV (c := 2), fI_sV (c := 4), fI_sV (c := 5), fI_sV (c := 7), fI_sV (c := 8), fI_sV (c := 9), fI_sV (c := 10), fI_sV (c := 11), fI_sV (c := 12), fI_sV (c := 6), fL_sV (c := 9), fL_sV (c := 12), fI_sV_k, fL_sV_k, fV_sV_k, fI_wF, fI_wG, fI_wR, fL_wF, fL_wG, fL_wR, fV_wF, fV_wG, fV_wR, aF_sV, aG_sV, aR_sV, aF_wG, aF_wR, aG_wF, aG_wR, aR_wF, aR_wG, kC, kM, gM g5, aF_wF_ne]; exact d2
        · simp (decide := true) only [jgI_ob, jgf_ob, jgL_ob, jpI_ob, jpL_ob, jpR_ob, jpN_ob, jrc_ob, obj_sV, obj_wF, obj_wG, obj_wR, arr_sV, arr_wF, arr_wG, arr_wR, arL_sV, arL_wF, arL_wG, arL_wR, arR_sV, arR_wF, arR_wG, arR_wR, fI_sV (c := 0), fI_sV (c := 1), fI_sV (c := 2), fI_sV (c := 4), fI_sV (c := 5), fI_sV (c := 7), fI_sV (c := 8), fI_sV (c := 9), fI_sV (c := 10), fI_sV (c := 11), fI_sV (c := 12), fI_sV (c := 6), fL_sV (c := 9), fL_sV (c := 12), fI_sV_k, fL_sV_k, fV_sV_k, fI_wF, fI_wG, fI_wR, fL_wF, fL_wG, fL_wR, fV_wF, fV_wG, fV_wR, aF_sV, aG_sV, aR_sV, aF_wG, aF_wR, aG_wF, aG_wR, aR_wF, aR_wG, kC, kM, gM g5, aF_wF_ne]; exact d3
        · simp (decide := true) only [jgI_ob, jgf_ob, jgL_ob, jpI_ob, jpL_ob, jpR_ob, jpN_ob, jrc_ob, obj_sV, obj_wF, obj_wG, obj_wR, arr_sV, arr_wF, arr_wG, arr_wR, arL_sV, arL_wF, arL_wG, arL_wR, arR_sV, arR_wF, arR_wG, arR_wR, fI_sV (c := 0), fI_sV (c := 1), fI_sV (c := 2), fI_sV (c := 4), fI_sV (c := 5), fI_sV (c := 7), fI_sV (c := 8), fI_sV (c := 9), fI_sV (c := 10), fI_sV (c := 11), fI_sV (c := 12), fI_sV (c := 6), fL_sV (c := 9), fL_sV (c := 12), fI_sV_k, fL_sV_k, fV_sV_k, fI_wF, fI_wG, fI_wR, fL_wF, fL_wG, fL_wR, fV_wF, fV_wG, fV_wR, aF_sV, aG_sV, aR_sV, aF_wG, aF_wR, aG_wF, aG_wR, aR_wF, aR_wG, kC, kM, gM g5, aF_wF_ne]; exact d4
        · simp (decide := true) only [jgI_ob, jgf_ob, jgL_ob, jpI_ob, jpL_ob, jpR_ob, jpN_ob, jrc_ob, obj_sV, obj_wF, obj_wG, obj_wR, arr_sV, arr_wF, arr_wG, arr_wR, arL_sV, arL_wF, arL_wG, arL_wR, arR_sV, arR_wF, arR_wG, arR_wR, fI_sV (c := 0), fI_sV (c := 1), fI_sV (c := 2), fI_sV (c := 4), fI_sV (c := 5), fI_sV (c := 7), fI_sV (c := 8), fI_sV (c := 9), fI_sV (c := 10), fI_sV (c := 11), fI_sV (c := 12), fI_sV (c := 6), fL_sV (c := 9), fL_sV (c := 12), fI_sV_k, fL_sV_k, fV_sV_k, fI_wF, fI_wG, fI_wR, fL_wF, fL_wG, fL_wR, fV_wF, fV_wG, fV_wR, aF_sV, aG_sV, aR_sV, aF_wG, aF_wR, aG_wF, aG_wR, aR_wF, aR_wG, kC, kM, gM g5, aF_wF_ne]; exact d5
        · simp (decide := true) only [jgI_ob, jgf_ob, jgL_ob, jpI_ob, jpL_ob, jpR_ob, jpN_ob, jrc_ob, obj_sV, obj_wF, obj_wG, obj_wR, arr_sV, arr_wF, arr_wG, arr_wR, arL_sV, arL_wF, arL_wG, arL_wR, arR_sV, arR_wF, arR_wG, arR_wR, fI_sV (c := 0), fI_sV (c := 1), fI_sV (c := 2), fI_sV (c := 4), fI_sV (c := 5), fI_sV (c := 7), fI_sV (c := 8), fI_sV (c := 9), fI_sV (c := 10), fI_sV (c := 11), fI_sV (c := 12), fI_sV (c := 6), fL_sV (c := 9), fL_sV (c := 12), fI_sV_k, fL_sV_k, fV_sV_k, fI_wF, fI_wG, fI_wR, fL_wF, fL_wG, fL_wR, fV_wF, fV_wG, fV_wR, aF_sV, aG_sV, aR_sV, aF_wG, aF_wR, aG_wF, aG_wR, aR_wF, aR_wG, kC, kM, gM g5, aF_wF_ne]; rw [a1]; exact cpy_s
        · simp (decide := true) only [jgI_ob, jgf_ob, jgL_ob, jpI_ob, jpL_ob, jpR_ob, jpN_ob, jrc_ob, obj_sV, obj_wF, obj_wG, obj_wR, arr_sV, arr_wF, arr_wG, arr_wR, arL_sV, arL_wF, arL_wG, arL_wR, arR_sV, arR_wF, arR_wG, arR_wR, fI_sV (c := 0), fI_sV (c := 1), fI_sV (c := 2), fI_sV (c := 4), fI_sV (c := 5), fI_sV (c := 7), fI_sV (c := 8), fI_sV (c := 9), fI_sV (c := 10), fI_sV (c := 11), fI_sV (c := 12), fI_sV (c := 6), fL_sV (c := 9), fL_sV (c := 12), fI_sV_k, fL_sV_k, fV_sV_k, fI_wF, fI_wG, fI_wR, fL_wF, fL_wG, fL_wR, fV_wF, fV_wG, fV_wR, aF_sV, aG_sV, aR_sV, aF_wG, aF_wR, aG_wF, aG_wR, aR_wF, aR_wG, kC, kM, gM g5, aF_wF_ne]; rw [a2]; exact cpy_s
        · simp (decide := true) only [jgI_ob, jgf_ob, jgL_ob, jpI_ob, jpL_ob, jpR_ob, jpN_ob, jrc_ob, obj_sV, obj_wF, obj_wG, obj_wR, arr_sV, arr_wF, arr_wG, arr_wR, arL_sV, arL_wF, arL_wG, arL_wR, arR_sV, arR_wF, arR_wG, arR_wR, fI_sV (c := 0), fI_sV (c := 1), fI_sV (c := 2), fI_sV (c := 4), fI_sV (c := 5), fI_sV (c := 7), fI_sV (c := 8), fI_sV (c := 9), fI_sV (c := 10), fI_sV (c := 11), fI_sV (c := 12), fI_sV (c := 6), fL_sV (c := 9), fL_sV (c := 12), fI_sV_k, fL_sV_k, fV_sV_k, fI_wF, fI_wG, fI_wR, fL_wF, fL_wG, fL_wR, fV_wF, fV_wG, fV_wR, aF_sV, aG_sV, aR_sV, aF_wG, aF_wR, aG_wF, aG_wR, aR_wF, aR_wG, kC, kM, gM g5, aF_wF_ne]; rw [a3]; exact cpy_s
        · simp (decide := true) only [jgI_ob, jgf_ob, jgL_ob, jpI_ob, jpL_ob, jpR_ob, jpN_ob, jrc_ob, obj_sV, obj_wF, obj_wG, obj_wR, arr_sV, arr_wF, arr_wG, arr_wR, arL_sV, arL_wF, arL_wG, arL_wR, arR_sV, arR_wF, arR_wG, arR_wR, fI_sV (c := 0), fI_sV (c := 1), fI_sV (c := 2), fI_sV (c := 4), fI_sV (c := 5), fI_sV (c := 7), fI_sV (c := 8), fI_sV (c := 9), fI_sV (c := 10), fI_sV (c := 11), fI_sV (c := 12), fI_sV (c := 6), fL_sV (c := 9), fL_sV (c := 12), fI_sV_k, fL_sV_k, fV_sV_k, fI_wF, fI_wG, fI_wR, fL_wF, fL_wG, fL_wR, fV_wF, fV_wG, fV_wR, aF_sV, aG_sV, aR_sV, aF_wG, aF_wR, aG_wF, aG_wR, aR_wF, aR_wG, kC, kM, gM g5, aF_wF_ne]; rw [a4]; exact cpy_s
        · simp (decide := true) only [jgI_ob, jgf_ob, jgL_ob, jpI_ob, jpL_ob, jpR_ob, jpN_ob, jrc_ob, obj_sV, obj_wF, obj_wG, obj_wR, arr_sV, arr_wF, arr_wG, arr_wR, arL_sV, arL_wF, arL_wG, arL_wR, arR_sV, arR_wF, arR_wG, arR_wR, fI_sV (c := 0), fI_sV (c := 1), fI_sV (c := 2), fI_sV (c := 4), fI_sV (c := 5), fI_sV (c := 7), fI_sV (c := 8), fI_sV (c := 9), fI_sV (c := 10), fI_sV (c := 11), fI_sV (c := 12), fI_sV (c := 6), fL_sV (c := 9), fL_sV (c := 12), fI_sV_k, fL_sV_k, fV_sV_k, fI_wF, fI_wG, fI_wR, fL_wF, fL_wG, fL_wR, fV_wF, fV_wG, fV_wR, aF_sV, aG_sV, aR_sV, aF_wG, aF_wR, aG_wF, aG_wR, aR_wF, aR_wG, kC, kM, gM g5, aF_wF_ne]; rw [a5]; exact cpy_s
    -- the steps
    have W1 : ∀ (r n : Nat) (h5 : JH) (o1 : Option Value) (c s : Nat), n + r = 410 → fr [91, 92, 93, 94, 95] [] h3 h5 → aF h5 91 = cpy (aF h3 91) 410 n → aF h5 92 = cpy (aF h3 92) 410 n → aF h5 93 = cpy (aF h3 93) 410 n → aF h5 94 = cpy (aF h3 94) 410 n → aF h5 95 = cpy (aF h3 95) 410 n → jB_X12_read_122 X (d + 8) Q 81 o1 (nI n) h5 c s := by
      intro r
      induction r with
      | zero =>
        intro n h5 o1 c s hn k5 d1 d2 d3 d4 d5
        have en : n = 410 := by omega
        subst en
        refine jT_X12_read_122 (jif_n (nI_nlt (a := 410) (b := 410) (by omega) (by omega)) ?_)
        refine W2 210 0 h5 _ _ _ (by omega) (fr_mono (by decide) (fun _ q => q) k5) d1 d2 d3 d4 d5 ?_ ?_ ?_ ?_ ?_
        · rw [cpy_0]; exact frF k5 (by decide)
        · rw [cpy_0]; exact frF k5 (by decide)
        · rw [cpy_0]; exact frF k5 (by decide)
        · rw [cpy_0]; exact frF k5 (by decide)
        · rw [cpy_0]; exact frF k5 (by decide)
      | succ r ih =>
        intro n h5 o1 c s hn k5 d1 d2 d3 d4 d5
        have g5 := G_fr g3 rfl k5
        have iv : vp_in (nI n) 820 := by rw [vp_inI, nI_toInt (by omega)]; omega
        have ic : (nI n).toNatClampNeg = n := nI_clamp (by omega)
        have ei : (410 : Int32) + nI n = nI (410 + n) := nI_add 410 n
        have iv2 : vp_in (nI (410 + n)) 820 := by rw [vp_inI, nI_toInt (by omega)]; omega
        have ic2 : (nI (410 + n)).toNatClampNeg = 410 + n := nI_clamp (by omega)
        refine jT_X12_read_122 (jif_t (nI_lt (b := 410) (by omega) (by omega)) ?_)
        simp (decide := true) only [jgI_ob, jgf_ob, jgL_ob, jpI_ob, jpL_ob, jpR_ob, jpN_ob, jrc_ob, obj_sV, obj_wF, obj_wG, obj_wR, arr_sV, arr_wF, arr_wG, arr_wR, arL_sV, arL_wF, arL_wG, arL_wR, arR_sV, arR_wF, arR_wG, arR_wR, fI_sV (c := 0), fI_sV (c := 1), fI_sV (c := 2), fI_sV (c := 4), fI_sV (c := 5), fI_sV (c := 7), fI_sV (c := 8), fI_sV (c := 9), fI_sV (c := 10), fI_sV (c := 11), fI_sV (c := 12), fI_sV (c := 6), fL_sV (c := 9), fL_sV (c := 12), fI_sV_k, fL_sV_k, fV_sV_k, fI_wF, fI_wG, fI_wR, fL_wF, fL_wG, fL_wR, fV_wF, fV_wG, fV_wR, aF_sV, aG_sV, aR_sV, aF_wG, aF_wR, aG_wF, aG_wR, aR_wF, aR_wG, kC, kM, gM g5, gN g5, ei, iv, ic, iv2, ic2, true_and, aF_wF_ne, nI_1]
        refine ih (n + 1) _ _ _ _ (by omega) (fr_wF (by decide) (fr_wF (by decide) (fr_wF (by decide) (fr_wF (by decide) (fr_wF (by decide) k5))))) ?_ ?_ ?_ ?_ ?_
        · simp (decide := true) only [jgI_ob, jgf_ob, jgL_ob, jpI_ob, jpL_ob, jpR_ob, jpN_ob, jrc_ob, obj_sV, obj_wF, obj_wG, obj_wR, arr_sV, arr_wF, arr_wG, arr_wR, arL_sV, arL_wF, arL_wG, arL_wR, arR_sV, arR_wF, arR_wG, arR_wR, fI_sV (c := 0), fI_sV (c := 1), fI_sV (c := 2), fI_sV (c := 4), fI_sV (c := 5), fI_sV (c := 7), fI_sV (c := 8), fI_sV (c := 9), fI_sV (c := 10), fI_sV (c := 11), fI_sV (c := 12), fI_sV (c := 6), fL_sV (c := 9), fL_sV (c := 12), fI_sV_k, fL_sV_k, fV_sV_k, fI_wF, fI_wG, fI_wR, fL_wF, fL_wG, fL_wR, fV_wF, fV_wG, fV_wR, aF_sV, aG_sV, aR_sV, aF_wG, aF_wR, aG_wF, aG_wR, aR_wF, aR_wG, kC, kM, gM g5, aF_wF_ne]; rw [d1]; exact cpy_s
        · simp (decide := true) only [jgI_ob, jgf_ob, jgL_ob, jpI_ob, jpL_ob, jpR_ob, jpN_ob, jrc_ob, obj_sV, obj_wF, obj_wG, obj_wR, arr_sV, arr_wF, arr_wG, arr_wR, arL_sV, arL_wF, arL_wG, arL_wR, arR_sV, arR_wF, arR_wG, arR_wR, fI_sV (c := 0), fI_sV (c := 1), fI_sV (c := 2), fI_sV (c := 4), fI_sV (c := 5), fI_sV (c := 7), fI_sV (c := 8), fI_sV (c := 9), fI_sV (c := 10), fI_sV (c := 11), fI_sV (c := 12), fI_sV (c := 6), fL_sV (c := 9), fL_sV (c := 12), fI_sV_k, fL_sV_k, fV_sV_k, fI_wF, fI_wG, fI_wR, fL_wF, fL_wG, fL_wR, fV_wF, fV_wG, fV_wR, aF_sV, aG_sV, aR_sV, aF_wG, aF_wR, aG_wF, aG_wR, aR_wF, aR_wG, kC, kM, gM g5, aF_wF_ne]; rw [d2]; exact cpy_s
        · simp (decide := true) only [jgI_ob, jgf_ob, jgL_ob, jpI_ob, jpL_ob, jpR_ob, jpN_ob, jrc_ob, obj_sV, obj_wF, obj_wG, obj_wR, arr_sV, arr_wF, arr_wG, arr_wR, arL_sV, arL_wF, arL_wG, arL_wR, arR_sV, arR_wF, arR_wG, arR_wR, fI_sV (c := 0), fI_sV (c := 1), fI_sV (c := 2), fI_sV (c := 4), fI_sV (c := 5), fI_sV (c := 7), fI_sV (c := 8), fI_sV (c := 9), fI_sV (c := 10), fI_sV (c := 11), fI_sV (c := 12), fI_sV (c := 6), fL_sV (c := 9), fL_sV (c := 12), fI_sV_k, fL_sV_k, fV_sV_k, fI_wF, fI_wG, fI_wR, fL_wF, fL_wG, fL_wR, fV_wF, fV_wG, fV_wR, aF_sV, aG_sV, aR_sV, aF_wG, aF_wR, aG_wF, aG_wR, aR_wF, aR_wG, kC, kM, gM g5, aF_wF_ne]; rw [d3]; exact cpy_s
        · simp (decide := true) only [jgI_ob, jgf_ob, jgL_ob, jpI_ob, jpL_ob, jpR_ob, jpN_ob, jrc_ob, obj_sV, obj_wF, obj_wG, obj_wR, arr_sV, arr_wF, arr_wG, arr_wR, arL_sV, arL_wF, arL_wG, arL_wR, arR_sV, arR_wF, arR_wG, arR_wR, fI_sV (c := 0), fI_sV (c := 1), fI_sV (c := 2), fI_sV (c := 4), fI_sV (c := 5), fI_sV (c := 7), fI_sV (c := 8), fI_sV (c := 9), fI_sV (c := 10), fI_sV (c := 11), fI_sV (c := 12), fI_sV (c := 6), fL_sV (c := 9), fL_sV (c := 12), fI_sV_k, fL_sV_k, fV_sV_k, fI_wF, fI_wG, fI_wR, fL_wF, fL_wG, fL_wR, fV_wF, fV_wG, fV_wR, aF_sV, aG_sV, aR_sV, aF_wG, aF_wR, aG_wF, aG_wR, aR_wF, aR_wG, kC, kM, gM g5, aF_wF_ne]; rw [d4]; exact cpy_s
        · simp (decide := true) only [jgI_ob, jgf_ob, jgL_ob, jpI_ob, jpL_ob, jpR_ob, jpN_ob, jrc_ob, obj_sV, obj_wF, obj_wG, obj_wR, arr_sV, arr_wF, arr_wG, arr_wR, arL_sV, arL_wF, arL_wG, arL_wR, arR_sV, arR_wF, arR_wG, arR_wR, fI_sV (c := 0), fI_sV (c := 1), fI_sV (c := 2), fI_sV (c := 4), fI_sV (c := 5), fI_sV (c := 7), fI_sV (c := 8), fI_sV (c := 9), fI_sV (c := 10), fI_sV (c := 11), fI_sV (c := 12), fI_sV (c := 6), fL_sV (c := 9), fL_sV (c := 12), fI_sV_k, fL_sV_k, fV_sV_k, fI_wF, fI_wG, fI_wR, fL_wF, fL_wG, fL_wR, fV_wF, fV_wG, fV_wR, aF_sV, aG_sV, aR_sV, aF_wG, aF_wR, aG_wF, aG_wR, aR_wF, aR_wG, kC, kM, gM g5, aF_wF_ne]; rw [d5]; exact cpy_s
    exact W1 410 0 h3 _ _ _ (by omega) fr_rfl cpy_0.symm cpy_0.symm cpy_0.symm cpy_0.symm cpy_0.symm
  rw [jE_X12_read]
  refine jT_X12_read_0 ?_
  simp (decide := true) only [jgf_ob (c := 12), jpI_ob (c := 12), gM g, gN g, jwI_ar (p := 90) (n := 2), jwI_ar (p := 96) (n := 2), jwI_ar (p := 102) (n := 2), jrc_ob (c := 12), obj_wF, arr_wF, fV_wF, obj_sV, arr_sV, fV_sV_k, i1, c1, true_and, aF_wF_ne, aF_sV]
  have k1 : fr [90, 96, 102] [(81, 2), (81, 3), (81, 21), (81, 24), (81, 40)] h (wF (wF (wF (sV (sV (sV (sV (sV h 81 2 (.int 0)) 81 3 (.int (-1))) 81 21 (.int 0)) 81 24 (.int 1)) 81 40 (.int 0)) 90 (upd (aF h 90) 1 0)) 96 (upd (aF h 96) 1 0)) 102 (upd (aF h 102) 1 0)) := fr_wF (by decide) (fr_wF (by decide) (fr_wF (by decide) (fr_sV (by decide) (fr_sV (by decide) (fr_sV (by decide) (fr_sV (by decide) (fr_sV (by decide) fr_rfl)))))))
  refine (fun S : (∀ h1, h1 = (wF (wF (wF (sV (sV (sV (sV (sV h 81 2 (.int 0)) 81 3 (.int (-1))) 81 21 (.int 0)) 81 24 (.int 1)) 81 40 (.int 0)) 90 (upd (aF h 90) 1 0)) 96 (upd (aF h 96) 1 0)) 102 (upd (aF h 102) 1 0)) → jex X (d + 8) 69 [.ref 81] h1 (fun r13 h12 => (jrN r13 (jrc h12 (.ref 81) 12 (jex X (d + 8) 76 [.ref 81] h12 fun r15 h14 => (jrI r15 fun x16 => (jifp (x16 = 0) (jB_X12_read_69 X (d + 8) Q 81 none none 0 h14 0 0) (jgI h14 (.ref 81) 12 2 fun x17 => (jifp (x17 = 0) (jB_X12_read_69 X (d + 8) Q 81 none none 1 h14 0 0) (jB_X12_read_69 X (d + 8) Q 81 none none 0 h14 0 0)))))))))) => S _ rfl) (fun h1 ee => ?_)
  rw [← ee] at k1
  have z2 : fI h1 81 2 = nI 0 := by rw [ee]; simp (decide := true) only [jgI_ob, jgf_ob, jgL_ob, jpI_ob, jpL_ob, jpR_ob, jpN_ob, jrc_ob, obj_sV, obj_wF, obj_wG, obj_wR, arr_sV, arr_wF, arr_wG, arr_wR, arL_sV, arL_wF, arL_wG, arL_wR, arR_sV, arR_wF, arR_wG, arR_wR, fI_sV (c := 0), fI_sV (c := 1), fI_sV (c := 2), fI_sV (c := 4), fI_sV (c := 5), fI_sV (c := 7), fI_sV (c := 8), fI_sV (c := 9), fI_sV (c := 10), fI_sV (c := 11), fI_sV (c := 12), fI_sV (c := 6), fL_sV (c := 9), fL_sV (c := 12), fI_sV_k, fL_sV_k, fV_sV_k, fI_wF, fI_wG, fI_wR, fL_wF, fL_wG, fL_wR, fV_wF, fV_wG, fV_wR, aF_sV, aG_sV, aR_sV, aF_wG, aF_wR, aG_wF, aG_wR, aR_wF, aR_wG, gM g]
  have z3 : fI h1 81 3 = zI (-1) := by rw [ee]; simp (decide := true) only [jgI_ob, jgf_ob, jgL_ob, jpI_ob, jpL_ob, jpR_ob, jpN_ob, jrc_ob, obj_sV, obj_wF, obj_wG, obj_wR, arr_sV, arr_wF, arr_wG, arr_wR, arL_sV, arL_wF, arL_wG, arL_wR, arR_sV, arR_wF, arR_wG, arR_wR, fI_sV (c := 0), fI_sV (c := 1), fI_sV (c := 2), fI_sV (c := 4), fI_sV (c := 5), fI_sV (c := 7), fI_sV (c := 8), fI_sV (c := 9), fI_sV (c := 10), fI_sV (c := 11), fI_sV (c := 12), fI_sV (c := 6), fL_sV (c := 9), fL_sV (c := 12), fI_sV_k, fL_sV_k, fV_sV_k, fI_wF, fI_wG, fI_wR, fL_wF, fL_wG, fL_wR, fV_wF, fV_wG, fV_wR, aF_sV, aG_sV, aR_sV, aF_wG, aF_wR, aG_wF, aG_wR, aR_wF, aR_wG, gM g]
  have z21 : fI h1 81 21 = nI 0 := by rw [ee]; simp (decide := true) only [jgI_ob, jgf_ob, jgL_ob, jpI_ob, jpL_ob, jpR_ob, jpN_ob, jrc_ob, obj_sV, obj_wF, obj_wG, obj_wR, arr_sV, arr_wF, arr_wG, arr_wR, arL_sV, arL_wF, arL_wG, arL_wR, arR_sV, arR_wF, arR_wG, arR_wR, fI_sV (c := 0), fI_sV (c := 1), fI_sV (c := 2), fI_sV (c := 4), fI_sV (c := 5), fI_sV (c := 7), fI_sV (c := 8), fI_sV (c := 9), fI_sV (c := 10), fI_sV (c := 11), fI_sV (c := 12), fI_sV (c := 6), fL_sV (c := 9), fL_sV (c := 12), fI_sV_k, fL_sV_k, fV_sV_k, fI_wF, fI_wG, fI_wR, fL_wF, fL_wG, fL_wR, fV_wF, fV_wG, fV_wR, aF_sV, aG_sV, aR_sV, aF_wG, aF_wR, aG_wF, aG_wR, aR_wF, aR_wG, gM g]
  have z24 : fI h1 81 24 = nI 1 := by rw [ee]; simp (decide := true) only [jgI_ob, jgf_ob, jgL_ob, jpI_ob, jpL_ob, jpR_ob, jpN_ob, jrc_ob, obj_sV, obj_wF, obj_wG, obj_wR, arr_sV, arr_wF, arr_wG, arr_wR, arL_sV, arL_wF, arL_wG, arL_wR, arR_sV, arR_wF, arR_wG, arR_wR, fI_sV (c := 0), fI_sV (c := 1), fI_sV (c := 2), fI_sV (c := 4), fI_sV (c := 5), fI_sV (c := 7), fI_sV (c := 8), fI_sV (c := 9), fI_sV (c := 10), fI_sV (c := 11), fI_sV (c := 12), fI_sV (c := 6), fL_sV (c := 9), fL_sV (c := 12), fI_sV_k, fL_sV_k, fV_sV_k, fI_wF, fI_wG, fI_wR, fL_wF, fL_wG, fL_wR, fV_wF, fV_wG, fV_wR, aF_sV, aG_sV, aR_sV, aF_wG, aF_wR, aG_wF, aG_wR, aR_wF, aR_wG, gM g]
  have z40 : fI h1 81 40 = nI 0 := by rw [ee]; simp (decide := true) only [jgI_ob, jgf_ob, jgL_ob, jpI_ob, jpL_ob, jpR_ob, jpN_ob, jrc_ob, obj_sV, obj_wF, obj_wG, obj_wR, arr_sV, arr_wF, arr_wG, arr_wR, arL_sV, arL_wF, arL_wG, arL_wR, arR_sV, arR_wF, arR_wG, arR_wR, fI_sV (c := 0), fI_sV (c := 1), fI_sV (c := 2), fI_sV (c := 4), fI_sV (c := 5), fI_sV (c := 7), fI_sV (c := 8), fI_sV (c := 9), fI_sV (c := 10), fI_sV (c := 11), fI_sV (c := 12), fI_sV (c := 6), fL_sV (c := 9), fL_sV (c := 12), fI_sV_k, fL_sV_k, fV_sV_k, fI_wF, fI_wG, fI_wR, fL_wF, fL_wG, fL_wR, fV_wF, fV_wG, fV_wR, aF_sV, aG_sV, aR_sV, aF_wG, aF_wR, aG_wF, aG_wR, aR_wF, aR_wG, gM g]
  have z90 : aF h1 90 = upd (aF h 90) 1 0 := by rw [ee]; simp (decide := true) only [jgI_ob, jgf_ob, jgL_ob, jpI_ob, jpL_ob, jpR_ob, jpN_ob, jrc_ob, obj_sV, obj_wF, obj_wG, obj_wR, arr_sV, arr_wF, arr_wG, arr_wR, arL_sV, arL_wF, arL_wG, arL_wR, arR_sV, arR_wF, arR_wG, arR_wR, fI_sV (c := 0), fI_sV (c := 1), fI_sV (c := 2), fI_sV (c := 4), fI_sV (c := 5), fI_sV (c := 7), fI_sV (c := 8), fI_sV (c := 9), fI_sV (c := 10), fI_sV (c := 11), fI_sV (c := 12), fI_sV (c := 6), fL_sV (c := 9), fL_sV (c := 12), fI_sV_k, fL_sV_k, fV_sV_k, fI_wF, fI_wG, fI_wR, fL_wF, fL_wG, fL_wR, fV_wF, fV_wG, fV_wR, aF_sV, aG_sV, aR_sV, aF_wG, aF_wR, aG_wF, aG_wR, aR_wF, aR_wG, kC, kM, gM g, aF_wF_ne]
  have z96 : aF h1 96 = upd (aF h 96) 1 0 := by rw [ee]; simp (decide := true) only [jgI_ob, jgf_ob, jgL_ob, jpI_ob, jpL_ob, jpR_ob, jpN_ob, jrc_ob, obj_sV, obj_wF, obj_wG, obj_wR, arr_sV, arr_wF, arr_wG, arr_wR, arL_sV, arL_wF, arL_wG, arL_wR, arR_sV, arR_wF, arR_wG, arR_wR, fI_sV (c := 0), fI_sV (c := 1), fI_sV (c := 2), fI_sV (c := 4), fI_sV (c := 5), fI_sV (c := 7), fI_sV (c := 8), fI_sV (c := 9), fI_sV (c := 10), fI_sV (c := 11), fI_sV (c := 12), fI_sV (c := 6), fL_sV (c := 9), fL_sV (c := 12), fI_sV_k, fL_sV_k, fV_sV_k, fI_wF, fI_wG, fI_wR, fL_wF, fL_wG, fL_wR, fV_wF, fV_wG, fV_wR, aF_sV, aG_sV, aR_sV, aF_wG, aF_wR, aG_wF, aG_wR, aR_wF, aR_wG, kC, kM, gM g, aF_wF_ne]
  have z102 : aF h1 102 = upd (aF h 102) 1 0 := by rw [ee]; simp (decide := true) only [jgI_ob, jgf_ob, jgL_ob, jpI_ob, jpL_ob, jpR_ob, jpN_ob, jrc_ob, obj_sV, obj_wF, obj_wG, obj_wR, arr_sV, arr_wF, arr_wG, arr_wR, arL_sV, arL_wF, arL_wG, arL_wR, arR_sV, arR_wF, arR_wG, arR_wR, fI_sV (c := 0), fI_sV (c := 1), fI_sV (c := 2), fI_sV (c := 4), fI_sV (c := 5), fI_sV (c := 7), fI_sV (c := 8), fI_sV (c := 9), fI_sV (c := 10), fI_sV (c := 11), fI_sV (c := 12), fI_sV (c := 6), fL_sV (c := 9), fL_sV (c := 12), fI_sV_k, fL_sV_k, fV_sV_k, fI_wF, fI_wG, fI_wR, fL_wF, fL_wG, fL_wR, fV_wF, fV_wG, fV_wR, aF_sV, aG_sV, aR_sV, aF_wG, aF_wR, aG_wF, aG_wR, aR_wF, aR_wG, kC, kM, gM g, aF_wF_ne]
  clear ee
  have lw : LOW h h1 := by
    refine ⟨?_, fun j hj => ⟨?_, ?_, ?_, ?_, ?_⟩, ?_, fun j hj => ⟨?_, ?_, ?_, ?_, ?_⟩, ?_⟩
    all_goals (try rw [frF k1 (by decide)])
    · rw [z90, upd_n (by decide)]
    · rw [z96, upd_n (by decide)]
    · rw [z102, upd_n (by decide)]
  have k1f : fr MAr MFi h h1 := fr_mono (by decide) (by decide) k1
  have g1 := G_fr g rfl k1f
  have tm1 := TM_fr tm k1 (by decide) (by decide)
  change jex X (d + 4 + 4) 69 _ _ _
  refine c_token g1 tm1 z21 (Nat.zero_le _) (fun h2 k2 mt => ?_)
  try dsimp only [jrI, jrN, jrA, jisr, jnul, jcat1]
  have k2f : fr MAr MFi h h2 := fr_trans k1f (fr_mono (by decide) (by decide) k2)
  have g2 := G_fr g rfl k2f
  have al : ALLm h h2 t N 0 := by
    refine ⟨⟨mt, ?_, TM_fr tm1 k2 (by decide) (by decide), LOW_trans lw (LOW_fr k2 rfl)⟩, ⟨?_, fun j hj => absurd hj (Nat.not_lt_zero _)⟩, ⟨?_, fun j hj => absurd hj (Nat.not_lt_zero _)⟩, ⟨?_, ?_⟩, ⟨?_, fun j hj => absurd hj (Nat.not_lt_zero _)⟩, ⟨?_, fun j hj => absurd hj (Nat.not_lt_zero _)⟩⟩
    · rw [frI k2 (by decide) (by decide)]; exact z24
    · rw [frF k2 (by decide), z102, upd_s]; rfl
    · rw [frF k2 (by decide), z96, upd_s]; rfl
    · rw [frI k2 (by decide) (by decide)]; exact z2
    · rw [frI k2 (by decide) (by decide)]; exact z3
    · rw [frF k2 (by decide), z90, upd_s]; rfl
    · rw [frI k2 (by decide) (by decide)]; exact z40
  rw [jrc_ob (by simp only [gM g2])]
  change jex X (d + 8) 76 _ _ _
  refine c_text g2 st al (fun h3 k3 sp => ?_) (fun ff h3 k3 al3 => ?_)
  · try dsimp only [jrI, jrN, jrA, jisr, jnul, jcat1]
    have k3f : fr MAr MFi h h3 := fr_trans k2f k3
    obtain ⟨s2, s3, nf, slw⟩ := sp
    have er : rsl t N K = (hft t N K, (tS t N K : Int)) := if_neg nf
    have nz : hft t N K ≠ 0 := by
      rcases st.2 with q | q
      · exact absurd q nf
      · exact q
    refine jif_t rfl (BAD h3 _ _ _ _ k3f slw ?_ ?_ ?_)
    · rw [er]; exact nz
    · rw [er]; exact s2
    · rw [er, s3]; rfl
  · try dsimp only [jrI, jrN, jrA, jisr, jnul, jcat1]
    have k3f : fr MAr MFi h h3 := fr_trans k2f k3
    have g3 := G_fr g rfl k3f
    have er : rsl t N K = sft t N K := if_pos ff
    have mf := al3.2.2.2.1
    refine jif_n (by decide) ?_
    rw [jgI_ob (c := 12) (by simp only [gM g3]) rfl, mf.1]
    rw [er] at rr
    refine ⟨fun q => ?_, fun q => ?_⟩
    · have q := (nI_eq (b := 0) (by omega) (by omega)).1 q
      have e0 := sft_0 K q
      refine GOOD h3 _ _ _ _ k3f al3 (by rw [er]; exact q) (by rw [er, e0]) ?_
      rw [mf.2, e0]
      rfl
    · have q : (sft t N K).1 ≠ 0 := fun w => q (by rw [w]; rfl)
      exact BAD h3 _ _ _ _ k3f al3.1.2.2.2 (by rw [er]; exact q) (by rw [er]; exact mf.1) (by rw [er]; exact mf.2)
end MRD
