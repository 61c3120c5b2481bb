/-! READING: the model's steps and what is open -/
section QUI
variable {t : Nat → Int} {N k : Nat}
theorem q_ns : ns t N (k + 1) = ns t N k + (if isSt t N k = true then 1 else 0) := rfl
theorem q_cl (i : Nat) : cl t N (k + 1) i = if (tK t N k = 15 ∧ i = la t N k) ∨ ((tK t N k = 6 ∨ tK t N k = 9) ∧ i = hd0 (xo t N k)) then k else cl t N k i := rfl
theorem q_la : la t N (k + 1) = if tK t N k = 4 then k else la t N k := rfl
theorem isSt_f (h : tK t N k ≠ 4 ∧ tK t N k ≠ 5 ∧ tK t N k ≠ 6 ∧ tK t N k ≠ 7 ∧ tK t N k ≠ 9) : isSt t N k = false := decide_eq_false (fun q => by omega)
theorem isSt_t (h : tK t N k = 4 ∨ tK t N k = 5 ∨ tK t N k = 7 ∨ tK t N k = 9) : isSt t N k = true := decide_eq_true (by omega)
theorem q_step (h : tK t N k ≠ 4 ∧ tK t N k ≠ 5 ∧ tK t N k ≠ 6 ∧ tK t N k ≠ 7 ∧ tK t N k ≠ 9 ∧ tK t N k ≠ 15) : ns t N (k + 1) = ns t N k ∧ xo t N (k + 1) = xo t N k ∧ la t N (k + 1) = la t N k ∧ (∀ i, cl t N (k + 1) i = cl t N k i) ∧ tld t N (k + 1) = tld t N k := by
  refine ⟨?_, ?_, ?_, fun i => ?_, ?_⟩
  · rw [q_ns, isSt_f (by omega)]; rfl
  · rw [xo_s, if_neg (by omega), if_neg (by omega), if_neg (by omega)]
  · rw [q_la, if_neg (by omega)]
  · rw [q_cl, if_neg (by omega)]
  · funext j
    show (if tK t N k = 15 ∧ j = nnum t N (la t N k + 1) then true else tld t N k j) = _
    rw [if_neg (by omega)]
theorem q_name (h : tK t N k ≠ 2 ∧ tK t N k ≠ 3) : nms t N (k + 1) = nms t N k ∧ isAt t N k = false ∧ na t N (k + 1) = na t N k ∧ sft t N (k + 1) = sft t N k := by
  have a : isAt t N k = false := decide_eq_false (fun q => by omega)
  refine ⟨?_, a, ?_, ?_⟩
  · rw [nms_s, if_neg (by omega)]
  · show na t N k + (if isAt t N k = true then 1 else 0) = _
    rw [a]; rfl
  · rw [sft_s, show unt t N k = false from decide_eq_false (fun q => by omega), show wrg t N k = false from decide_eq_false (fun q => by omega)]
    split <;> rfl
theorem q_told (h : tK t N k = 2) (e : xe t N k = 2) : isAt t N k = false ∧ na t N (k + 1) = na t N k ∧ sft t N (k + 1) = sft t N k := by
  have a : isAt t N k = false := decide_eq_false (fun q => q.2.1 e)
  refine ⟨a, ?_, ?_⟩
  · show na t N k + (if isAt t N k = true then 1 else 0) = _
    rw [a]; rfl
  · rw [sft_s, show unt t N k = false from decide_eq_false (fun q => q.2.1 e), show wrg t N k = false from decide_eq_false (fun q => by omega)]
    split <;> rfl
def skd (t : Nat → Int) (N i : Nat) : Int32 := if tK t N i = 4 then 0 else if tK t N i = 5 then 1 else if tK t N i = 7 then 2 else if tK t N i = 9 then 11 else 10
def ifA (t : Nat → Int) (N i : Nat) : Nat := (if tK t N (i + 1) = 8 then 1 else 0) + (if tK t N (i + 2 + (if tK t N (i + 1) = 8 then 1 else 0)) = 17 then 2 else 0)
/-- the step that token i makes -/
def MS1 (h : JH) (t : Nat → Int) (N k i : Nat) : Prop := aF h 91 (410 + ns t N i) = skd t N i ∧ ((tK t N i = 4 ∨ tK t N i = 5 ∨ tK t N i = 7) → aF h 92 (410 + ns t N i) = nI (tS t N i)) ∧ (tK t N i = 6 → aF h 92 (410 + ns t N i) = nI (tS t N (hd0 (xo t N i)))) ∧ (tK t N i = 4 → aF h 93 (410 + ns t N i) = nI (nnum t N (i + 1)) ∧ aF h 94 (410 + ns t N i) = nI (na t N i) ∧ aF h 95 (410 + ns t N i) = nI (na t N (cl t N k i))) ∧ (tK t N i = 5 → (ptd t N (tS t N (i + 1)) = false → aF h 93 (410 + ns t N i) = nI (whl t (tS t N (i + 1)) (ptE t N (tS t N (i + 1)) - tS t N (i + 1)))) ∧ aF h 94 (410 + ns t N i) = nI (xo t N i).length) ∧ (tK t N i = 7 → aF h 93 (410 + ns t N i) = nI (ifA t N i) ∧ aF h 94 (410 + ns t N i) = nI (na t N i)) ∧ (tK t N i = 6 → aF h 94 (410 + ns t N i) = nI (xo t N (hd0 (xo t N i))).length ∧ aF h 95 (410 + ns t N i) = nI (ns t N (hd0 (xo t N i)) + 1)) ∧ ((tK t N i = 5 ∨ tK t N i = 7 ∨ tK t N i = 9) → cl t N k i ≠ 0 → aF h 95 (410 + ns t N i) = nI (ns t N (cl t N k i + 1)))
def MSx (h : JH) (t : Nat → Int) (N k c : Nat) : Prop := aF h 90 1 = nI c ∧ ∀ i, i < k → isSt t N i = true → MS1 h t N k i
/-- what is open: at a place of the model's arrays, token i -/
def OPn (h : JH) (t : Nat → Int) (N i pos : Nat) : Prop := ((tK t N i = 5 ∨ tK t N i = 7) → aF h 105 pos = nI (410 + ns t N i)) ∧ (tK t N i = 7 → aF h 106 pos = -1) ∧ (tK t N i = 9 → aF h 106 pos = nI (410 + ns t N i) ∧ ∃ b, b < ns t N i ∧ aF h 105 pos = nI (410 + b) ∧ aF h 91 (410 + b) = 2)
def MOp (h : JH) (t : Nat → Int) (N : Nat) (l : List Nat) : Prop := fI h 81 40 = nI l.length ∧ ∀ j, j < l.length → OPn h t N (l.getD j 0) (l.length - 1 - j)
/-- steps as they stand, but for those from m on -/
theorem MS1_eq {h h1 : JH} {m i : Nat} (x : MS1 h t N k i) (hi : ns t N i < m) (e1 : ∀ j, j < 410 + m → aF h1 91 j = aF h 91 j) (e2 : ∀ j, j < 410 + m → aF h1 92 j = aF h 92 j) (e3 : ∀ j, j < 410 + m → aF h1 93 j = aF h 93 j) (e4 : ∀ j, j < 410 + m → aF h1 94 j = aF h 94 j) (e5 : ∀ j, j < 410 + m → aF h1 95 j = aF h 95 j) : MS1 h1 t N k i := by
  unfold MS1 at *
  rw [e1 _ (by omega), e2 _ (by omega), e3 _ (by omega), e4 _ (by omega), e5 _ (by omega)]
  exact x
theorem MS1_cl {h : JH} {k' i : Nat} (x : MS1 h t N k i) (e : cl t N k' i = cl t N k i) : MS1 h t N k' i := by
  unfold MS1 at *
  rw [e]
  exact x
theorem MSx_fr {A : List Nat} {F : List (Nat × Nat)} {h h1 : JH} {c : Nat} (x : MSx h t N k c) (a : fr A F h h1) (k2 : offA [90, 91, 92, 93, 94, 95] A = true) : MSx h1 t N k c := by
  have e2 := offR (fw_fr a) k2
  unfold MSx MS1 at *
  rw [(e2 90 (by decide)).1, (e2 91 (by decide)).1, (e2 92 (by decide)).1, (e2 93 (by decide)).1, (e2 94 (by decide)).1, (e2 95 (by decide)).1]
  exact x
theorem MOp_fr {A : List Nat} {F : List (Nat × Nat)} {h h1 : JH} {l : List Nat} (x : MOp h t N l) (a : fr A F h h1) (k1 : offF [(81, 40)] F = true) (k2 : offA [91, 105, 106] A = true) : MOp h1 t N l := by
  have e := offV (fw_fr a) k1
  have e2 := offR (fw_fr a) k2
  unfold MOp OPn fI at *
  rw [e (81, 40) (by decide), (e2 91 (by decide)).1, (e2 105 (by decide)).1, (e2 106 (by decide)).1]
  exact x
theorem OPn_eq {h h1 : JH} {i pos m : Nat} (x : OPn h t N i pos) (hm : ns t N i ≤ m) (e1 : aF h1 105 pos = aF h 105 pos) (e2 : aF h1 106 pos = aF h 106 pos) (e3 : ∀ j, j < 410 + m → aF h1 91 j = aF h 91 j) : OPn h1 t N i pos := by
  unfold OPn at *
  rw [e1, e2]
  refine ⟨x.1, x.2.1, fun q => ?_⟩
  obtain ⟨y1, b, y2, y3, y4⟩ := x.2.2 q
  exact ⟨y1, b, y2, y3, by rw [e3 _ (by omega)]; exact y4⟩
/-- all of the model's picture, ahead of token k, where a step may begin -/
def ALLm (bh h : JH) (t : Nat → Int) (N k : Nat) : Prop := MKt bh h t N k ∧ MN h t N (nms t N k) (tld t N k) ∧ MAt h t N k ∧ MFl h t N k ∧ MSx h t N k (ns t N k) ∧ MOp h t N (xo t N k)
def MAr : List Nat := [90, 91, 92, 93, 94, 95, 96, 97, 98, 99, 100, 101, 102, 103, 104, 105, 106]
def MFi : List (Nat × Nat) := [(81, 2), (81, 3), (81, 19), (81, 20), (81, 21), (81, 22), (81, 23), (81, 24), (81, 40)]
end QUI
section ELS
variable {X : JX} {d : Nat} {Q : JQ} {h bh : JH} {N k K : Nat} {t : Nat → Int}
theorem c_elseTold (g : G h) (st : Spt t N K) (hk : k ≤ K) (al : ALLm bh h t N k) (h9 : tK t N k = 9) (fw : fwl t N k ≠ 0) (HS : ∀ h1, fr MAr MFi h h1 → SPD bh h1 t N K → Q (some (.int 0)) h1) (HC : k + 1 ≤ K → xe t N (k + 1) = 1 → ∀ h1, fr MAr MFi h h1 → ALLm bh h1 t N (k + 1) → Q (some (.int 1)) h1) : jex X (d + 6) 90 [.ref 81] h Q := by
  obtain ⟨mk, mn, ma, mf, ms, mo⟩ := al
  have ok : OKt t N k := fun j hj => st.1 j (by omega)
  have K4 := Spt_400 st
  have fi := fwl_inv fw
  have ne : xo t N k ≠ [] ∧ tK t N (hd0 (xo t N k)) = 7 ∧ fwl t N k = 1 := by
    rcases fi with ⟨_, fi⟩ | fi
    · rcases fi with fi | fi | fi | fi | fi
      · omega
      · omega
      · omega
      · exact ⟨fi.2.2.1, fi.2.2.2, fi.2.1⟩
      · omega
    · omega
  have lp := List.length_pos_iff.mpr ne.1
  have l6 := xo_len k ok
  have hm := xo_m k _ (hd0_mem ne.1)
  have hst : isSt t N (hd0 (xo t N k)) = true := isSt_t (by omega)
  have lt := ns_lt hm.1 hst
  have nk := ns_le (t := t) (N := N) k
  have op := mo.2 0 lp
  rw [show (xo t N k).getD 0 0 = hd0 (xo t N k) from rfl, Nat.sub_zero] at op
  have o105 := op.1 (Or.inr ne.2.1)
  have msh := ms.2 _ hm.1 hst
  have k91 : aF h 91 (410 + ns t N (hd0 (xo t N k))) = 2 := by
    rw [msh.1]
    unfold skd
    rw [if_neg (by omega), if_neg (by omega), if_pos ne.2.1]
  have i1 : vp_in 1 2 := by rw [vp_inI]; decide
  have c1 : (1 : Int32).toNatClampNeg = 1 := rfl
  have el : nI (xo t N k).length - 1 = nI ((xo t N k).length - 1) := pk_sub (b := 1) lp
  have ivl : vp_in (nI ((xo t N k).length - 1)) 6 := by rw [vp_inI, nI_toInt (by omega)]; omega
  have icl : (nI ((xo t N k).length - 1)).toNatClampNeg = (xo t N k).length - 1 := nI_clamp (by omega)
  have ivh : vp_in (nI (410 + ns t N (hd0 (xo t N k)))) 820 := by rw [vp_inI, nI_toInt (by omega)]; omega
  have ich : (nI (410 + ns t N (hd0 (xo t N k)))).toNatClampNeg = 410 + ns t N (hd0 (xo t N k)) := nI_clamp (by omega)
  have ens : ns t N (k + 1) = ns t N k + 1 := by rw [q_ns, isSt_t (by omega)]; rfl
  have qn := q_name (t := t) (N := N) (k := k) (by omega)
  have exo : xo t N (k + 1) = k :: (xo t N k).tail := by rw [xo_s, if_neg (by omega), if_pos h9]
  rw [jE_X12_elseTold]
  refine jT_X12_elseTold_0 ?_
  simp (decide := true) only [jgI_ob, jgf_ob, jgL_ob, jpI_ob, jpL_ob, jpR_ob, jpN_ob, jrc_ob, obj_sV, obj_wF, obj_wG, obj_wR, arr_sV, arr_wF, arr_wG, arr_wR, arL_sV, arL_wF, arL_wG, arL_wR, arR_sV, arR_wF, arR_wG, arR_wR, fI_sV (c := 0), fI_sV (c := 1), fI_sV (c := 2), fI_sV (c := 4), fI_sV (c := 5), fI_sV (c := 7), fI_sV (c := 8), fI_sV (c := 9), fI_sV (c := 10), fI_sV (c := 11), fI_sV (c := 12), fI_sV (c := 6), fL_sV (c := 9), fL_sV (c := 12), fI_sV_k, fL_sV_k, fV_sV_k, fI_wF, fI_wG, fI_wR, fL_wF, fL_wG, fL_wR, fV_wF, fV_wG, fV_wR, aF_sV, aG_sV, aR_sV, aF_wG, aF_wR, aG_wF, aG_wR, aR_wF, aR_wG, kC, kM, gM g, gN g, mo.1, el, ivl, icl, true_and, o105, ivh, ich]
  change jex X (d + 4 + 1) 81 _ _ _
  refine c_newStep g ms.1 (by omega) (fun h1 k1 p90 p91 p92 p900 => ?_)
  have g1 := G_fr g rfl k1
  have f40 : fI h1 81 40 = nI (xo t N k).length := by rw [frI k1 (by decide) (by decide)]; exact mo.1
  try dsimp only [jrI, jrN, jrA, jisr, jnul, jcat1]
  simp (decide := true) only [jgI_ob, jgf_ob, jgL_ob, jpI_ob, jpL_ob, jpR_ob, jpN_ob, jrc_ob, obj_sV, obj_wF, obj_wG, obj_wR, arr_sV, arr_wF, arr_wG, arr_wR, arL_sV, arL_wF, arL_wG, arL_wR, arR_sV, arR_wF, arR_wG, arR_wR, fI_sV (c := 0), fI_sV (c := 1), fI_sV (c := 2), fI_sV (c := 4), fI_sV (c := 5), fI_sV (c := 7), fI_sV (c := 8), fI_sV (c := 9), fI_sV (c := 10), fI_sV (c := 11), fI_sV (c := 12), fI_sV (c := 6), fL_sV (c := 9), fL_sV (c := 12), fI_sV_k, fL_sV_k, fV_sV_k, fI_wF, fI_wG, fI_wR, fL_wF, fL_wG, fL_wR, fV_wF, fV_wG, fV_wR, aF_sV, aG_sV, aR_sV, aF_wG, aF_wR, aG_wF, aG_wR, aR_wF, aR_wG, kC, kM, gM g1, gN g1, f40, el, ivl, icl, i1, c1, true_and, p90, ivh, ich]
  refine (fun S : (∀ h2, fr [106, 95] [] h1 h2 → aF h2 106 = upd (aF h1 106) ((xo t N k).length - 1) (nI (410 + ns t N k)) → aF h2 95 = upd (aF h1 95) (410 + ns t N (hd0 (xo t N k))) (nI (ns t N k + 1)) → jex X (d + 5) 79 [.ref 81] h2 (fun r17 h16 => (jrI r17 fun x18 => ((x18 : Int32) &&& 1 = x18 ∧ (Q (some (.int x18)) h16))))) => S _ (fr_wF (by decide) (fr_wF (by decide) fr_rfl)) (by simp (decide := true) only [jgI_ob, jgf_ob, jgL_ob, jpI_ob, jpL_ob, jpR_ob, jpN_ob, jrc_ob, obj_sV, obj_wF, obj_wG, obj_wR, arr_sV, arr_wF, arr_wG, arr_wR, arL_sV, arL_wF, arL_wG, arL_wR, arR_sV, arR_wF, arR_wG, arR_wR, fI_sV (c := 0), fI_sV (c := 1), fI_sV (c := 2), fI_sV (c := 4), fI_sV (c := 5), fI_sV (c := 7), fI_sV (c := 8), fI_sV (c := 9), fI_sV (c := 10), fI_sV (c := 11), fI_sV (c := 12), fI_sV (c := 6), fL_sV (c := 9), fL_sV (c := 12), fI_sV_k, fL_sV_k, fV_sV_k, fI_wF, fI_wG, fI_wR, fL_wF, fL_wG, fL_wR, fV_wF, fV_wG, fV_wR, aF_sV, aG_sV, aR_sV, aF_wG, aF_wR, aG_wF, aG_wR, aR_wF, aR_wG, kC, kM, gM g1, aF_wF_ne]) (by simp (decide := true) only [jgI_ob, jgf_ob, jgL_ob, jpI_ob, jpL_ob, jpR_ob, jpN_ob, jrc_ob, obj_sV, obj_wF, obj_wG, obj_wR, arr_sV, arr_wF, arr_wG, arr_wR, arL_sV, arL_wF, arL_wG, arL_wR, arR_sV, arR_wF, arR_wG, arR_wR, fI_sV (c := 0), fI_sV (c := 1), fI_sV (c := 2), fI_sV (c := 4), fI_sV (c := 5), fI_sV (c := 7), fI_sV (c := 8), fI_sV (c := 9), fI_sV (c := 10), fI_sV (c := 11), fI_sV (c := 12), fI_sV (c := 6), fL_sV (c := 9), fL_sV (c := 12), fI_sV_k, fL_sV_k, fV_sV_k, fI_wF, fI_wG, fI_wR, fL_wF, fL_wG, fL_wR, fV_wF, fV_wG, fV_wR, aF_sV, aG_sV, aR_sV, aF_wG, aF_wR, aG_wF, aG_wR, aR_wF, aR_wG, kC, kM, gM g1, aF_wF_ne]; rw [p90])) (fun h2 k2 p106 p95 => ?_)
  have k2' : fr MAr MFi h h2 := fr_trans (fr_mono (by decide) (by decide) k1) (fr_mono (by decide) (by decide) k2)
  have g2 := G_fr g rfl k2'
  have k12 : fr [90, 91, 92, 95, 106] [] h h2 := fr_trans (fr_mono (by decide) (by decide) k1) (fr_mono (by decide) (by decide) k2)
  have lw12 : LOW h h2 := by
    refine ⟨?_, fun j hj => ⟨?_, ?_, ?_, ?_, ?_⟩, ?_, fun j hj => ⟨?_, ?_, ?_, ?_, ?_⟩, ?_⟩
    all_goals (try rw [frF k12 (by decide)])
    · rw [frF k2 (by decide)]; exact p900
    · rw [frF k2 (by decide), p91, upd_n (by omega)]
    · rw [frF k2 (by decide), p92, upd_n (by omega)]
    · rw [p95, upd_n (by omega), frF k1 (by decide)]
  have mk2 := MKt_lw mk k12 rfl rfl lw12
  refine c_pass g2 st hk mk2 (hft_pw fw (fun q => by omega) (fun q => by omega)) (fun h3 k3 sp => ?_) (fun ltK o0 h3 k3 mk3 => ?_)
  · try dsimp only [jrI, jrN, jrA, jisr, jnul, jcat1]
    exact ⟨by decide, HS h3 (fr_trans k2' (fr_mono (by decide) (by decide) k3)) sp⟩
  · try dsimp only [jrI, jrN, jrA, jisr, jnul, jcat1]
    refine ⟨by decide, HC (by omega) (by rw [xe_s]; exact ne.2.2) h3 (fr_trans k2' (fr_mono (by decide) (by decide) k3)) ⟨mk3, ?_, ?_, ?_, ?_, ?_⟩⟩
    · rw [qn.1, show tld t N (k + 1) = tld t N k from by funext j; show (if tK t N k = 15 ∧ j = nnum t N (la t N k + 1) then true else tld t N k j) = _; rw [if_neg (by omega)]]
      exact MN_fr (MN_fr mn k12 rfl) k3 rfl
    · have w := MAt_fr (MAt_fr ma k12 rfl) k3 rfl
      refine ⟨by rw [qn.2.2.1]; exact w.1, fun i hi ai => ?_⟩
      refine w.2 i ?_ ai
      refine Classical.byContradiction (fun q => ?_)
      rw [show i = k by omega, qn.2.1] at ai
      cases ai
    · have w := MFl_fr (MFl_fr mf k12 rfl) k3 rfl
      unfold MFl at w ⊢
      rw [qn.2.2.2]
      exact w
    · refine MSx_fr ?_ k3 rfl
      refine ⟨by rw [frF k2 (by decide), p90, ens], fun i hi si => ?_⟩
      by_cases ei : i = k
      · subst ei
        have e91 : aF h2 91 (410 + ns t N i) = 11 := by rw [frF k2 (by decide), p91, upd_s]
        unfold MS1
        refine ⟨?_, fun q => by omega, fun q => by omega, fun q => by omega, fun q => by omega, fun q => by omega, fun q => by omega, fun _ q => ?_⟩
        · rw [e91]; unfold skd; rw [if_neg (by omega), if_neg (by omega), if_neg (by omega), if_pos h9]
        · rw [q_cl, if_neg (by omega), cl_ge i i (Nat.le_refl _)] at q
          exact absurd rfl q
      · have hi' : i < k := by omega
        have li := ns_lt hi' si
        have m1 := ms.2 i hi' si
        have a1 : aF h2 91 (410 + ns t N i) = aF h 91 (410 + ns t N i) := by rw [frF k2 (by decide), p91, upd_n (by omega)]
        have a2 : aF h2 92 (410 + ns t N i) = aF h 92 (410 + ns t N i) := by rw [frF k2 (by decide), p92, upd_n (by omega)]
        have a3 : aF h2 93 = aF h 93 := frF k12 (by decide)
        have a4 : aF h2 94 = aF h 94 := frF k12 (by decide)
        have a5 : i ≠ hd0 (xo t N k) → aF h2 95 (410 + ns t N i) = aF h 95 (410 + ns t N i) := by
          intro q
          have : ns t N i ≠ ns t N (hd0 (xo t N k)) := by
            rcases Nat.lt_or_gt_of_ne q with q | q
            · have := ns_lt q si; omega
            · have := ns_lt q hst; omega
          rw [p95, upd_n (by omega), frF k1 (by decide)]
        unfold MS1 at m1 ⊢
        rw [a1, a2, a3, a4]
        by_cases eh : i = hd0 (xo t N k)
        · have t7 : tK t N i = 7 := by rw [eh]; exact ne.2.1
          refine ⟨m1.1, m1.2.1, m1.2.2.1, fun q => by omega, m1.2.2.2.2.1, m1.2.2.2.2.2.1, fun q => by omega, fun _ _ => ?_⟩
          rw [q_cl, if_pos (Or.inr ⟨Or.inr h9, eh⟩), p95, ← eh, upd_s, ens]
        · rw [a5 eh, q_cl, if_neg (by omega)]
          exact m1
    · refine MOp_fr ?_ k3 rfl rfl
      rw [exo]
      refine ⟨?_, fun j hj => ?_⟩
      · rw [frI k12 (by decide) (by decide), mo.1, List.length_cons, List.length_tail]
        congr 1
        omega
      · rw [List.length_cons, List.length_tail] at hj ⊢
        cases j with
        | zero =>
          show OPn h2 t N k _
          unfold OPn
          refine ⟨fun q => by omega, fun q => by omega, fun _ => ⟨?_, ns t N (hd0 (xo t N k)), lt, ?_, ?_⟩⟩
          · rw [p106, show (xo t N k).length - 1 + 1 - 1 - 0 = (xo t N k).length - 1 by omega, upd_s]
          · rw [frF k12 (by decide), show (xo t N k).length - 1 + 1 - 1 - 0 = (xo t N k).length - 1 by omega]
            exact o105
          · rw [frF k2 (by decide), p91, upd_n (by omega)]
            exact k91
        | succ j =>
          have oj := mo.2 (j + 1) (by omega)
          have gj : (k :: (xo t N k).tail).getD (j + 1) 0 = (xo t N k).getD (j + 1) 0 := by
            cases e : xo t N k with
            | nil => exact absurd e ne.1
            | cons a l => rfl
          rw [gj, show (xo t N k).length - 1 + 1 - 1 - (j + 1) = (xo t N k).length - 1 - (j + 1) by omega]
          have xg := xo_g (t := t) (N := N) (k := k) (j := j + 1) (by omega)
          refine OPn_eq (m := ns t N k) oj (ns_mono (by omega)) ?_ ?_ (fun z hz => ?_)
          · rw [frF k12 (by decide)]
          · rw [p106, upd_n (by omega), frF k1 (by decide)]
          · rw [frF k2 (by decide), p91, upd_n (by omega)]
end ELS
