/-! READING: the model's text -/
section TXT
variable {X : JX} {d : Nat} {Q : JQ} {h bh : JH} {N K : Nat} {t : Nat → Int}
theorem c_text (g : G h) (st : Spt t N K) (al : ALLm bh h t N 0) (HS : ∀ h1, fr MAr MFi h h1 → SPD bh h1 t N K → Q (some (.int 0)) h1) (HC : fin t N K → ∀ h1, fr MAr MFi h h1 → ALLm bh h1 t N K → Q (some (.int 1)) h1) : jex X (d + 8) 76 [.ref 81] h Q := by
  have K4 := Spt_400 st
  have L : ∀ (r k : Nat) (h1 : JH) (o1 o2 o3 : Option Value) (c s : Nat), k + r = K → xe t N k = 1 → fr MAr MFi h h1 → ALLm bh h1 t N k → jB_X12_text_0 X (d + 7) Q 81 o1 o2 o3 h1 c s := by
    intro r
    induction r using Nat.strongRecOn with
    | _ r ih =>
      intro k h1 o1 o2 o3 c s hkr xk k1 al
      have hk : k ≤ K := by omega
      have g1 := G_fr g rfl k1
      have ok : OKt t N k := fun j hj => st.1 j (by omega)
      have l6 := xo_len k ok
      have nk := ns_le (t := t) (N := N) k
      have hq : tK t N k ≤ 20 := tkK_r _
      obtain ⟨mk, mn, ma, mf, ms, mo⟩ := id al
      obtain ⟨kk, k0', k1', k2', k3', k4'⟩ := mk_k mk
      have f40 := mo.1
      have efw : fwl t N k = (if tK t N k = 4 then 2 else if tK t N k = 5 then 7 else if tK t N k = 7 then 8 else if tK t N k = 9 then (if decide (xo t N k ≠ [] ∧ tK t N (hd0 (xo t N k)) = 7) = true then 1 else 0) else if tK t N k = 6 then (if decide (xo t N k ≠ []) = true then 1 else 0) else 0) := by
        unfold fwl fol
        rw [if_pos xk]
      -- a stop for a fault of syntax
      have STP : fwl t N k = 0 → ¬ fin t N k → jgI h1 (.ref 81) 12 20 (fun x5 => (jrc h1 (.ref 81) 12 (jex X (d + 7) 77 [.ref 81, .int 1, .int x5] h1 fun r7 h6 => (jrI r7 fun x8 => ((x8 : Int32) &&& 1 = x8 ∧ (Q (some (.int x8)) h6)))))) := by
        intro f0 nf
        have e1 : hft t N k = 1 := by unfold hft; rw [if_pos f0]
        change jgI h1 (.ref 81) 12 20 fun x43 => (jrc h1 (.ref 81) 12 (jex X (d + 6 + 1) 77 [.ref 81, .int (nI 1), .int x43] h1 fun r45 h44 => (jrI r45 fun x46 => ((fun (x46 : Int32) (h44 : JH) => ((x46 : Int32) &&& 1 = x46 ∧ (Q (some (.int x46)) h44))) x46 h44))))
        exact c_mstopK g1 st hk mk (by decide) e1 (fun _ => nf) (fun h6 k6 sp => ⟨by decide, HS h6 (fr_trans k1 (fr_mono (by decide) (by decide) k6)) sp⟩)
      -- on from a later token
      have NXT : ∀ (j : Nat) (h2 : JH) (o1 o2 o3 : Option Value) (c s : Nat), k < j → j ≤ K → xe t N j = 1 → fr MAr MFi h1 h2 → ALLm bh h2 t N j → jB_X12_text_0 X (d + 7) Q 81 o1 o2 o3 h2 c s := by
        intro j h2 o1 o2 o3 c s hkj hjK xj k2 al2
        exact ih (K - j) (by omega) j h2 _ _ _ _ _ (by omega) xj (fr_trans k1 k2) al2
      by_cases c1 : tK t N k = 1
      · have f0 : fwl t N k = 0 := by rw [efw]; repeat rw [if_neg (by omega)]
        refine jT_X12_text_0 ?_
        rw [jgI_ob (c := 12) (by simp only [gM g1]) rfl, kk]
        refine jif_t (k0'.2 c1) ?_
        rw [jgI_ob (c := 12) (by simp only [gM g1]) rfl, f40]
        refine ⟨fun q => ?_, fun q => ?_⟩
        · have nf : ¬ fin t N k := fun w => by
            rw [w.2.2] at q
            exact absurd q (by decide)
          rw [jgI_ob (c := 12) (by simp only [gM g1]) rfl, kk]
          exact jif_n (fun w => by have := k4'.1 w; omega) (STP f0 nf)
        · have e : xo t N k = [] := Classical.byContradiction (fun w => q (nI_lt (a := 0) (List.length_pos_iff.mpr w) (by omega)))
          have ff : fin t N k := ⟨c1, xk, e⟩
          have ek := Spt_eq st hk (by rw [hft_end c1]; decide)
          subst ek
          exact ⟨by decide, HC ff h1 k1 al⟩
      have nf : ¬ fin t N k := fun w => c1 w.1
      -- the kind is no word
      by_cases c4 : 4 ≤ tK t N k ∧ tK t N k ≤ 14
      case neg =>
        have f0 : fwl t N k = 0 := by rw [efw]; repeat rw [if_neg (by omega)]
        refine jT_X12_text_0 ?_
        rw [jgI_ob (c := 12) (by simp only [gM g1]) rfl, kk]
        refine jif_n (fun w => c1 (k0'.1 w)) ?_
        rw [jgI_ob (c := 12) (by simp only [gM g1]) rfl, kk]
        exact jif_n (fun w => c4 (k4'.1 w)) (STP f0 nf)
      case pos =>
      have e22 : fI h1 81 22 = kwM (tK t N k) := mk.1.2.2.2.1 c4
      have KW : ∀ a : Nat, a < 15 → 4 ≤ a → (kwM a = 0 ↔ a = 4) ∧ (kwM a = 1 ↔ a = 5) ∧ (kwM a = 2 ↔ a = 7) ∧ (kwM a = 3 ↔ a = 9) ∧ (kwM a = 4 ↔ a = 6) := by decide
      obtain ⟨s0, s1, s2, s3, s4⟩ := KW (tK t N k) (by omega) c4.1
      -- it may not be
      have D0 : fwl t N k = 0 → ∀ (o1 o2 o3 : Option Value) (c s : Nat), jB_X12_text_157 X (d + 7) Q 81 o1 o2 o3 0 h1 c s := by
        intro f0 o1 o2 o3 c s
        exact jT_X12_text_157 (jif_t rfl (STP f0 nf))
      -- it may be
      have D1 : fwl t N k ≠ 0 → ((tK t N k = 5 ∨ tK t N k = 7) → (xo t N k).length < 6) → ∀ (o1 o2 o3 : Option Value) (c s : Nat), jB_X12_text_157 X (d + 7) Q 81 o1 o2 o3 1 h1 c s := by
        intro fw rm o1 o2 o3 c s
        have t4 : tK t N k = 4 ∨ tK t N k = 5 ∨ tK t N k = 6 ∨ tK t N k = 7 ∨ tK t N k = 9 := by
          have := fwl_inv fw
          omega
        refine jT_X12_text_157 (jif_n (by decide) ?_)
        rw [jgI_ob (c := 12) (by simp only [gM g1]) rfl, e22]
        refine ⟨fun q => ?_, fun q0 => ?_⟩
        · have q := s0.1 q
          rw [jrc_ob (by simp only [gM g1])]
          refine c_letTold g1 st hk al q fw (fun h2 k2 sp => ?_) (fun j hkj hjK xj h2 k2 al2 => ?_)
          · try dsimp only [jrI, jrN, jrA, jisr, jnul, jcat1]
            exact jif_t rfl ⟨by decide, HS h2 (fr_trans k1 k2) sp⟩
          · try dsimp only [jrI, jrN, jrA, jisr, jnul, jcat1]
            exact jif_n (by decide) (NXT j h2 _ _ _ _ _ hkj hjK xj k2 al2)
        rw [jgI_ob (c := 12) (by simp only [gM g1]) rfl, e22]
        refine ⟨fun q => ?_, fun q1 => ?_⟩
        · have q := s1.1 q
          rw [jrc_ob (by simp only [gM g1])]
          change jex X (d + 1 + 6) 87 _ _ _
          refine c_repeatTold g1 st hk al q fw (rm (Or.inl q)) (fun h2 k2 sp => ?_) (fun hjK xj h2 k2 al2 => ?_)
          · try dsimp only [jrI, jrN, jrA, jisr, jnul, jcat1]
            exact jif_t rfl ⟨by decide, HS h2 (fr_trans k1 k2) sp⟩
          · try dsimp only [jrI, jrN, jrA, jisr, jnul, jcat1]
            exact jif_n (by decide) (NXT (k + 2) h2 _ _ _ _ _ (by omega) hjK xj k2 al2)
        rw [jgI_ob (c := 12) (by simp only [gM g1]) rfl, e22]
        refine ⟨fun q => ?_, fun q2 => ?_⟩
        · have q := s2.1 q
          rw [jrc_ob (by simp only [gM g1])]
          refine c_ifTold g1 st hk al q fw (rm (Or.inr q)) (fun h2 k2 sp => ?_) (fun j hkj hjK xj h2 k2 al2 => ?_)
          · try dsimp only [jrI, jrN, jrA, jisr, jnul, jcat1]
            exact jif_t rfl ⟨by decide, HS h2 (fr_trans k1 k2) sp⟩
          · try dsimp only [jrI, jrN, jrA, jisr, jnul, jcat1]
            exact jif_n (by decide) (NXT j h2 _ _ _ _ _ hkj hjK xj k2 al2)
        rw [jgI_ob (c := 12) (by simp only [gM g1]) rfl, e22]
        refine ⟨fun q => ?_, fun q3 => ?_⟩
        · have q := s3.1 q
          rw [jrc_ob (by simp only [gM g1])]
          change jex X (d + 1 + 6) 90 _ _ _
          refine c_elseTold g1 st hk al q fw (fun h2 k2 sp => ?_) (fun hjK xj h2 k2 al2 => ?_)
          · try dsimp only [jrI, jrN, jrA, jisr, jnul, jcat1]
            exact jif_t rfl ⟨by decide, HS h2 (fr_trans k1 k2) sp⟩
          · try dsimp only [jrI, jrN, jrA, jisr, jnul, jcat1]
            exact jif_n (by decide) (NXT (k + 1) h2 _ _ _ _ _ (by omega) hjK xj k2 al2)
        · have q : tK t N k = 6 := by
            rcases t4 with w | w | w | w | w
            · exact absurd (s0.2 w) q0
            · exact absurd (s1.2 w) q1
            · exact w
            · exact absurd (s2.2 w) q2
            · exact absurd (s3.2 w) q3
          rw [jrc_ob (by simp only [gM g1])]
          change jex X (d + 1 + 6) 91 _ _ _
          refine c_endTold g1 st hk al q fw (fun h2 k2 sp => ?_) (fun hjK xj h2 k2 al2 => ?_)
          · try dsimp only [jrI, jrN, jrA, jisr, jnul, jcat1]
            exact jif_t rfl ⟨by decide, HS h2 (fr_trans k1 k2) sp⟩
          · try dsimp only [jrI, jrN, jrA, jisr, jnul, jcat1]
            exact jif_n (by decide) (NXT (k + 1) h2 _ _ _ _ _ (by omega) hjK xj k2 al2)
      -- an else, or none
      have V103 : tK t N k ≠ 4 → tK t N k ≠ 5 → tK t N k ≠ 7 → (tK t N k = 6 → xo t N k = []) → ∀ (o1 o2 o3 : Option Value) (c s : Nat), jB_X12_text_103 X (d + 7) Q 81 o1 o2 o3 h1 c s := by
        intro n4 n5 n7 n6 o1 o2 o3 c s
        refine jT_X12_text_103 ?_
        rw [jgI_ob (c := 12) (by simp only [gM g1]) rfl, e22]
        refine ⟨fun q => ?_, fun q => D0 ?_ _ _ _ _ _⟩
        · have t9 := s3.1 q
          rw [if_neg n4, if_neg n5, if_neg n7, if_pos t9] at efw
          rw [jgI_ob (c := 12) (by simp only [gM g1]) rfl, f40]
          by_cases e : xo t N k = []
          · rw [if_neg (fun w => (of_decide_eq_true w).1 e)] at efw
            rw [e]
            exact jif_n (by decide) (D0 efw _ _ _ _ _)
          · have lp := List.length_pos_iff.mpr e
            have hm := xo_m k _ (hd0_mem e)
            have hst : isSt t N (hd0 (xo t N k)) = true := isSt_t (by omega)
            have lt := ns_lt hm.1 hst
            have op := mo.2 0 lp
            rw [show (xo t N k).getD 0 0 = hd0 (xo t N k) from rfl, Nat.sub_zero] at op
            have msh := ms.2 _ hm.1 hst
            have el : nI (xo t N k).length - 1 = nI ((xo t N k).length - 1) := pk_sub (b := 1) lp
            have ivl : vp_in (nI ((xo t N k).length - 1)) 6 := by rw [vp_inI, nI_toInt (by omega)]; omega
            have icl : (nI ((xo t N k).length - 1)).toNatClampNeg = (xo t N k).length - 1 := nI_clamp (by omega)
            have ivc : ∀ c, c < 410 → vp_in (nI (410 + c)) 820 := fun c hc => by rw [vp_inI, nI_toInt (by omega)]; omega
            have icc : ∀ c, c < 410 → (nI (410 + c)).toNatClampNeg = 410 + c := fun c hc => nI_clamp (by omega)
            refine jif_t (nI_lt (a := 0) lp (by omega)) ?_
            rcases hm.2 with t5 | t5 | t5
            · have o105 := op.1 (Or.inl t5)
              have kd : aF h1 91 (410 + ns t N (hd0 (xo t N k))) = 1 := by
                rw [msh.1]; unfold skd; rw [if_neg (by omega), if_pos t5]
              rw [if_neg (fun w => by have := (of_decide_eq_true w).2; omega)] at efw
              have iv := ivc (ns t N (hd0 (xo t N k))) (by omega)
              have ic := icc (ns t N (hd0 (xo t N k))) (by omega)
              simp (decide := true) only [jgI_ob, jgf_ob, jgL_ob, jpI_ob, jpL_ob, jpR_ob, jpN_ob, jrc_ob, obj_sV, obj_wF, obj_wG, obj_wR, arr_sV, arr_wF, arr_wG, arr_wR, arL_sV, arL_wF, arL_wG, arL_wR, arR_sV, arR_wF, arR_wG, arR_wR, fI_sV (c := 0), fI_sV (c := 1), fI_sV (c := 2), fI_sV (c := 4), fI_sV (c := 5), fI_sV (c := 7), fI_sV (c := 8), fI_sV (c := 9), fI_sV (c := 10), fI_sV (c := 11), fI_sV (c := 12), fI_sV (c := 6), fL_sV (c := 9), fL_sV (c := 12), fI_sV_k, fL_sV_k, fV_sV_k, fI_wF, fI_wG, fI_wR, fL_wF, fL_wG, fL_wR, fV_wF, fV_wG, fV_wR, aF_sV, aG_sV, aR_sV, aF_wG, aF_wR, aG_wF, aG_wR, aR_wF, aR_wG, kC, kM, gM g1, gN g1, f40, el, ivl, icl, true_and, o105, iv, ic, kd, jif_F]
              exact D0 efw _ _ _ _ _
            · have o105 := op.1 (Or.inr t5)
              have o106 := op.2.1 t5
              have kd : aF h1 91 (410 + ns t N (hd0 (xo t N k))) = 2 := by
                rw [msh.1]; unfold skd; rw [if_neg (by omega), if_neg (by omega), if_pos t5]
              rw [if_pos (decide_eq_true ⟨e, t5⟩)] at efw
              have iv := ivc (ns t N (hd0 (xo t N k))) (by omega)
              have ic := icc (ns t N (hd0 (xo t N k))) (by omega)
              simp (decide := true) only [jgI_ob, jgf_ob, jgL_ob, jpI_ob, jpL_ob, jpR_ob, jpN_ob, jrc_ob, obj_sV, obj_wF, obj_wG, obj_wR, arr_sV, arr_wF, arr_wG, arr_wR, arL_sV, arL_wF, arL_wG, arL_wR, arR_sV, arR_wF, arR_wG, arR_wR, fI_sV (c := 0), fI_sV (c := 1), fI_sV (c := 2), fI_sV (c := 4), fI_sV (c := 5), fI_sV (c := 7), fI_sV (c := 8), fI_sV (c := 9), fI_sV (c := 10), fI_sV (c := 11), fI_sV (c := 12), fI_sV (c := 6), fL_sV (c := 9), fL_sV (c := 12), fI_sV_k, fL_sV_k, fV_sV_k, fI_wF, fI_wG, fI_wR, fL_wF, fL_wG, fL_wR, fV_wF, fV_wG, fV_wR, aF_sV, aG_sV, aR_sV, aF_wG, aF_wR, aG_wF, aG_wR, aR_wF, aR_wG, kC, kM, gM g1, gN g1, f40, el, ivl, icl, true_and, o105, iv, ic, kd, jif_T, o106]
              exact D1 (by omega) (fun w => by omega) _ _ _ _ _
            · obtain ⟨o106, b, b1, b2, b3⟩ := op.2.2 t5
              have ivb := ivc b (by omega)
              have icb := icc b (by omega)
              have nlt : ¬ nI (410 + ns t N (hd0 (xo t N k))) < 0 := nI_pos (by omega)
              rw [if_neg (fun w => by have := (of_decide_eq_true w).2; omega)] at efw
              simp (decide := true) only [jgI_ob, jgf_ob, jgL_ob, jpI_ob, jpL_ob, jpR_ob, jpN_ob, jrc_ob, obj_sV, obj_wF, obj_wG, obj_wR, arr_sV, arr_wF, arr_wG, arr_wR, arL_sV, arL_wF, arL_wG, arL_wR, arR_sV, arR_wF, arR_wG, arR_wR, fI_sV (c := 0), fI_sV (c := 1), fI_sV (c := 2), fI_sV (c := 4), fI_sV (c := 5), fI_sV (c := 7), fI_sV (c := 8), fI_sV (c := 9), fI_sV (c := 10), fI_sV (c := 11), fI_sV (c := 12), fI_sV (c := 6), fL_sV (c := 9), fL_sV (c := 12), fI_sV_k, fL_sV_k, fV_sV_k, fI_wF, fI_wG, fI_wR, fL_wF, fL_wG, fL_wR, fV_wF, fV_wG, fV_wR, aF_sV, aG_sV, aR_sV, aF_wG, aF_wR, aG_wF, aG_wR, aR_wF, aR_wG, kC, kM, gM g1, gN g1, f40, el, ivl, icl, true_and, b2, ivb, icb, b3, jif_T, o106, nlt, jif_F]
              exact D0 efw _ _ _ _ _
        · have n9 : tK t N k ≠ 9 := fun w => q (s3.2 w)
          rw [efw, if_neg n4, if_neg n5, if_neg n7, if_neg n9]
          by_cases t6 : tK t N k = 6
          · rw [if_pos t6, if_neg (fun w => (of_decide_eq_true w : xo t N k ≠ []) (n6 t6))]
          · rw [if_neg t6]
      -- behind the look for repeat and if
      have V53n : tK t N k ≠ 5 → tK t N k ≠ 7 → ∀ (o1 o2 o3 : Option Value) (c s : Nat), jB_X12_text_53 X (d + 7) Q 81 o1 o2 o3 0 h1 c s := by
        intro n5 n7 o1 o2 o3 c s
        refine jT_X12_text_53 (jif_t rfl ?_)
        rw [jgI_ob (c := 12) (by simp only [gM g1]) rfl, e22]
        refine ⟨fun q => ?_, fun q => jif_t rfl ?_⟩
        · have t4 := s0.1 q
          refine D1 ?_ (fun w => by omega) _ _ _ _ _
          rw [efw, if_pos t4]; decide
        · have n4 : tK t N k ≠ 4 := fun w => q (s0.2 w)
          rw [jgI_ob (c := 12) (by simp only [gM g1]) rfl, e22]
          refine ⟨fun q6 => ?_, fun q6 => V103 n4 n5 n7 (fun w => absurd (s4.2 w) q6) _ _ _ _ _⟩
          have t6 := s4.1 q6
          rw [jgI_ob (c := 12) (by simp only [gM g1]) rfl, f40]
          refine ⟨fun q => D1 ?_ (fun w => by omega) _ _ _ _ _, fun q => V103 n4 n5 n7 (fun _ => ?_) _ _ _ _ _⟩
          · have ne : xo t N k ≠ [] := fun w => by rw [w] at q; exact absurd q (by decide)
            rw [efw, if_neg n4, if_neg n5, if_neg n7, if_neg (by omega), if_pos t6, if_pos (decide_eq_true ne)]
            decide
          · exact Classical.byContradiction (fun w => q (nI_lt (a := 0) (List.length_pos_iff.mpr w) (by omega)))
      have V53y : (tK t N k = 5 ∨ tK t N k = 7) → ∀ (o1 o2 o3 : Option Value) (c s : Nat), jB_X12_text_53 X (d + 7) Q 81 o1 o2 o3 1 h1 c s := by
        intro n57 o1 o2 o3 c s
        have fw : fwl t N k ≠ 0 := by
          rcases n57 with w | w
          · rw [efw, if_neg (by omega), if_pos w]; decide
          · rw [efw, if_neg (by omega), if_neg (by omega), if_pos w]; decide
        refine jT_X12_text_53 (jif_n (by decide) ?_)
        rw [jgI_ob (c := 12) (by simp only [gM g1]) rfl, f40]
        refine ⟨fun q => ?_, fun q => ?_⟩
        · have q := (nI_eq (b := 6) (by omega) (by omega)).1 q
          have e2 : hft t N k = 2 := by
            unfold hft
            rw [if_neg fw, if_pos (Or.inr (Or.inr ⟨n57, by omega⟩))]
          change jgI h1 (.ref 81) 12 20 fun x43 => (jrc h1 (.ref 81) 12 (jex X (d + 6 + 1) 77 [.ref 81, .int (nI 2), .int x43] h1 fun r45 h44 => (jrI r45 fun x46 => ((fun (x46 : Int32) (h44 : JH) => ((x46 : Int32) &&& 1 = x46 ∧ (Q (some (.int x46)) h44))) x46 h44))))
          exact c_mstopK g1 st hk mk (by decide) e2 (fun _ => nf) (fun h6 k6 sp => ⟨by decide, HS h6 (fr_trans k1 (fr_mono (by decide) (by decide) k6)) sp⟩)
        · have l5 : (xo t N k).length ≠ 6 := fun w => q (by rw [w]; rfl)
          rw [jgI_ob (c := 12) (by simp only [gM g1]) rfl, e22]
          refine jif_n (fun w => by have := s0.1 w; omega) (jif_n (by decide) (D1 fw (fun _ => by omega) _ _ _ _ _))
      have CORE : jgI h1 (.ref 81) 12 22 fun x3 => (jifp (x3 = 1) (jB_X12_text_53 X (d + 7) Q 81 o1 o2 o3 1 h1 c s) (jgI h1 (.ref 81) 12 22 fun x4 => (jifp (x4 = 2) (jB_X12_text_53 X (d + 7) Q 81 o1 o2 o3 1 h1 c s) (jB_X12_text_53 X (d + 7) Q 81 o1 o2 o3 0 h1 c s)))) := by
        rw [jgI_ob (c := 12) (by simp only [gM g1]) rfl, e22]
        refine ⟨fun q => V53y (Or.inl (s1.1 q)) _ _ _ _ _, fun q => ?_⟩
        rw [jgI_ob (c := 12) (by simp only [gM g1]) rfl, e22]
        exact ⟨fun q2 => V53y (Or.inr (s2.1 q2)) _ _ _ _ _, fun q2 => V53n (fun w => q (s1.2 w)) (fun w => q2 (s2.2 w)) _ _ _ _ _⟩
      refine jT_X12_text_0 ?_
      rw [jgI_ob (c := 12) (by simp only [gM g1]) rfl, kk]
      refine jif_n (fun w => c1 (k0'.1 w)) ?_
      rw [jgI_ob (c := 12) (by simp only [gM g1]) rfl, kk]
      exact jif_t (k4'.2 c4) CORE
  rw [jE_X12_text]
  exact L K 0 h _ _ _ _ _ (by omega) rfl fr_rfl al
end TXT
