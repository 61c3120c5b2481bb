/-! READING: an atom, a step, by the model -/
def AA : List Nat := [96, 97, 98, 99, 100, 101, 102, 103, 104]
def AFi : List (Nat × Nat) := [(81, 2), (81, 3), (81, 19), (81, 20), (81, 21), (81, 22), (81, 23), (81, 24)]
section AT2
variable {X : JX} {d : Nat} {Q : JQ} {h bh : JH} {N k K : Nat} {t : Nat → Int}
theorem hft_pw (f : fwl t N k ≠ 0) (n : tK t N k = 2 → nnum t N k < 12) (o : (tK t N k = 5 ∨ tK t N k = 7) → (xo t N k).length < 6) : hft t N k = 0 ∨ (hft t N k = 2 ∧ 400 ≤ k) := by
  unfold hft
  rw [if_neg f]
  by_cases c : 400 ≤ k
  · rw [if_pos (Or.inl c)]; exact Or.inr ⟨rfl, c⟩
  · rw [if_neg]
    · exact Or.inl rfl
    · rintro (q | q | q)
      · exact c q
      · have := n q.1; omega
      · have := o q.1; omega
theorem c_at5 (g : G h) {m : Nat} (e96 : aF h 96 1 = nI m) (hm : m < 210) {w o : Int32} {K : JH → Int32 → Prop} (H : ∀ hA, fr [97, 98, 99, 100, 101] [] h hA → aF hA 97 = upd (aF h 97) (210 + m) w → aF hA 98 = upd (aF h 98) (210 + m) o → aF hA 99 = upd (aF h 99) (210 + m) (-1) → aF hA 100 = upd (aF h 100) (210 + m) 100 → aF hA 101 = upd (aF h 101) (210 + m) 0 → K hA (nI m)) : jgf h (.ref 81) 12 31 fun v1 => (jaI X h v1 1 fun x2 => (jgf h (.ref 81) 12 32 fun v3 => (jwI h v3 (210 + x2) w fun h4 => (jgf h4 (.ref 81) 12 33 fun v5 => (jwI h4 v5 (210 + x2) o fun h6 => (jgf h6 (.ref 81) 12 34 fun v7 => (jwI h6 v7 (210 + x2) (-1) fun h8 => (jgf h8 (.ref 81) 12 35 fun v9 => (jwI h8 v9 (210 + x2) 100 fun h10 => (jgf h10 (.ref 81) 12 36 fun v11 => (jwI h10 v11 (210 + x2) 0 fun h12 => K h12 x2))))))))))) := by
  have i1 : vp_in 1 2 := by rw [vp_inI]; decide
  have c1 : (1 : Int32).toNatClampNeg = 1 := rfl
  have iv : vp_in (nI (210 + m)) 420 := by rw [vp_inI, nI_toInt (by omega)]; omega
  have ic : (nI (210 + m)).toNatClampNeg = 210 + m := nI_clamp (by omega)
  have ei : (210 : Int32) + nI m = nI (210 + m) := nI_add 210 _
  simp (decide := true) only [jgI_ob, jgf_ob, jgL_ob, jpI_ob, jpL_ob, jpR_ob, jpN_ob, jrc_ob, obj_sV, obj_wF, obj_wG, obj_wR, arr_sV, arr_wF, arr_wG, arr_wR, arL_sV, arL_wF, arL_wG, arL_wR, arR_sV, arR_wF, arR_wG, arR_wR, fI_sV (c := 0), fI_sV (c := 1), fI_sV (c := 2), fI_sV (c := 4), fI_sV (c := 5), fI_sV (c := 7), fI_sV (c := 8), fI_sV (c := 9), fI_sV (c := 10), fI_sV (c := 11), fI_sV (c := 12), fI_sV (c := 6), fL_sV (c := 9), fL_sV (c := 12), fI_sV_k, fL_sV_k, fV_sV_k, fI_wF, fI_wG, fI_wR, fL_wF, fL_wG, fL_wR, fV_wF, fV_wG, fV_wR, aF_sV, aG_sV, aR_sV, aF_wG, aF_wR, aG_wF, aG_wR, aR_wF, aR_wG, kC, kM, gM g, gN g, i1, c1, true_and, e96, ei, iv, ic, aF_wF_ne]
  refine H _ ?_ ?_ ?_ ?_ ?_ ?_
  · exact fr_wF (by decide) (fr_wF (by decide) (fr_wF (by decide) (fr_wF (by decide) (fr_wF (by decide) fr_rfl))))
  · simp (decide := true) only [jgI_ob, jgf_ob, jgL_ob, jpI_ob, jpL_ob, jpR_ob, jpN_ob, jrc_ob, obj_sV, obj_wF, obj_wG, obj_wR, arr_sV, arr_wF, arr_wG, arr_wR, arL_sV, arL_wF, arL_wG, arL_wR, arR_sV, arR_wF, arR_wG, arR_wR, fI_sV (c := 0), fI_sV (c := 1), fI_sV (c := 2), fI_sV (c := 4), fI_sV (c := 5), fI_sV (c := 7), fI_sV (c := 8), fI_sV (c := 9), fI_sV (c := 10), fI_sV (c := 11), fI_sV (c := 12), fI_sV (c := 6), fL_sV (c := 9), fL_sV (c := 12), fI_sV_k, fL_sV_k, fV_sV_k, fI_wF, fI_wG, fI_wR, fL_wF, fL_wG, fL_wR, fV_wF, fV_wG, fV_wR, aF_sV, aG_sV, aR_sV, aF_wG, aF_wR, aG_wF, aG_wR, aR_wF, aR_wG, kC, kM, gM g, aF_wF_ne]
  · simp (decide := true) only [jgI_ob, jgf_ob, jgL_ob, jpI_ob, jpL_ob, jpR_ob, jpN_ob, jrc_ob, obj_sV, obj_wF, obj_wG, obj_wR, arr_sV, arr_wF, arr_wG, arr_wR, arL_sV, arL_wF, arL_wG, arL_wR, arR_sV, arR_wF, arR_wG, arR_wR, fI_sV (c := 0), fI_sV (c := 1), fI_sV (c := 2), fI_sV (c := 4), fI_sV (c := 5), fI_sV (c := 7), fI_sV (c := 8), fI_sV (c := 9), fI_sV (c := 10), fI_sV (c := 11), fI_sV (c := 12), fI_sV (c := 6), fL_sV (c := 9), fL_sV (c := 12), fI_sV_k, fL_sV_k, fV_sV_k, fI_wF, fI_wG, fI_wR, fL_wF, fL_wG, fL_wR, fV_wF, fV_wG, fV_wR, aF_sV, aG_sV, aR_sV, aF_wG, aF_wR, aG_wF, aG_wR, aR_wF, aR_wG, kC, kM, gM g, aF_wF_ne]
  · simp (decide := true) only [jgI_ob, jgf_ob, jgL_ob, jpI_ob, jpL_ob, jpR_ob, jpN_ob, jrc_ob, obj_sV, obj_wF, obj_wG, obj_wR, arr_sV, arr_wF, arr_wG, arr_wR, arL_sV, arL_wF, arL_wG, arL_wR, arR_sV, arR_wF, arR_wG, arR_wR, fI_sV (c := 0), fI_sV (c := 1), fI_sV (c := 2), fI_sV (c := 4), fI_sV (c := 5), fI_sV (c := 7), fI_sV (c := 8), fI_sV (c := 9), fI_sV (c := 10), fI_sV (c := 11), fI_sV (c := 12), fI_sV (c := 6), fL_sV (c := 9), fL_sV (c := 12), fI_sV_k, fL_sV_k, fV_sV_k, fI_wF, fI_wG, fI_wR, fL_wF, fL_wG, fL_wR, fV_wF, fV_wG, fV_wR, aF_sV, aG_sV, aR_sV, aF_wG, aF_wR, aG_wF, aG_wR, aR_wF, aR_wG, kC, kM, gM g, aF_wF_ne]
  · simp (decide := true) only [jgI_ob, jgf_ob, jgL_ob, jpI_ob, jpL_ob, jpR_ob, jpN_ob, jrc_ob, obj_sV, obj_wF, obj_wG, obj_wR, arr_sV, arr_wF, arr_wG, arr_wR, arL_sV, arL_wF, arL_wG, arL_wR, arR_sV, arR_wF, arR_wG, arR_wR, fI_sV (c := 0), fI_sV (c := 1), fI_sV (c := 2), fI_sV (c := 4), fI_sV (c := 5), fI_sV (c := 7), fI_sV (c := 8), fI_sV (c := 9), fI_sV (c := 10), fI_sV (c := 11), fI_sV (c := 12), fI_sV (c := 6), fL_sV (c := 9), fL_sV (c := 12), fI_sV_k, fL_sV_k, fV_sV_k, fI_wF, fI_wG, fI_wR, fL_wF, fL_wG, fL_wR, fV_wF, fV_wG, fV_wR, aF_sV, aG_sV, aR_sV, aF_wG, aF_wR, aG_wF, aG_wR, aR_wF, aR_wG, kC, kM, gM g, aF_wF_ne]
  · simp (decide := true) only [jgI_ob, jgf_ob, jgL_ob, jpI_ob, jpL_ob, jpR_ob, jpN_ob, jrc_ob, obj_sV, obj_wF, obj_wG, obj_wR, arr_sV, arr_wF, arr_wG, arr_wR, arL_sV, arL_wF, arL_wG, arL_wR, arR_sV, arR_wF, arR_wG, arR_wR, fI_sV (c := 0), fI_sV (c := 1), fI_sV (c := 2), fI_sV (c := 4), fI_sV (c := 5), fI_sV (c := 7), fI_sV (c := 8), fI_sV (c := 9), fI_sV (c := 10), fI_sV (c := 11), fI_sV (c := 12), fI_sV (c := 6), fL_sV (c := 9), fL_sV (c := 12), fI_sV_k, fL_sV_k, fV_sV_k, fI_wF, fI_wG, fI_wR, fL_wF, fL_wG, fL_wR, fV_wF, fV_wG, fV_wR, aF_sV, aG_sV, aR_sV, aF_wG, aF_wR, aG_wF, aG_wR, aR_wF, aR_wG, kC, kM, gM g, aF_wF_ne]
theorem c_atomTold (g : G h) (st : Spt t N K) (hk : k ≤ K) (mk : MKt bh h t N k) (mn : MN h t N (nms t N k) (tld t N k)) (ma : MAt h t N k) (mf : MFl h t N k) (e : xe t N k = 4 ∨ xe t N k = 5 ∨ xe t N k = 8 ∨ xe t N k = 9 ∨ xe t N k = 11) (fw : fwl t N k ≠ 0 ↔ (tK t N k = 2 ∨ tK t N k = 3)) {w o : Int32} (ew : w = wrd t N k) (eo : o = bi (ovr t N k)) (HS : ∀ h1, fr AA AFi h h1 → SPD bh h1 t N K → Q (some (.int 0)) h1) (HC : k < K → ∀ h1, fr AA AFi h h1 → MKt bh h1 t N (k + 1) → MN h1 t N (nms t N (k + 1)) (tld t N (k + 1)) → MAt h1 t N (k + 1) → MFl h1 t N (k + 1) → Q (some (.int 1)) h1) : jex X (d + 6) 84 [.ref 81, .int w, .int o] h Q := by
  have ok : OKt t N k := fun j hj => st.1 j (by omega)
  have K4 := Spt_400 st
  have nl := (na_le k ok).2 e
  have hN := mk.2.2.1.2.1
  have sN := tS_le (t := t) (N := N) k
  obtain ⟨kk, k0, k1, k2, k3, k4⟩ := mk_k mk
  have i1 : vp_in 1 2 := by rw [vp_inI]; decide
  have c1 : (1 : Int32).toNatClampNeg = 1 := rfl
  have iv : vp_in (nI (210 + na t N k)) 420 := by rw [vp_inI, nI_toInt (by omega)]; omega
  have ic : (nI (210 + na t N k)).toNatClampNeg = 210 + na t N k := nI_clamp (by omega)
  have ei : (210 : Int32) + nI (na t N k) = nI (210 + na t N k) := nI_add 210 _
  have eis : isAt t N k = true ∨ ¬ (tK t N k = 2 ∨ tK t N k = 3) := by
    by_cases q : tK t N k = 2 ∨ tK t N k = 3
    · exact Or.inl (decide_eq_true ⟨q, by omega, by omega⟩)
    · exact Or.inr q
  have etl : tK t N k ≠ 15 → tld t N (k + 1) = tld t N k := fun n => by
    funext j
    show (if tK t N k = 15 ∧ j = nnum t N (la t N k + 1) then true else tld t N k j) = _
    rw [if_neg (fun q => n q.1)]
  -- the end of it
  have FIN : (tK t N k = 2 ∨ tK t N k = 3) → (tK t N k = 2 → nnum t N k < 12) → ∀ hB : JH, fr AA AFi h hB → MKt bh hB t N k → aF hB 96 1 = nI (na t N k) → MN hB t N (nms t N (k + 1)) (tld t N k) → MFl hB t N (k + 1) → (∀ i, i ≠ 210 + na t N k → aF hB 97 i = aF h 97 i ∧ aF hB 98 i = aF h 98 i ∧ aF hB 99 i = aF h 99 i ∧ aF hB 100 i = aF h 100 i ∧ aF hB 101 i = aF h 101 i) → MA1 hB t N k → jgf hB (.ref 81) 12 31 (fun v50 => (jcat1 v50 (jaI X hB v50 1 fun x51 => (jwI hB v50 1 (x51 + 1) fun h52 => (jrc h52 (.ref 81) 12 (jex X (d + 5) 79 [.ref 81] h52 fun r54 h53 => (jrI r54 fun x55 => ((x55 : Int32) &&& 1 = x55 ∧ (Q (some (.int x55)) h53))))))))) := by
    intro hq h12 hB kB mkB e96 mnB mfB oth new
    have gB := G_fr g rfl kB
    have at1 : isAt t N k = true := by
      rcases eis with q | q
      · exact q
      · exact absurd hq q
    have ena : na t N (k + 1) = na t N k + 1 := by
      show na t N k + (if isAt t N k = true then 1 else 0) = _
      rw [if_pos at1]
    dsimp only [jcat1]
    simp (decide := true) only [jgI_ob, jgf_ob, jgL_ob, jpI_ob, jpL_ob, jpR_ob, jpN_ob, jrc_ob, obj_sV, obj_wF, obj_wG, obj_wR, arr_sV, arr_wF, arr_wG, arr_wR, arL_sV, arL_wF, arL_wG, arL_wR, arR_sV, arR_wF, arR_wG, arR_wR, fI_sV (c := 0), fI_sV (c := 1), fI_sV (c := 2), fI_sV (c := 4), fI_sV (c := 5), fI_sV (c := 7), fI_sV (c := 8), fI_sV (c := 9), fI_sV (c := 10), fI_sV (c := 11), fI_sV (c := 12), fI_sV (c := 6), fL_sV (c := 9), fL_sV (c := 12), fI_sV_k, fL_sV_k, fV_sV_k, fI_wF, fI_wG, fI_wR, fL_wF, fL_wG, fL_wR, fV_wF, fV_wG, fV_wR, aF_sV, aG_sV, aR_sV, aF_wG, aF_wR, aG_wF, aG_wR, aR_wF, aR_wG, kC, kM, gM gB, gN gB, i1, c1, true_and, e96, nI_1]
    have kC : fr [96] [] hB (wF hB 96 (upd (aF hB 96) 1 (nI (na t N k + 1)))) := fr_wF (by decide) fr_rfl
    have q96 : aF (wF hB 96 (upd (aF hB 96) 1 (nI (na t N k + 1)))) 96 1 = nI (na t N k + 1) := by
      simp (decide := true) only [kC, kM, gM gB]
      exact if_pos rfl
    have lwC : LOW hB (wF hB 96 (upd (aF hB 96) 1 (nI (na t N k + 1)))) := by
      refine ⟨?_, fun j hj => ⟨?_, ?_, ?_, ?_, ?_⟩, ?_, fun j hj => ⟨?_, ?_, ?_, ?_, ?_⟩, ?_⟩
      all_goals (try rw [frF kC (by decide)])
      · simp (decide := true) only [kC, kM, gM gB]; exact upd_n (by decide)
    generalize wF hB 96 (upd (aF hB 96) 1 (nI (na t N k + 1))) = hC at *
    have gC := G_fr gB rfl kC
    have mkC := MKt_lw mkB kC rfl rfl lwC
    refine c_pass gC st hk mkC (hft_pw (fw.2 hq) h12 (fun q => by omega)) (fun h1 k1' sp => ?_) (fun lt o0 h1 k1' mk1 => ?_)
    · try dsimp only [jrI, jrN, jrA, jisr, jnul, jcat1]
      refine ⟨by decide, HS h1 (fr_trans kB (fr_trans (fr_mono (by decide) (by decide) kC) (fr_mono (by decide) (by decide) k1'))) sp⟩
    · try dsimp only [jrI, jrN, jrA, jisr, jnul, jcat1]
      have kC1 : fr [96] [(81, 19), (81, 20), (81, 21), (81, 22), (81, 23), (81, 24)] hB h1 := fr_trans (fr_mono (fun _ q => q) (by decide) kC) (fr_mono (by decide) (fun _ q => q) k1')
      refine ⟨by decide, HC lt h1 (fr_trans kB (fr_mono (by decide) (by decide) kC1)) mk1 ?_ ⟨?_, fun i hi ai => ?_⟩ ?_⟩
      · rw [etl (by omega)]
        exact MN_fr mnB kC1 rfl
      · rw [frF k1' (by decide), ena]
        exact q96
      · unfold MA1
        rw [frF kC1 (by decide), frF kC1 (by decide), frF kC1 (by decide), frF kC1 (by decide), frF kC1 (by decide)]
        by_cases q : i = k
        · rw [q]; exact new
        · have lt' := na_lt (t := t) (N := N) (show i < k by omega) ai
          have oo := oth (210 + na t N i) (by omega)
          rw [oo.1, oo.2.1, oo.2.2.1, oo.2.2.2.1, oo.2.2.2.2]
          exact ma.2 i (by omega) ai
      · exact MFl_fr mfB kC1 rfl
  rw [jE_X12_atomTold]
  refine jT_X12_atomTold_0 ?_
  refine c_at5 g ma.1 (by omega) (fun hA kA p97 p98 p99 p100 p101 => ?_)
  have gA := G_fr g rfl kA
  have kA' : fr AA AFi h hA := fr_mono (by decide) (by decide) kA
  have lwA : LOW h hA := by
    refine ⟨?_, fun j hj => ⟨?_, ?_, ?_, ?_, ?_⟩, ?_, fun j hj => ⟨?_, ?_, ?_, ?_, ?_⟩, ?_⟩
    all_goals (try rw [frF kA (by decide)])
    · rw [p97, upd_n (by omega)]
    · rw [p98, upd_n (by omega)]
    · rw [p99, upd_n (by omega)]
    · rw [p100, upd_n (by omega)]
    · rw [p101, upd_n (by omega)]
  have mkA := MKt_lw mk kA rfl rfl lwA
  have mnA := MN_fr mn kA rfl
  have mfA := MFl_fr mf kA rfl
  have e96 : aF hA 96 1 = nI (na t N k) := by rw [frF kA (by decide)]; exact ma.1
  rw [jgI_ob (c := 12) (by simp only [gM gA]) rfl, mkA.1.2.2.1, ei]
  change jifp (mkK (tK t N k) = 2) _ _
  have u0 : tK t N k ≠ 2 → unt t N k = false := fun n => decide_eq_false (fun q => n q.1)
  have w0 : tK t N k ≠ 3 → wrg t N k = false := fun n => decide_eq_false (fun q => n q.1)
  have ss := sft_s (t := t) (N := N) (k := k)
  refine ⟨fun c2 => ?_, fun c2 => ?_⟩
  · -- a number
    have c3 := k2.1 c2
    have en : nms t N (k + 1) = nms t N k := by rw [nms_s, if_neg (fun q => by omega)]
    rw [u0 (by omega)] at ss
    rw [jrc_ob (by simp only [gM gA])]
    change jex X (d + 4 + 1) 85 _ _ _
    refine c_numbered gA mkA c3 (by omega) (fun D hB kB p100' p101' => ?_) (fun D => ?_)
    · try dsimp only [jrI, jrN, jrA, jisr, jnul, jcat1]
      refine jif_n (by decide) ?_
      have wr : wrg t N k = false := decide_eq_false (fun q => by
        rcases q.2 with q | q
        · omega
        · exact D q.2)
      rw [wr] at ss
      have kB' : fr AA AFi hA hB := fr_mono (by decide) (by decide) kB
      have lwB : LOW hA hB := by
        refine ⟨?_, fun j hj => ⟨?_, ?_, ?_, ?_, ?_⟩, ?_, fun j hj => ⟨?_, ?_, ?_, ?_, ?_⟩, ?_⟩
        all_goals (try rw [frF kB (by decide)])
        · rw [p100', upd_n (by omega)]
        · rw [p101', upd_n (by omega)]
      refine FIN (Or.inr c3) (fun q => by omega) hB (fr_trans kA' kB') (MKt_lw mkA kB rfl rfl lwB) (by rw [frF kB (by decide)]; exact e96) (by rw [en]; exact MN_fr mnA kB rfl) ?_ (fun i hi => ?_) ?_
      · have z := MFl_fr mfA kB rfl
        unfold MFl at z ⊢
        rw [show sft t N (k + 1) = sft t N k by rw [ss]; split <;> rfl]
        exact z
      · rw [p100', p101', frF kB (by decide), frF kB (by decide), frF kB (by decide), p97, p98, p99, p100, p101]
        unfold upd
        simp only [if_neg hi, and_self]
      · unfold MA1
        rw [p100', p101', frF kB (by decide), frF kB (by decide), frF kB (by decide), p97, p98, p99, ew, eo, upd_s, upd_s, upd_s, upd_s, upd_s]
        exact ⟨rfl, rfl, fun q => by omega, fun _ => ⟨rfl, fun _ => ⟨rfl, rfl⟩⟩⟩
    · try dsimp only [jrI, jrN, jrA, jisr, jnul, jcat1]
      refine jif_t rfl ?_
      have wr : wrg t N k = true := decide_eq_true ⟨c3, Or.inr ⟨by omega, D⟩⟩
      rw [jgI_ob (c := 12) (by simp only [gM gA]) rfl, mkA.1.1, jrc_ob (by simp only [gM gA])]
      change jex X (d + 4 + 1) 86 [.ref 81, .int (nI 5), .int (nI (tS t N k))] _ _
      refine c_mfault gA mfA ok (by omega) (fun hB kB f2 f3 => ?_)
      try dsimp only [jrI, jrN, jrA, jisr, jnul, jcat1]
      have kB' : fr AA AFi hA hB := fr_mono (by decide) (by decide) kB
      refine FIN (Or.inr c3) (fun q => by omega) hB (fr_trans kA' kB') (MKt_fr mkA kB rfl rfl) (by rw [frF kB (by decide)]; exact e96) (by rw [en]; exact MN_fr mnA kB rfl) ?_ (fun i hi => ?_) ?_
      · unfold MFl
        rw [show sft t N (k + 1) = sf2 (sft t N k) 5 (tS t N k) by rw [ss, wr]; unfold sf2; split <;> rfl]
        exact ⟨f2, f3⟩
      · rw [frF kB (by decide), frF kB (by decide), frF kB (by decide), frF kB (by decide), frF kB (by decide), p97, p98, p99, p100, p101]
        unfold upd
        simp only [if_neg hi, and_self]
      · unfold MA1
        rw [frF kB (by decide), frF kB (by decide), frF kB (by decide), frF kB (by decide), frF kB (by decide), p97, p98, p99, ew, eo, upd_s, upd_s, upd_s]
        exact ⟨rfl, rfl, fun q => by omega, fun _ => ⟨rfl, fun q => absurd D q⟩⟩
  · have c3 : tK t N k ≠ 3 := fun q => c2 (k2.2 q)
    rw [w0 c3] at ss
    rw [jgI_ob (c := 12) (by simp only [gM gA]) rfl, mkA.1.2.2.1]
    change jifp (mkK (tK t N k) = 1) _ _
    refine ⟨fun c1' => ?_, fun c1' => ?_⟩
    · -- a name
      have c2 := k1.1 c1'
      rw [jrc_ob (by simp only [gM gA])]
      change jex X (d + 4 + 1) 80 _ _ _
      refine c_named gA mkA c2 ok mnA (fun n12 hB kB l102 mnB => ?_) (fun n12 => ?_)
      · try dsimp only [jrI, jrN, jrA, jisr, jnul, jcat1]
        have gB := G_fr gA rfl kB
        have lwB : LOW hA hB := by
          refine ⟨?_, fun j hj => ⟨?_, ?_, ?_, ?_, ?_⟩, ?_, fun j hj => ⟨?_, ?_, ?_, ?_, ?_⟩, ?_⟩
          all_goals (try rw [frF kB (by decide)])
          · exact l102
        have mkB := MKt_lw mkA kB rfl rfl lwB
        have mfB := MFl_fr mfA kB rfl
        refine jif_n (nI_pos (by omega)) ?_
        have ivn : vp_in (nI (nnum t N k)) 12 := by rw [vp_inI, nI_toInt (by omega)]; omega
        have icn : (nI (nnum t N k)).toNatClampNeg = nnum t N k := nI_clamp (by omega)
        have td := (mnB.2 (nnum t N k) (nnum_lt (by omega) c2)).2
        -- the name is written
        have FN : ∀ hC : JH, fr [] [(81, 2), (81, 3)] hB hC → MFl hC t N (k + 1) → jgf hC (.ref 81) 12 34 (fun v35 => (jwI hC v35 (nI (210 + na t N k)) (nI (nnum t N k)) fun h36 => (jgf h36 (.ref 81) 12 31 fun v37 => (jcat1 v37 (jaI X h36 v37 1 fun x38 => (jwI h36 v37 1 (x38 + 1) fun h39 => (jrc h39 (.ref 81) 12 (jex X (d + 5) 79 [.ref 81] h39 fun r41 h40 => (jrI r41 fun x42 => ((x42 : Int32) &&& 1 = x42 ∧ (Q (some (.int x42)) h40))))))))))) := by
          intro hC kC mfC
          have gC := G_fr gB rfl kC
          rw [jgf_ob (c := 12) (by simp only [gM gC]) rfl, show fV hC 81 34 = .ref 99 by simp only [gN gC], jwI_ar (n := 420) (by simp only [gM gC])]
          refine ⟨iv, ?_⟩
          rw [ic]
          have kD : fr [99] [] hC (wF hC 99 (upd (aF hC 99) (210 + na t N k) (nI (nnum t N k)))) := fr_wF (by decide) fr_rfl
          have p99' : aF (wF hC 99 (upd (aF hC 99) (210 + na t N k) (nI (nnum t N k)))) 99 = upd (aF hC 99) (210 + na t N k) (nI (nnum t N k)) := aF_wF (t := .int) (n := 420) (by simp only [gM gC])
          generalize wF hC 99 (upd (aF hC 99) (210 + na t N k) (nI (nnum t N k))) = hD at *
          have kBD : fr [99] [(81, 2), (81, 3)] hB hD := fr_trans (fr_mono (by decide) (fun _ q => q) kC) (fr_mono (fun _ q => q) (by decide) kD)
          have lwD : LOW hB hD := by
            refine ⟨?_, fun j hj => ⟨?_, ?_, ?_, ?_, ?_⟩, ?_, fun j hj => ⟨?_, ?_, ?_, ?_, ?_⟩, ?_⟩
            all_goals (try rw [frF kBD (by decide)])
            · rw [p99', upd_n (by omega), frF kC (by decide)]
          refine FIN (Or.inl c2) (fun _ => n12) hD (fr_trans kA' (fr_trans (fr_mono (by decide) (by decide) kB) (fr_mono (by decide) (by decide) kBD))) (MKt_lw mkB kBD rfl rfl lwD) ?_ (MN_fr mnB kBD rfl) (MFl_fr mfC kD rfl) (fun i hi => ?_) ?_
          · rw [frF kBD (by decide), frF kB (by decide)]; exact e96
          · rw [p99', frF kC (by decide), frF kB (by decide), frF kBD (by decide), frF kBD (by decide), frF kBD (by decide), frF kBD (by decide), frF kB (by decide), frF kB (by decide), frF kB (by decide), frF kB (by decide), p97, p98, p99, p100, p101]
            unfold upd
            simp only [if_neg hi, and_self]
          · unfold MA1
            rw [p99', upd_s, frF kBD (by decide), frF kBD (by decide), frF kB (by decide), frF kB (by decide), p97, p98, upd_s, upd_s, ew, eo]
            exact ⟨rfl, rfl, fun _ => rfl, fun q => by omega⟩
        rw [jgf_ob (c := 12) (by simp only [gM gB]) rfl, show fV hB 81 39 = .ref 104 by simp only [gN gB], jaZ_ar (n := 12) (by simp only [gM gB])]
        refine ⟨ivn, ?_⟩
        rw [icn, td]
        cases etd : tld t N k (nnum t N k) with
        | false =>
          refine jif_t rfl ?_
          have un : unt t N k = true := decide_eq_true ⟨c2, by omega, etd⟩
          rw [jgI_ob (c := 12) (by simp only [gM gB]) rfl, mkB.1.1, jrc_ob (by simp only [gM gB])]
          change jex X (d + 4 + 1) 86 [.ref 81, .int (nI 4), .int (nI (tS t N k))] _ _
          refine c_mfault gB mfB ok (by omega) (fun hC kC f2 f3 => ?_)
          try dsimp only [jrI, jrN, jrA, jisr, jnul, jcat1]
          refine FN hC kC ?_
          unfold MFl
          rw [show sft t N (k + 1) = sf2 (sft t N k) 4 (tS t N k) by rw [ss, un]; unfold sf2; split <;> rfl]
          exact ⟨f2, f3⟩
        | true =>
          refine jif_n (by decide) (FN hB fr_rfl ?_)
          have un : unt t N k = false := decide_eq_false (fun q => by rw [q.2.2] at etd; cases etd)
          unfold MFl at mfB ⊢
          rw [show sft t N (k + 1) = sft t N k by rw [ss, un]; split <;> rfl]
          exact mfB
      · try dsimp only [jrI, jrN, jrA, jisr, jnul, jcat1]
        refine jif_t (by decide) ?_
        have e2 : hft t N k = 2 := by
          unfold hft
          rw [if_neg (fw.2 (Or.inl c2)), if_pos (Or.inr (Or.inl ⟨c2, n12⟩))]
        change jgI hA (.ref 81) 12 20 fun x43 => (jrc hA (.ref 81) 12 (jex X (d + 4 + 1) 77 [.ref 81, .int (nI 2), .int x43] hA fun r45 h44 => (jrI r45 fun x46 => ((fun (x46 : Int32) (h44 : JH) => ((x46 : Int32) &&& 1 = x46 ∧ (Q (some (.int x46)) h44))) x46 h44))))
        exact c_mstopK gA st hk mkA (by decide) e2 (fun q => absurd q (by decide)) (fun h1 k1' sp => ⟨by decide, HS h1 (fr_trans kA' (fr_mono (by decide) (by decide) k1')) sp⟩)
    · have c2 : tK t N k ≠ 2 := fun q => c1' (k1.2 q)
      have f0 : fwl t N k = 0 := Classical.byContradiction (fun q => by have := fw.1 q; omega)
      have e1 : hft t N k = 1 := by unfold hft; rw [if_pos f0]
      change jgI hA (.ref 81) 12 20 fun x15 => (jrc hA (.ref 81) 12 (jex X (d + 4 + 1) 77 [.ref 81, .int (nI 1), .int x15] hA fun r45 h44 => (jrI r45 fun x46 => ((fun (x46 : Int32) (h44 : JH) => ((x46 : Int32) &&& 1 = x46 ∧ (Q (some (.int x46)) h44))) x46 h44))))
      exact c_mstopK gA st hk mkA (by decide) e1 (fun _ w => by have := w.2.1; omega) (fun h1 k1' sp => ⟨by decide, HS h1 (fr_trans kA' (fr_mono (by decide) (by decide) k1')) sp⟩)
/-- a new step -/
theorem c_newStep (g : G h) {m : Nat} (e90 : aF h 90 1 = nI m) (hm : m < 410) {a e : Int32} (H : ∀ h1, fr [90, 91, 92] [] h h1 → aF h1 90 1 = nI (m + 1) → aF h1 91 = upd (aF h 91) (410 + m) a → aF h1 92 = upd (aF h 92) (410 + m) e → aF h1 90 0 = aF h 90 0 → Q (some (.int (nI (410 + m)))) h1) : jex X (d + 1) 81 [.ref 81, .int a, .int e] h Q := by
  have i1 : vp_in 1 2 := by rw [vp_inI]; decide
  have c1 : (1 : Int32).toNatClampNeg = 1 := rfl
  have iv : vp_in (nI (410 + m)) 820 := by rw [vp_inI, nI_toInt (by omega)]; omega
  have ic : (nI (410 + m)).toNatClampNeg = 410 + m := nI_clamp (by omega)
  have ei : (410 : Int32) + nI m = nI (410 + m) := nI_add 410 _
  rw [jE_X12_newStep]
  refine jT_X12_newStep_0 ?_
  dsimp only [jcat1]
  simp (decide := true) only [jgI_ob, jgf_ob, jgL_ob, jpI_ob, jpL_ob, jpR_ob, jpN_ob, jrc_ob, obj_sV, obj_wF, obj_wG, obj_wR, arr_sV, arr_wF, arr_wG, arr_wR, arL_sV, arL_wF, arL_wG, arL_wR, arR_sV, arR_wF, arR_wG, arR_wR, fI_sV (c := 0), fI_sV (c := 1), fI_sV (c := 2), fI_sV (c := 4), fI_sV (c := 5), fI_sV (c := 7), fI_sV (c := 8), fI_sV (c := 9), fI_sV (c := 10), fI_sV (c := 11), fI_sV (c := 12), fI_sV (c := 6), fL_sV (c := 9), fL_sV (c := 12), fI_sV_k, fL_sV_k, fV_sV_k, fI_wF, fI_wG, fI_wR, fL_wF, fL_wG, fL_wR, fV_wF, fV_wG, fV_wR, aF_sV, aG_sV, aR_sV, aF_wG, aF_wR, aG_wF, aG_wR, aR_wF, aR_wG, kC, kM, gM g, gN g, i1, c1, true_and, e90, ei, iv, ic, aF_wF_ne, nI_1]
  refine H _ (fr_wF (by decide) (fr_wF (by decide) (fr_wF (by decide) fr_rfl))) ?_ ?_ ?_ (by simp (decide := true) only [jgI_ob, jgf_ob, jgL_ob, jpI_ob, jpL_ob, jpR_ob, jpN_ob, jrc_ob, obj_sV, obj_wF, obj_wG, obj_wR, arr_sV, arr_wF, arr_wG, arr_wR, arL_sV, arL_wF, arL_wG, arL_wR, arR_sV, arR_wF, arR_wG, arR_wR, fI_sV (c := 0), fI_sV (c := 1), fI_sV (c := 2), fI_sV (c := 4), fI_sV (c := 5), fI_sV (c := 7), fI_sV (c := 8), fI_sV (c := 9), fI_sV (c := 10), fI_sV (c := 11), fI_sV (c := 12), fI_sV (c := 6), fL_sV (c := 9), fL_sV (c := 12), fI_sV_k, fL_sV_k, fV_sV_k, fI_wF, fI_wG, fI_wR, fL_wF, fL_wG, fL_wR, fV_wF, fV_wG, fV_wR, aF_sV, aG_sV, aR_sV, aF_wG, aF_wR, aG_wF, aG_wR, aR_wF, aR_wG, kC, kM, gM g, aF_wF_ne]; exact upd_n (by decide))
  · simp (decide := true) only [jgI_ob, jgf_ob, jgL_ob, jpI_ob, jpL_ob, jpR_ob, jpN_ob, jrc_ob, obj_sV, obj_wF, obj_wG, obj_wR, arr_sV, arr_wF, arr_wG, arr_wR, arL_sV, arL_wF, arL_wG, arL_wR, arR_sV, arR_wF, arR_wG, arR_wR, fI_sV (c := 0), fI_sV (c := 1), fI_sV (c := 2), fI_sV (c := 4), fI_sV (c := 5), fI_sV (c := 7), fI_sV (c := 8), fI_sV (c := 9), fI_sV (c := 10), fI_sV (c := 11), fI_sV (c := 12), fI_sV (c := 6), fL_sV (c := 9), fL_sV (c := 12), fI_sV_k, fL_sV_k, fV_sV_k, fI_wF, fI_wG, fI_wR, fL_wF, fL_wG, fL_wR, fV_wF, fV_wG, fV_wR, aF_sV, aG_sV, aR_sV, aF_wG, aF_wR, aG_wF, aG_wR, aR_wF, aR_wG, kC, kM, gM g, aF_wF_ne]
    exact if_pos rfl
  · simp (decide := true) only [jgI_ob, jgf_ob, jgL_ob, jpI_ob, jpL_ob, jpR_ob, jpN_ob, jrc_ob, obj_sV, obj_wF, obj_wG, obj_wR, arr_sV, arr_wF, arr_wG, arr_wR, arL_sV, arL_wF, arL_wG, arL_wR, arR_sV, arR_wF, arR_wG, arR_wR, fI_sV (c := 0), fI_sV (c := 1), fI_sV (c := 2), fI_sV (c := 4), fI_sV (c := 5), fI_sV (c := 7), fI_sV (c := 8), fI_sV (c := 9), fI_sV (c := 10), fI_sV (c := 11), fI_sV (c := 12), fI_sV (c := 6), fL_sV (c := 9), fL_sV (c := 12), fI_sV_k, fL_sV_k, fV_sV_k, fI_wF, fI_wG, fI_wR, fL_wF, fL_wG, fL_wR, fV_wF, fV_wG, fV_wR, aF_sV, aG_sV, aR_sV, aF_wG, aF_wR, aG_wF, aG_wR, aR_wF, aR_wG, kC, kM, gM g, aF_wF_ne]
  · simp (decide := true) only [jgI_ob, jgf_ob, jgL_ob, jpI_ob, jpL_ob, jpR_ob, jpN_ob, jrc_ob, obj_sV, obj_wF, obj_wG, obj_wR, arr_sV, arr_wF, arr_wG, arr_wR, arL_sV, arL_wF, arL_wG, arL_wR, arR_sV, arR_wF, arR_wG, arR_wR, fI_sV (c := 0), fI_sV (c := 1), fI_sV (c := 2), fI_sV (c := 4), fI_sV (c := 5), fI_sV (c := 7), fI_sV (c := 8), fI_sV (c := 9), fI_sV (c := 10), fI_sV (c := 11), fI_sV (c := 12), fI_sV (c := 6), fL_sV (c := 9), fL_sV (c := 12), fI_sV_k, fL_sV_k, fV_sV_k, fI_wF, fI_wG, fI_wR, fL_wF, fL_wG, fL_wR, fV_wF, fV_wG, fV_wR, aF_sV, aG_sV, aR_sV, aF_wG, aF_wR, aG_wF, aG_wR, aR_wF, aR_wG, kC, kM, gM g, aF_wF_ne]
end AT2
