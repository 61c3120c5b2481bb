/-! A RUN: the class raises a power -/
def ARs (h : JH) (i : Nat) (v : V6) (ov : Bool) : Prop := (aF h 54 i).toInt = v 0 ∧ (aF h 55 i).toInt = v 1 ∧ (aF h 56 i).toInt = lse v 1 ∧ aF h 57 i = bi ov
/-- the powers but i are as they were -/
def ASm (h h1 : JH) (i : Nat) : Prop := ∀ j, j ≠ i → aF h1 54 j = aF h 54 j ∧ aF h1 55 j = aF h 55 j ∧ aF h1 56 j = aF h 56 j ∧ aF h1 57 j = aF h 57 j
def raA : List Nat := [54, 55, 56, 57]
def raF : List (Nat × Nat) := [(24, 12), (24, 14), (24, 15)] ++ hF 6 ++ vO 51 ++ vO 53
section CRA
variable {X : JX} {d : Nat} {Q : JQ} {h h1 : JH} {n : Nat} {m ρ τ f : Nat → Nat} {b t : Nat → Bool} {fl : Nat → Nat → Int} {r p q : Nat} {u : Nat → Int} {N K j i s w : Nat} {td : Nat → Bool} {vl : Nat → V6} {x : S7} {hs ey : Int} {v : V6}
theorem VBo_fr {A : List Nat} {F : List (Nat × Nat)} (vb : VBo h w v) (a : fr A F h h1) (hF : ∀ k, (w, k + 1) ∉ F) (h5 : w < 126) : VBo h1 w v := by
  obtain ⟨o, e⟩ := vb
  refine ⟨by rw [frO a]; exact o, fun k hk => ?_⟩
  rw [frI a (hF k) (by omega)]
  exact e k hk
theorem l_raise115 (g : G h) (px : PXs h p u N K) (k4 : K ≤ 400) (e2 : fV h 24 2 = .ref p) (vb : VBo h w v) (w126 : w < 126) (gv : GV v) (ei : fI h 24 12 = nI i) (hi : i < 210) (ej : fI h 24 15 = nI j) (j1 : 1 ≤ j) (hj : j < K) {a2 : Int32} (jn : Nat) (hjn : jn = if a2 = 0 then j + 2 else j + 1) {o1 o4 : Option Value} {c s : Nat} (H : ∀ h1, fr raA [(24, 12), (24, 15)] h h1 → fI h1 24 12 = nI (i + 1) → fI h1 24 15 = nI jn → ARs h1 i v (decide (tK u N (j - 1) = 20)) → ASm h h1 i → Q (some (.int 0)) h1) : jB_X7_raise_115 X (d + 3) Q 24 o1 a2 (.ref w) o4 h c s := by
  have ob : obj h 24 7 := by simp only [gO g]
  have ivi : vp_in (nI i) 400 := by rw [vp_inI, nI_toInt (by omega)]; omega
  have ici : (nI i).toNatClampNeg = i := nI_clamp (by omega)
  have vw := vb
  obtain ⟨ow, ww⟩ := vb
  have w0 : (fI h w 1).toInt = v 0 := ww 0 (by decide)
  have w1 : (fI h w 2).toInt = v 1 := ww 1 (by decide)
  refine jT_X7_raise_115 ?_
  rw [jgI_ob ob rfl, ei, jgf_ob ob rfl, show fV h 24 8 = .ref 54 by simp only [gF g], jaln_arr (t := .int) (n := 400) (by simp only [gO g])]
  refine jif_t (nI_lt (b := 400) (by omega) (by omega)) ?_
  rw [jgf_ob ob rfl, show fV h 24 8 = .ref 54 by simp only [gF g], jgI_ob ob rfl, ei]
  try dsimp only [jisr]
  rw [jgI_ob ow rfl, jwI_ar (n := 400) (by simp only [gO g]), ici]
  refine ⟨ivi, ?_⟩
  have k1 : fr [54] [] h (wF h 54 (upd (aF h 54) i (fI h w 1))) := fr_wF (by decide) fr_rfl
  have q1 : aF (wF h 54 (upd (aF h 54) i (fI h w 1))) 54 = upd (aF h 54) i (fI h w 1) := aF_wF (t := .int) (n := 400) (by simp only [gO g])
  generalize wF h 54 (upd (aF h 54) i (fI h w 1)) = g10 at *
  have gg1 := G_fr g rfl k1
  have ob1 : obj g10 24 7 := by simp only [gO gg1]
  have ow1 : obj g10 w 10 := by rw [frO k1]; exact ow
  have e12 : fI g10 24 12 = nI i := by rw [frI k1 (by decide) (by decide)]; exact ei
  rw [jgf_ob ob1 rfl, show fV g10 24 9 = .ref 55 by simp only [gF gg1], jgI_ob ob1 rfl, e12]
  try dsimp only [jisr]
  rw [jgI_ob ow1 rfl, jwI_ar (n := 400) (by simp only [gO gg1]), ici]
  refine ⟨ivi, ?_⟩
  have f2 : fI g10 w 2 = fI h w 2 := frI k1 List.not_mem_nil (by omega)
  rw [f2]
  have k2 : fr [55] [] g10 (wF g10 55 (upd (aF g10 55) i (fI h w 2))) := fr_wF (by decide) fr_rfl
  have q2 : aF (wF g10 55 (upd (aF g10 55) i (fI h w 2))) 55 = upd (aF g10 55) i (fI h w 2) := aF_wF (t := .int) (n := 400) (by simp only [gO gg1])
  generalize wF g10 55 (upd (aF g10 55) i (fI h w 2)) = g14 at *
  have gg2 := G_fr gg1 rfl k2
  have ob2 : obj g14 24 7 := by simp only [gO gg2]
  have vb2 : VBo g14 w v := VBo_fr (VBo_fr vw k1 (fun _ => List.not_mem_nil) w126) k2 (fun _ => List.not_mem_nil) w126
  have e12 : fI g14 24 12 = nI i := by rw [frI k2 (by decide) (by decide)]; exact e12
  rw [jgf_ob ob2 rfl, show fV g14 24 10 = .ref 56 by simp only [gF gg2], jgI_ob ob2 rfl, e12]
  try dsimp only [jisr]
  rw [jgf_ob ob2 rfl, show fV g14 24 1 = .ref 1 by simp only [gF gg2], jrc_ob vb2.1]
  change jex X (d + 3) 194 [.ref w, .ref 1, .int (nI 1)] g14 _
  refine c_looseBy (d := d) gg2 vb2 gv (by decide) (by decide) (fun lo hlo => ?_)
  try dsimp only [jrI, jrN, jrA, jisr, jnul, jcat1]
  rw [jwI_ar (n := 400) (by simp only [gO gg2]), ici]
  refine ⟨ivi, ?_⟩
  have k3 : fr [56] [] g14 (wF g14 56 (upd (aF g14 56) i lo)) := fr_wF (by decide) fr_rfl
  have q3 : aF (wF g14 56 (upd (aF g14 56) i lo)) 56 = upd (aF g14 56) i lo := aF_wF (t := .int) (n := 400) (by simp only [gO gg2])
  generalize wF g14 56 (upd (aF g14 56) i lo) = g21 at *
  have gg3 := G_fr gg2 rfl k3
  have ob3 : obj g21 24 7 := by simp only [gO gg3]
  have e12 : fI g21 24 12 = nI i := by rw [frI k3 (by decide) (by decide)]; exact e12
  have k03 : fr raA [(24, 12), (24, 15)] h g21 := fr_trans (fr_trans (fr_mono (by decide) (by decide) k1) (fr_mono (by decide) (by decide) k2)) (fr_mono (by decide) (by decide) k3)
  have e15 : fI g21 24 15 = nI j := by rw [frI k3 (by decide) (by decide), frI k2 (by decide) (by decide), frI k1 (by decide) (by decide)]; exact ej
  have px3 : PXs g21 p u N K := PX_fr px k03 (by decide) (by decide)
  have e2' : fV g21 24 2 = .ref p := by rw [frV k03 (by decide) (by decide)]; exact e2
  rw [jgf_ob ob3 rfl, show fV g21 24 11 = .ref 57 by simp only [gF gg3], jgI_ob ob3 rfl, e12, jgf_ob ob3 rfl, e2', jgI_ob ob3 rfl, e15, jrc_ob (px_ob gg3 px3)]
  refine c_pkind (d := d + 1) gg3 px3 k4 (nI_p j1) (by omega) ?_
  try dsimp only [jrI, jrN, jrA, jisr, jnul, jcat1]
  -- the end, for either sign
  have E : ∀ (ov : Bool), ov = decide (tK u N (j - 1) = 20) → ∀ hh, hh = wF g21 57 (upd (aF g21 57) i (bi ov)) → jgI hh (.ref 24) 7 12 fun x36 => (jpf hh (.ref 24) 7 12 (.int (x36 + 1)) fun h37 => (jgI h37 (.ref 24) 7 15 fun x38 => (jifp (a2 = 0) (jpf h37 (.ref 24) 7 15 (.int (x38 + 2)) fun h39 => (Q (some (.int 0)) h39)) (jpf h37 (.ref 24) 7 15 (.int (x38 + 1)) fun h40 => (Q (some (.int 0)) h40))))) := by
    intro ov eo hh ee
    have k4' : fr [57] [] g21 hh := by rw [ee]; exact fr_wF (by decide) fr_rfl
    have q4 : aF hh 57 = upd (aF g21 57) i (bi ov) := by rw [ee]; exact aF_wF (t := .boolean) (n := 400) (by simp only [gO gg3])
    clear ee
    have gg4 := G_fr gg3 rfl k4'
    have ob4 : obj hh 24 7 := by simp only [gO gg4]
    have e12 : fI hh 24 12 = nI i := by rw [frI k4' (by decide) (by decide)]; exact e12
    have e15 : fI hh 24 15 = nI j := by rw [frI k4' (by decide) (by decide)]; exact e15
    rw [jgI_ob ob4 rfl, e12, nI_1, jpI_ob ob4 rfl]
    have AA : ∀ h2, fr [] [(24, 12), (24, 15)] hh h2 → ARs h2 i v (decide (tK u N (j - 1) = 20)) ∧ ASm h h2 i := by
      intro h2 k5
      have a54 : aF h2 54 = upd (aF h 54) i (fI h w 1) := by rw [frF k5 (by decide), frF k4' (by decide), frF k3 (by decide), frF k2 (by decide)]; exact q1
      have a55 : aF h2 55 = upd (aF h 55) i (fI h w 2) := by rw [frF k5 (by decide), frF k4' (by decide), frF k3 (by decide), q2, frF k1 (by decide)]
      have a56 : aF h2 56 = upd (aF h 56) i lo := by rw [frF k5 (by decide), frF k4' (by decide), q3, frF k2 (by decide), frF k1 (by decide)]
      have a57 : aF h2 57 = upd (aF h 57) i (bi ov) := by rw [frF k5 (by decide), q4, frF k3 (by decide), frF k2 (by decide), frF k1 (by decide)]
      unfold ARs ASm
      rw [a54, a55, a56, a57, upd_s, upd_s, upd_s, upd_s]
      refine ⟨⟨w0, w1, hlo, by rw [eo]⟩, fun j hj => ?_⟩
      rw [upd_n hj, upd_n hj, upd_n hj, upd_n hj]
      exact ⟨rfl, rfl, rfl, rfl⟩
    have ob5 : obj (sV hh 24 12 (.int (nI (i + 1)))) 24 7 := by simp only [obj_sV]; exact ob4
    rw [jgI_ob ob5 rfl, fI_sV_k (by decide), e15]
    refine ⟨fun c => ?_, fun c => ?_⟩
    · rw [if_pos c] at hjn
      rw [jpI_ob ob5 rfl, show nI j + 2 = nI jn by rw [hjn]; exact nI_add j 2]
      have k5 : fr [] [(24, 12), (24, 15)] hh (sV (sV hh 24 12 (.int (nI (i + 1)))) 24 15 (.int (nI jn))) := fr_sV (by decide) (fr_sV (by decide) fr_rfl)
      obtain ⟨z1, z2⟩ := AA _ k5
      refine H _ (fr_trans k03 (fr_trans (fr_mono (by decide) (by decide) k4') (fr_mono (by decide) (by decide) k5))) ?_ ?_ z1 z2
      · rw [fI_sV_k (by decide)]; exact fI_sV ob4 rfl
      · exact fI_sV ob5 rfl
    · rw [if_neg c] at hjn
      rw [jpI_ob ob5 rfl, nI_1, ← hjn]
      have k5 : fr [] [(24, 12), (24, 15)] hh (sV (sV hh 24 12 (.int (nI (i + 1)))) 24 15 (.int (nI jn))) := fr_sV (by decide) (fr_sV (by decide) fr_rfl)
      obtain ⟨z1, z2⟩ := AA _ k5
      refine H _ (fr_trans k03 (fr_trans (fr_mono (by decide) (by decide) k4') (fr_mono (by decide) (by decide) k5))) ?_ ?_ z1 z2
      · rw [fI_sV_k (by decide)]; exact fI_sV ob4 rfl
      · exact fI_sV ob5 rfl
  have tj : tK u N (j - 1) ≤ 20 := tkK_r _
  refine ⟨fun c => ?_, fun c => ?_⟩
  · have c := (nI_eq (b := 20) (by omega) (by omega)).1 c
    rw [jwZ_ar (n := 400) (by simp only [gO gg3]), ici]
    exact ⟨ivi, E true (decide_eq_true c).symm _ rfl⟩
  · have c : ¬ tK u N (j - 1) = 20 := fun q => c (by rw [q]; rfl)
    rw [jwZ_ar (n := 400) (by simp only [gO gg3]), ici]
    exact ⟨ivi, E false (decide_eq_false c).symm _ rfl⟩
theorem kwM_W {W : Nat} (h10 : 10 ≤ W) (h14 : W ≤ 14) : kwM W = nI (W - 4) := by
  rcases (show W = 10 ∨ W = 11 ∨ W = 12 ∨ W = 13 ∨ W = 14 by omega) with e | e | e | e | e <;> subst e <;> rfl
theorem c_raise (g : G h) (rb : RB h n m ρ τ b f t fl) (hr : r < n) (e62 : fV h 6 2 = .ref (ρ r)) (hx : HS h 6 x) (be : BUn x) (e0 : (fI h 6 0).toInt = hs) (h0 : 0 ≤ hs) (h20 : hs ≤ 20) (e1 : (fI h 6 1).toInt = ey) (y0 : 0 ≤ ey) (y40 : ey ≤ 40) (px : PXs h p u N K) (k4 : K ≤ 400) (o : OKt u N K) (z0 : (sft u N K).1 = 0) (e2 : fV h 24 2 = .ref p) (hq : q = 25 ∨ q = 26) (e4 : fV h 24 4 = .ref q) (cv : CVs h q td vl) {tok : Nat} (hj1 : 1 ≤ j) (hjt : j ≤ tok) (htk : tok < K) (ia : isAt u N tok = true) (wd : (xe u N tok = 5 ∧ tok = j + 1 ∧ 10 ≤ tK u N j ∧ tK u N j ≤ 14) ∨ (xe u N tok = 4 ∧ tok = j)) (es : fI h 24 14 = nI s) (s2 : s ≤ 200) (ej : fI h 24 15 = nI j) (ei : fI h 24 12 = nI i) (hi : i < 210) {z : Int × S7 × V6} (ez : z = pwS hs ey (slf r (m r) b f t fl) (wrd u N tok) s (ato u N td vl tok) x) (H1 : z.1 = 0 → ∀ h1, fr raA raF h h1 → HS h1 6 z.2.1 → fI h1 24 14 = nI (s + 1) → fI h1 24 12 = nI (i + 1) → fI h1 24 15 = nI (tok + 1) → ARs h1 i z.2.2 (ovr u N tok) → ASm h h1 i → Q (some (.int 0)) h1) (H0 : z.1 ≠ 0 → ∀ h1, fr raA raF h h1 → ∀ y : Int32, y.toInt = z.1 → Q (some (.int y)) h1) : jex X (d + 5) 188 [.ref 24] h Q := by
  have ob : obj h 24 7 := by simp only [gO g]
  have ia' := of_decide_eq_true ia
  have hf0 : ∀ {A : List Nat} {h1 : JH}, (∀ p, p ∈ A → p ∈ raA) → fr A (vO 51) h h1 → fr raA raF h h1 := fun hA k => fr_mono hA (by decide) k
  unfold pwS at ez
  rw [jE_X7_raise]
  refine jT_X7_raise_0 ?_
  rw [jrc_ob ob]
  refine c_countStep (d := d + 3) g es s2 (fun ns => ?_) (fun e => ?_)
  · rw [if_neg ns] at ez
    try dsimp only [jrI, jrN, jrA, jisr, jnul, jcat1]
    refine jif_n (by decide) ?_
    have k1 : fr [] [(24, 14)] h (sV h 24 14 (.int (nI (s + 1)))) := fr_sV (by decide) fr_rfl
    have f14 : fI (sV h 24 14 (.int (nI (s + 1)))) 24 14 = nI (s + 1) := fI_sV ob rfl
    generalize sV h 24 14 (.int (nI (s + 1))) = h2 at *
    have g2 := G_fr g rfl k1
    have ob2 : obj h2 24 7 := by simp only [gO g2]
    have px2 : PXs h2 p u N K := PX_fr px k1 (by decide) (by decide)
    have e2' : fV h2 24 2 = .ref p := by rw [frV k1 (by decide) (by decide)]; exact e2
    have e4' : fV h2 24 4 = .ref q := by rw [frV k1 (by decide) (by decide)]; exact e4
    have e62' : fV h2 6 2 = .ref (ρ r) := by rw [frV k1 (by decide) (by decide)]; exact e62
    have f15 : fI h2 24 15 = nI j := by rw [frI k1 (by decide) (by decide)]; exact ej
    have f12 : fI h2 24 12 = nI i := by rw [frI k1 (by decide) (by decide)]; exact ei
    have hx2 : HS h2 6 x := by
      unfold HS at hx ⊢
      rw [frI k1 (by decide) (by decide), frI k1 (by decide) (by decide), frI k1 (by decide) (by decide), frI k1 (by decide) (by decide), frI k1 (by decide) (by decide), frI k1 (by decide) (by decide), frI k1 (by decide) (by decide)]
      exact hx
    have e0' : (fI h2 6 0).toInt = hs := by rw [frI k1 (by decide) (by decide)]; exact e0
    have e1' : (fI h2 6 1).toInt = ey := by rw [frI k1 (by decide) (by decide)]; exact e1
    have cv2 : CVs h2 q td vl := by
      intro c hc
      obtain ⟨v1, v2⟩ := cv c hc
      have kr : 27 ≤ kvo q c ∧ kvo q c ≤ 50 := by unfold kvo; split <;> omega
      have nm : ∀ k, (kvo q c, k) ∉ ([(24, 14)] : List (Nat × Nat)) := fun k w => by
        have := List.mem_singleton.mp w
        have := congrArg Prod.fst this
        have : kvo q c = 24 := this
        omega
      refine ⟨by rw [frI k1 (nm 0) (by omega)]; exact v1, fun w => ⟨(v2 w).1, VBo_fr (v2 w).2 k1 (fun k => nm _) (by omega)⟩⟩
    have rb2 : RB h2 n m ρ τ b f t fl := RB_fr rb k1 (by decide)
    have L2 : ∀ {A : List Nat} {F : List (Nat × Nat)} {h3 : JH}, (∀ p, p ∈ A → p ∈ raA) → (∀ p, p ∈ F → p ∈ raF) → fr A F h2 h3 → fr raA raF h h3 := fun hA hF k => fr_trans (fr_mono (by decide) (by decide) k1) (fr_mono hA hF k)
    have KVr : ∀ {w2 : Nat}, (w2 = 51 ∨ ∃ c, c < 12 ∧ w2 = kvo q c) → 27 ≤ w2 ∧ w2 ≤ 51 := by
      intro w2 c
      rcases c with c | ⟨c, _, e⟩
      · omega
      · rw [e]; unfold kvo; split <;> omega
    have bit : ∀ {A : List Nat} {h3 : JH}, fr A (vO 51) h2 h3 → HS h3 6 x ∧ fI h3 24 14 = nI (s + 1) ∧ fI h3 24 15 = nI j ∧ fI h3 24 12 = nI i ∧ fV h3 24 2 = .ref p ∧ fV h3 6 2 = .ref (ρ r) ∧ (fI h3 6 0).toInt = hs ∧ (fI h3 6 1).toInt = ey := by
      intro A h3 k
      unfold HS at hx2 ⊢
      rw [frI k (by decide) (by decide), frI k (by decide) (by decide), frI k (by decide) (by decide), frI k (by decide) (by decide), frI k (by decide) (by decide), frI k (by decide) (by decide), frI k (by decide) (by decide), frI k (by decide) (by decide), frI k (by decide) (by decide), frI k (by decide) (by decide), frV k (by decide) (by decide), frV k (by decide) (by decide), frI k (by decide) (by decide), frI k (by decide) (by decide)]
      exact ⟨hx2, f14, f15, f12, e2', e62', e0', e1'⟩
    -- an atom without a value
    have NV : ato u N td vl tok = none → z = (6, x, fun _ => 0) := fun e => by rw [e] at ez; exact ez
    rw [jgf_ob ob2 rfl, e2', jgI_ob ob2 rfl, f15, jrc_ob (px_ob g2 px2)]
    refine c_pkind (d := d + 2) g2 px2 k4 rfl (by omega) ?_
    try dsimp only [jrI, jrN, jrA, jisr, jnul, jcat1]
    rcases wd with ⟨x5, et, w10, w14⟩ | ⟨x4, et⟩
    · -- a word
      subst et
      have ew : wrd u N (j + 1) = nI (tK u N j - 4) := by
        unfold wrd
        rw [if_pos x5]
        exact kwM_W w10 w14
      have eo : ovr u N (j + 1) = decide (tK u N (j - 1) = 20) := by
        unfold ovr
        rw [if_pos x5]
        rfl
      rw [eo] at H1
      rw [ew] at ez
      have W0 : ∀ c : Nat, c < 4 → ¬ nI (tK u N j) = nI c := fun c hc e => by
        have := (nI_eq (by omega) (by omega)).1 e
        omega
      refine jif_n (W0 3 (by decide)) (jif_n (W0 2 (by decide)) (jif_t rfl ?_))
      rw [jgI_ob ob2 rfl, f15]
      refine jT_X7_raise_55 ?_
      rw [jgf_ob ob2 rfl, show fV h2 24 5 = .ref 51 by simp only [gF g2], jrc_ob ob2]
      refine c_atomAt (d := d + 1) g2 px2 k4 o z0 e2' hq e4' cv2 (nI_1 j) htk ia (by simp only [gO g2]) (fun v ev gv h3 w k2 vb t1 hw => ?_) (fun ev w _ _ ow t0 => ?_)
      · rw [ev] at ez
        have ez : z = pwR hs ey (slf r (m r) b f t fl) (nI (tK u N j - 4)) v x := ez
        rw [pwR_W w10 w14] at ez
        have wr := KVr hw
        have g3 := G_fr g2 rfl k2
        have ob3 : obj h3 24 7 := by simp only [gO g3]
        obtain ⟨hx3, i14, i15, i12, i2, i62, i0, i1⟩ := bit k2
        have rb3 : RB h3 n m ρ τ b f t fl := RB_fr rb2 k2 (by decide)
        have px3 : PXs h3 p u N K := PX_fr px2 k2 (by decide) (by decide)
        try dsimp only [jrI, jrN, jrA, jisr, jnul, jcat1]
        rw [jgI_ob vb.1 rfl, t1]
        refine jif_n (by decide) (jif_t rfl ?_)
        rw [jrc_ob ob3]
        have a := gv.1 0 (by decide)
        simp only [Nat.mul_zero, Nat.zero_add] at a
        have w1 : (fI h3 w 2).toInt = v 1 := vb.2 1 (by decide)
        have pr : -1000000 ≤ rpW (tK u N j) (v 1) ∧ rpW (tK u N j) (v 1) ≤ 1000000 := by
          unfold rpW
          repeat (first | (split; omega) | split | omega)
        -- what is left when it was looked
        have FIN : ∀ (h4 : JH), fr [] lkF h3 h4 → (z.1 = 0 → HS h4 6 z.2.1 ∧ VBo h4 53 z.2.2) → ∀ y : Int32, y.toInt = z.1 → jifp (y = 0) (jgf h4 (.ref 24) 7 7 fun v19 => (jisr v19 (jB_X7_raise_115 X (d + 4) Q 24 (some (.int (nI (tK u N j)))) 0 v19 (some (.int y)) h4 0 0))) (Q (some (.int y)) h4) := by
          intro h4 k3 hz y ey'
          have k23 : fr [] raF h2 h4 := fr_trans (fr_mono (fun _ w => w) (by decide) k2) (fr_mono (fun _ w => w) (by decide) k3)
          have k24 := L2 (A := []) (by decide) (fun _ w => w) k23
          refine ⟨fun c => ?_, fun c => ?_⟩
          · have zz : z.1 = 0 := by rw [← ey', c]; rfl
            obtain ⟨hx4, vb4⟩ := hz zz
            have g4 := G_fr g3 rfl k3
            have pb : GV z.2.2 := by
              have := ez
              rw [← pwR_W w10 w14] at this
              rw [this] at zz ⊢
              exact (pwR_b gv be h0 zz).2
            rw [jgf_ob (by simp only [gO g4]) rfl, show fV h4 24 7 = .ref 53 by simp only [gF g4]]
            try dsimp only [jisr]
            have j15 : fI h4 24 15 = nI j := by rw [frI k3 (by decide) (by decide)]; exact i15
            have j12 : fI h4 24 12 = nI i := by rw [frI k3 (by decide) (by decide)]; exact i12
            have j14 : fI h4 24 14 = nI (s + 1) := by rw [frI k3 (by decide) (by decide)]; exact i14
            refine l_raise115 (d := d + 1) g4 (PX_fr px3 k3 (by decide) (by decide)) k4 (by rw [frV k3 (by decide) (by decide)]; exact i2) vb4 (by decide) pb j12 hi j15 hj1 (by omega) (j + 1 + 1) rfl (fun h5 k5 z12 z15 ar am => ?_)
            refine H1 zz h5 (fr_trans k24 (fr_mono (by decide) (by decide) k5)) ?_ (by rw [frI k5 (by decide) (by decide)]; exact j14) z12 z15 ar (fun i' hi' => ?_)
            · unfold HS at hx4 ⊢
              rw [frI k5 (by decide) (by decide), frI k5 (by decide) (by decide), frI k5 (by decide) (by decide), frI k5 (by decide) (by decide), frI k5 (by decide) (by decide), frI k5 (by decide) (by decide), frI k5 (by decide) (by decide)]
              exact hx4
            · have := am i' hi'
              have f0 : fr [] raF h h4 := fr_trans (fr_mono (fun _ w => w) (by decide) k1) k23
              rw [frF f0 (by decide), frF f0 (by decide), frF f0 (by decide), frF f0 (by decide)] at this
              exact this
          · exact H0 (fun w => c (by rw [ti_eq, ey', w]; rfl)) h4 k24 y ey'
        refine c_scaleToSet (d := d + 1) g3 rb3 hr i62 w10 w14 (fun k1' flk1 p1 sc1 es1 => ?_) (fun es1 => ?_)
        · rw [es1] at ez
          try dsimp only [jrI, jrN, jrA, jisr, jnul, jcat1]
          rw [jrc_ob ob3]
          refine c_scaleToRead (d := d + 1) g3 rb3 hr i62 w10 w14 (fun k2' flk2 p2 sc2 es2 => ?_) (fun es2 => ?_)
          · rw [es2] at ez
            try dsimp only [jrI, jrN, jrA, jisr, jnul, jcat1]
            rw [jgI_ob vb.1 rfl]
            refine c_placeToRead (d := d + 2) w10 w14 w1 (by omega) (by omega) (fun y hy => ?_)
            try dsimp only [jrI, jrN, jrA, jisr, jnul, jcat1]
            rw [jrc_ob ob3]
            refine c_lookAcross (d := d) g3 hx3 be i0 h0 h20 i1 y0 y40 vb gv sc1 p1 sc2 p2 hy pr.1 pr.2 ez (fun h4 k3 hz y' ey' => ?_)
            try dsimp only [jrI, jrN, jrA, jisr, jnul, jcat1]
            exact FIN h4 k3 hz y' ey'
          · rw [es2] at ez
            try dsimp only [jrI, jrN, jrA, jisr, jnul, jcat1]
            rw [jgI_ob vb.1 rfl]
            refine c_placeToRead (d := d + 2) w10 w14 w1 (by omega) (by omega) (fun y hy => ?_)
            try dsimp only [jrI, jrN, jrA, jisr, jnul, jcat1]
            rw [jrc_ob ob3]
            refine c_lookAcross3 (d := d) g3 hx3 be i0 h0 h20 i1 y0 y40 vb gv sc1 p1 hy pr.1 pr.2 ez (fun h4 k3 hz y' ey' => ?_)
            try dsimp only [jrI, jrN, jrA, jisr, jnul, jcat1]
            exact FIN h4 k3 hz y' ey'
        · rw [es1] at ez
          have ez : z = (2, x, v) := ez
          try dsimp only [jrI, jrN, jrA, jisr, jnul, jcat1]
          rw [jrc_ob ob3]
          have z2 : ¬ z.1 = 0 := by rw [ez]; show ¬ (2 : Int) = 0; decide
          refine c_scaleToRead (d := d + 1) g3 rb3 hr i62 w10 w14 (fun k2' flk2 p2 sc2 es2 => ?_) (fun es2 => ?_)
          · try dsimp only [jrI, jrN, jrA, jisr, jnul, jcat1]
            rw [jgI_ob vb.1 rfl]
            refine c_placeToRead (d := d + 2) w10 w14 w1 (by omega) (by omega) (fun y hy => ?_)
            try dsimp only [jrI, jrN, jrA, jisr, jnul, jcat1]
            rw [jrc_ob ob3]
            refine c_lookAcross1 (d := d + 3) (Or.inr ⟨_, rfl⟩) ?_
            try dsimp only [jrI, jrN, jrA, jisr, jnul, jcat1]
            exact FIN h3 fr_rfl (fun w => absurd w z2) 2 (by rw [ez]; rfl)
          · try dsimp only [jrI, jrN, jrA, jisr, jnul, jcat1]
            rw [jgI_ob vb.1 rfl]
            refine c_placeToRead (d := d + 2) w10 w14 w1 (by omega) (by omega) (fun y hy => ?_)
            try dsimp only [jrI, jrN, jrA, jisr, jnul, jcat1]
            rw [jrc_ob ob3]
            refine c_lookAcross1 (d := d + 3) (Or.inl rfl) ?_
            try dsimp only [jrI, jrN, jrA, jisr, jnul, jcat1]
            exact FIN h3 fr_rfl (fun w => absurd w z2) 2 (by rw [ez]; rfl)
      · have ez := NV ev
        try dsimp only [jrI, jrN, jrA, jisr, jnul, jcat1]
        rw [jgI_ob ow rfl, t0]
        refine jif_t rfl (H0 (by rw [ez]; show ¬ (6 : Int) = 0; decide) h2 (L2 (A := []) (F := []) (by decide) (by decide) fr_rfl) 6 (by rw [ez]; rfl))
    · -- bare
      subst et
      have ew : wrd u N tok = -1 := by
        unfold wrd
        rw [if_neg (by omega)]
      have eo : ovr u N tok = decide (tK u N (tok - 1) = 20) := by
        unfold ovr
        rw [if_neg (by omega)]
      rw [eo] at H1
      rw [ew] at ez
      have BA : ∀ (W : Int32) (o3 o4 : Option Value) (c1 s1 : Nat), jB_X7_raise_55 X (d + 4) Q 24 W 1 o3 o4 (nI tok) (.ref 24) h2 c1 s1 := by
        intro W o3 o4 c1 s1
        refine jT_X7_raise_55 ?_
        rw [jgf_ob ob2 rfl, show fV h2 24 5 = .ref 51 by simp only [gF g2], jrc_ob ob2]
        refine c_atomAt (d := d + 1) g2 px2 k4 o z0 e2' hq e4' cv2 rfl htk ia (by simp only [gO g2]) (fun v ev gv h3 w k2 vb t1 hw => ?_) (fun ev w _ _ ow t0 => ?_)
        · rw [ev] at ez
          have ez : z = (0, x, v) := ez
          have wr := KVr hw
          have g3 := G_fr g2 rfl k2
          obtain ⟨hx3, i14, i15, i12, i2, i62, i0, i1⟩ := bit k2
          have px3 : PXs h3 p u N K := PX_fr px2 k2 (by decide) (by decide)
          try dsimp only [jrI, jrN, jrA, jisr, jnul, jcat1]
          rw [jgI_ob vb.1 rfl, t1]
          refine jif_n (by decide) (jif_n (by decide) ?_)
          refine l_raise115 (d := d + 1) g3 px3 k4 i2 vb (by omega) gv i12 hi i15 hj1 (by omega) (tok + 1) rfl (fun h5 k5 z12 z15 ar am => ?_)
          have k23 : fr [] raF h2 h3 := fr_mono (fun _ w => w) (by decide) k2
          rw [ez] at H1
          refine H1 rfl h5 (fr_trans (L2 (by decide) (fun _ w => w) k23) (fr_mono (by decide) (by decide) k5)) ?_ (by rw [frI k5 (by decide) (by decide)]; exact i14) z12 z15 ar (fun i' hi' => ?_)
          · unfold HS at hx3 ⊢
            rw [frI k5 (by decide) (by decide), frI k5 (by decide) (by decide), frI k5 (by decide) (by decide), frI k5 (by decide) (by decide), frI k5 (by decide) (by decide), frI k5 (by decide) (by decide), frI k5 (by decide) (by decide)]
            exact hx3
          · have := am i' hi'
            have f0 : fr [] raF h h3 := fr_trans (fr_mono (fun _ w => w) (by decide) k1) k23
            rw [frF f0 (by decide), frF f0 (by decide), frF f0 (by decide), frF f0 (by decide)] at this
            exact this
        · have ez := NV ev
          try dsimp only [jrI, jrN, jrA, jisr, jnul, jcat1]
          rw [jgI_ob ow rfl, t0]
          refine jif_t rfl (H0 (by rw [ez]; show ¬ (6 : Int) = 0; decide) h2 (L2 (A := []) (F := []) (by decide) (by decide) fr_rfl) 6 (by rw [ez]; rfl))
      by_cases c3 : tK u N tok = 3
      · rw [c3]
        refine jif_t (by decide) (jif_n (by decide) ?_)
        rw [jgI_ob ob2 rfl, f15]
        exact BA _ _ _ _ _
      · have c2 : tK u N tok = 2 := by omega
        rw [c2]
        refine jif_n (by decide) (jif_t (by decide) (jif_n (by decide) ?_))
        rw [jgI_ob ob2 rfl, f15]
        exact BA _ _ _ _ _
  · rw [if_pos e] at ez
    try dsimp only [jrI, jrN, jrA, jisr, jnul, jcat1]
    refine jif_t rfl (H0 (by rw [ez]; show ¬ (1 : Int) = 0; decide) _ (fr_sV (by decide) fr_rfl) 1 (by rw [ez]; rfl))
end CRA
