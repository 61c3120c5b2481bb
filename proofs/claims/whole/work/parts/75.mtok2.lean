/-! TOKENS: the model's next one -/
section MTK2
variable {X : JX} {d : Nat} {Q : JQ} {h : JH} {N : Nat} {t : Nat → Int}
theorem c_msign (g : G h) (tm : TM h t N) {b : Nat} (h20 : fI h 81 20 = nI b) (hb : b < N) (hl : tkL (t b) = false) (hd : tkD (t b) = false) {x a3 s0 : Int32} (hx : x.toInt = sg (t b)) (h3 : a3 = bi (sgD t N b)) (h0 : s0 = if sgD t N b = true then 300 else x) (H : ∀ h1, fr [] MTF h h1 → MT h1 t N b → Q none h1) {c s : Nat} : jB_X12_token_161 X (d + 3) Q 81 (nI b) x a3 s0 (.ref 81) h c s := by
  have hN := tm.2.1
  have r := tm.2.2 b hb
  have eK : tkK t N b = sgK t N b := by
    unfold tkK
    rw [if_neg (by omega), if_neg (by rw [hl]; decide), if_neg (by rw [hd]; decide)]
  have eZ : tkZ t N b = if sgD t N b = true then b + 2 else b + 1 := by
    unfold tkZ
    rw [if_neg (by omega), if_neg (by rw [hl]; decide), if_neg (by rw [hd]; decide)]
  have xe : ∀ c : Int32, 0 ≤ c.toInt → c.toInt ≤ 127 → (x = c ↔ t b = c.toInt) := fun c c0 c1 => by rw [ti_eq, hx]; exact sg_c r.1 r.2.1 c0 c1
  have x59 : x = 59 ↔ t b = 59 := xe 59 (by decide) (by decide)
  have x61 : x = 61 ↔ t b = 61 := xe 61 (by decide) (by decide)
  have x60 : x = 60 ↔ t b = 60 := xe 60 (by decide) (by decide)
  have x42 : x = 42 ↔ t b = 42 := xe 42 (by decide) (by decide)
  have x47 : x = 47 ↔ t b = 47 := xe 47 (by decide) (by decide)
  have k1 : fr [] MTF h (sV h 81 22 (.int s0)) := fr_sV (by decide) fr_rfl
  have g1 := G_fr g rfl k1
  have q20 : fI (sV h 81 22 (.int s0)) 81 20 = nI b := by simp (decide := true) only [jgI_ob, jgf_ob, jgL_ob, jpI_ob, jpL_ob, jpR_ob, jpN_ob, jrc_ob, obj_sV, obj_wF, obj_wG, obj_wR, arr_sV, arr_wF, arr_wG, arr_wR, arL_sV, arL_wF, arL_wG, arL_wR, arR_sV, arR_wF, arR_wG, arR_wR, fI_sV (c := 0), fI_sV (c := 1), fI_sV (c := 2), fI_sV (c := 4), fI_sV (c := 5), fI_sV (c := 7), fI_sV (c := 8), fI_sV (c := 9), fI_sV (c := 10), fI_sV (c := 11), fI_sV (c := 12), fI_sV (c := 6), fL_sV (c := 9), fL_sV (c := 12), fI_sV_k, fL_sV_k, fV_sV_k, fI_wF, fI_wG, fI_wR, fL_wF, fL_wG, fL_wR, fV_wF, fV_wG, fV_wR, aF_sV, aG_sV, aR_sV, aF_wG, aF_wR, aG_wF, aG_wR, aR_wF, aR_wG, gM g, h20]
  have q22 : fI (sV h 81 22 (.int s0)) 81 22 = s0 := by simp (decide := true) only [jgI_ob, jgf_ob, jgL_ob, jpI_ob, jpL_ob, jpR_ob, jpN_ob, jrc_ob, obj_sV, obj_wF, obj_wG, obj_wR, arr_sV, arr_wF, arr_wG, arr_wR, arL_sV, arL_wF, arL_wG, arL_wR, arR_sV, arR_wF, arR_wG, arR_wR, fI_sV (c := 0), fI_sV (c := 1), fI_sV (c := 2), fI_sV (c := 4), fI_sV (c := 5), fI_sV (c := 7), fI_sV (c := 8), fI_sV (c := 9), fI_sV (c := 10), fI_sV (c := 11), fI_sV (c := 12), fI_sV (c := 6), fL_sV (c := 9), fL_sV (c := 12), fI_sV_k, fL_sV_k, fV_sV_k, fI_wF, fI_wG, fI_wR, fL_wF, fL_wG, fL_wR, fV_wF, fV_wG, fV_wR, aF_sV, aG_sV, aR_sV, aF_wG, aF_wR, aG_wF, aG_wR, aR_wF, aR_wG, gM g]
  have R : ∀ (k : Nat) (w : Int32) (z : Nat), sgK t N b = k → (k = 0 ∨ 15 ≤ k) → w = mkK k → z = tkZ t N b → (15 ≤ k → s0 = sgM k) → Q none (sV (sV (sV h 81 22 (.int s0)) 81 19 (.int w)) 81 21 (.int (nI z))) := by
    intro k w z ek kr ew ez es
    rw [ek] at eK
    refine H _ (fr_sV (by decide) (fr_sV (by decide) k1)) (MT_mk g1 q20 (by rw [eK]; exact ew) ez ?_)
    rw [eK]
    exact ⟨fun q => by omega, fun q => by rw [q22]; exact es q, fun q => by omega⟩
  refine jT_X12_token_161 ?_
  rw [jpI_ob (c := 12) (by simp only [gM g]) rfl]
  simp (decide := true) only [jgI_ob, jgf_ob, jgL_ob, jpI_ob, jpL_ob, jpR_ob, jpN_ob, jrc_ob, obj_sV, obj_wF, obj_wG, obj_wR, arr_sV, arr_wF, arr_wG, arr_wR, arL_sV, arL_wF, arL_wG, arL_wR, arR_sV, arR_wF, arR_wG, arR_wR, fI_sV (c := 0), fI_sV (c := 1), fI_sV (c := 2), fI_sV (c := 4), fI_sV (c := 5), fI_sV (c := 7), fI_sV (c := 8), fI_sV (c := 9), fI_sV (c := 10), fI_sV (c := 11), fI_sV (c := 12), fI_sV (c := 6), fL_sV (c := 9), fL_sV (c := 12), fI_sV_k, fL_sV_k, fV_sV_k, fI_wF, fI_wG, fI_wR, fL_wF, fL_wG, fL_wR, fV_wF, fV_wG, fV_wR, aF_sV, aG_sV, aR_sV, aF_wG, aF_wR, aG_wF, aG_wR, aR_wF, aR_wG, gM g, nI_1, show nI b + 2 = nI (b + 2) from nI_add b 2]
  cases ed : sgD t N b with
  | true =>
    rw [ed] at h3 h0 eZ
    have w := of_decide_eq_true ed
    refine jif_n (fun q => by have := x59.1 q; omega) (jif_t (x61.2 w.1) (jif_n (by rw [h3]; decide) ?_))
    refine R 17 3 (b + 2) ?_ (Or.inr (by decide)) rfl (by rw [eZ]; rfl) (fun _ => h0)
    unfold sgK
    rw [if_neg (by omega), if_neg (by omega), if_neg (by omega), if_neg (by omega), if_pos w.1, if_pos ed]
  | false =>
    rw [ed] at h3 h0 eZ
    have h0' : s0 = x := h0
    have eZ' : b + 1 = tkZ t N b := by rw [eZ]; rfl
    refine ⟨fun c1 => jif_t h3 (R 15 3 (b + 1) ?_ (Or.inr (by decide)) rfl eZ' (fun _ => by rw [h0', c1]; rfl)), fun c1 => ⟨fun c2 => jif_t h3 (R 16 3 (b + 1) ?_ (Or.inr (by decide)) rfl eZ' (fun _ => by rw [h0', c2]; rfl)), fun c2 => ⟨fun c3 => jif_t h3 (R 18 3 (b + 1) ?_ (Or.inr (by decide)) rfl eZ' (fun _ => by rw [h0', c3]; rfl)), fun c3 => ⟨fun c4 => jif_t h3 (R 19 3 (b + 1) ?_ (Or.inr (by decide)) rfl eZ' (fun _ => by rw [h0', c4]; rfl)), fun c4 => ⟨fun c5 => jif_t h3 (R 20 3 (b + 1) ?_ (Or.inr (by decide)) rfl eZ' (fun _ => by rw [h0', c5]; rfl)), fun c5 => jif_t h3 (R 0 5 (b + 1) ?_ (Or.inl rfl) rfl eZ' (fun q => by omega))⟩⟩⟩⟩⟩
    · have := x59.1 c1; unfold sgK; rw [if_pos this]
    · have := x61.1 c2; unfold sgK; rw [if_neg (by omega), if_neg (by omega), if_neg (by omega), if_neg (by omega), if_pos this, if_neg (by rw [ed]; decide)]
    · have := x60.1 c3; unfold sgK; rw [if_neg (by omega), if_pos this]
    · have := x42.1 c4; unfold sgK; rw [if_neg (by omega), if_neg (by omega), if_pos this]
    · have := x47.1 c5; unfold sgK; rw [if_neg (by omega), if_neg (by omega), if_neg (by omega), if_pos this]
    · unfold sgK
      rw [if_neg (fun q => c1 (x59.2 q)), if_neg (fun q => c3 (x60.2 q)), if_neg (fun q => c4 (x42.2 q)), if_neg (fun q => c5 (x47.2 q)), if_neg (fun q => c2 (x61.2 q))]
/-- the next token, from where the last one ended -/
theorem c_token (g : G h) (tm : TM h t N) {a : Nat} (h21 : fI h 81 21 = nI a) (ha : a ≤ N) (H : ∀ h1, fr [] MTF h h1 → MT h1 t N (tkb t N a) → Q none h1) : jex X (d + 4) 69 [.ref 81] h Q := by
  have hN := tm.2.1
  have hbN : tkb t N a ≤ N := tkE_le ha
  have V : ∀ (o2 o3 : Option Value) (c z : Nat), jB_X12_token_63 X (d + 3) Q 81 (nI (tkb t N a)) o2 o3 h c z := by
    intro o2 o3 c z
    generalize tkb t N a = b at *
    refine jT_X12_token_63 ?_
    rw [jpI_ob (c := 12) (by simp only [gM g]) rfl]
    have k2 : fr [] MTF h (sV h 81 20 (.int (nI b))) := fr_sV (by decide) fr_rfl
    have g2 := G_fr g rfl k2
    have tm2 := TM_fr tm k2 (by decide) (by decide)
    have q20 : fI (sV h 81 20 (.int (nI b))) 81 20 = nI b := by simp (decide := true) only [jgI_ob, jgf_ob, jgL_ob, jpI_ob, jpL_ob, jpR_ob, jpN_ob, jrc_ob, obj_sV, obj_wF, obj_wG, obj_wR, arr_sV, arr_wF, arr_wG, arr_wR, arL_sV, arL_wF, arL_wG, arL_wR, arR_sV, arR_wF, arR_wG, arR_wR, fI_sV (c := 0), fI_sV (c := 1), fI_sV (c := 2), fI_sV (c := 4), fI_sV (c := 5), fI_sV (c := 7), fI_sV (c := 8), fI_sV (c := 9), fI_sV (c := 10), fI_sV (c := 11), fI_sV (c := 12), fI_sV (c := 6), fL_sV (c := 9), fL_sV (c := 12), fI_sV_k, fL_sV_k, fV_sV_k, fI_wF, fI_wG, fI_wR, fL_wF, fL_wG, fL_wR, fV_wF, fV_wG, fV_wR, aF_sV, aG_sV, aR_sV, aF_wG, aF_wR, aG_wF, aG_wR, aR_wF, aR_wG, gM g]
    generalize sV h 81 20 (.int (nI b)) = h2 at *
    have H2 : ∀ h3, fr [] MTF h2 h3 → MT h3 t N b → Q none h3 := fun h3 k3 t3 => H h3 (fr_trans k2 k3) t3
    rw [jgI_ob (c := 12) (by simp only [gM g2]) rfl, tm2.1]
    by_cases nb : b < N
    · refine jif_t (nI_lt nb (by omega)) ?_
      rw [jrc_ob (by simp only [gM g2])]
      change jex X (d + 1 + 2) 70 [.ref 81, .int (nI b)] _ _
      refine c_mLetter g2 tm2 (by omega) (fun _ q => ?_) (fun q => ?_)
      · try dsimp only [jrI, jrN, jrA, jisr, jnul, jcat1]
        refine jif_n (by decide) ?_
        rw [jrc_ob (by simp only [gM g2])]
        refine c_wordToken g2 tm2 q20 nb q (fun h3 k3 t3 => ?_)
        try dsimp only [jrI, jrN, jrA, jisr, jnul, jcat1]
        exact H2 h3 k3 t3
      · have q := q nb
        try dsimp only [jrI, jrN, jrA, jisr, jnul, jcat1]
        refine jif_t rfl ?_
        rw [jrc_ob (by simp only [gM g2])]
        change jex X (d + 1 + 2) 74 [.ref 81, .int (nI b)] _ _
        refine c_mDigit g2 tm2 (by omega) (fun _ q2 => ?_) (fun q2 => ?_)
        · try dsimp only [jrI, jrN, jrA, jisr, jnul, jcat1]
          refine jif_n (by decide) ?_
          rw [jrc_ob (by simp only [gM g2])]
          refine c_numToken g2 tm2 q20 nb q q2 (fun h3 k3 t3 => ?_)
          try dsimp only [jrI, jrN, jrA, jisr, jnul, jcat1]
          exact H2 h3 k3 t3
        · have q2 := q2 nb
          have r := tm.2.2 b nb
          try dsimp only [jrI, jrN, jrA, jisr, jnul, jcat1]
          refine jif_t rfl ?_
          rw [jrc_ob (by simp only [gM g2])]
          change jex X (d + 2 + 1) 71 [.ref 81, .int (nI b)] _ _
          refine c_at g2 tm2 (by omega) (fun x hx => ?_)
          have hx : x.toInt = sg (t b) := by rw [hx]; exact if_pos nb
          have x61 : x = 61 ↔ t b = 61 := by rw [ti_eq, hx]; exact sg_c r.1 r.2.1 (by decide) (by decide)
          try dsimp only [jrI, jrN, jrA, jisr, jnul, jcat1]
          refine ⟨fun c1 => ?_, fun c1 => ?_⟩
          · rw [jrc_ob (by simp only [gM g2]), nI_1]
            change jex X (d + 2 + 1) 71 [.ref 81, .int (nI (b + 1))] _ _
            refine c_at g2 tm2 (by omega) (fun y hy => ?_)
            try dsimp only [jrI, jrN, jrA, jisr, jnul, jcat1]
            have y61 : y = 61 ↔ sgD t N b = true := by
              rw [ti_eq, hy]
              unfold byM sgD
              rw [decide_eq_true_eq]
              by_cases cc : b + 1 < N
              · have r2 := tm.2.2 (b + 1) cc
                rw [if_pos cc, show (61 : Int32).toInt = 61 from rfl, sg_c r2.1 r2.2.1 (by decide) (by decide)]
                exact ⟨fun q => ⟨x61.1 c1, cc, q⟩, fun q => q.2.2⟩
              · rw [if_neg cc]
                exact ⟨fun q => absurd q (by decide), fun q => absurd q.2.1 cc⟩
            refine ⟨fun c2 => jif_n (by decide) (c_msign g2 tm2 q20 nb q q2 hx ?_ ?_ H2), fun c2 => jif_t rfl (c_msign g2 tm2 q20 nb q q2 hx ?_ ?_ H2)⟩
            · rw [y61.1 c2]; rfl
            · rw [y61.1 c2]; rfl
            · cases ed : sgD t N b with
              | true => exact absurd (y61.2 ed) c2
              | false => rfl
            · rw [if_neg (fun q => c2 (y61.2 q))]
          · have ed : sgD t N b = false := decide_eq_false (fun w => c1 (x61.2 w.1))
            exact jif_t rfl (c_msign g2 tm2 q20 nb q q2 hx (by rw [ed]; rfl) (by rw [ed]; rfl) H2)
    · refine jif_n (nI_nlt (by omega) (by omega)) ?_
      simp (decide := true) only [jgI_ob, jgf_ob, jgL_ob, jpI_ob, jpL_ob, jpR_ob, jpN_ob, jrc_ob, obj_sV, obj_wF, obj_wG, obj_wR, arr_sV, arr_wF, arr_wG, arr_wR, arL_sV, arL_wF, arL_wG, arL_wR, arR_sV, arR_wF, arR_wG, arR_wR, fI_sV (c := 0), fI_sV (c := 1), fI_sV (c := 2), fI_sV (c := 4), fI_sV (c := 5), fI_sV (c := 7), fI_sV (c := 8), fI_sV (c := 9), fI_sV (c := 10), fI_sV (c := 11), fI_sV (c := 12), fI_sV (c := 6), fL_sV (c := 9), fL_sV (c := 12), fI_sV_k, fL_sV_k, fV_sV_k, fI_wF, fI_wG, fI_wR, fL_wF, fL_wG, fL_wR, fV_wF, fV_wG, fV_wR, aF_sV, aG_sV, aR_sV, aF_wG, aF_wR, aG_wF, aG_wR, aR_wF, aR_wG, gM g2]
      have eK : tkK t N b = 1 := if_pos (by omega)
      refine H2 _ (fr_sV (by decide) (fr_sV (by decide) fr_rfl)) (MT_mk g2 q20 (by rw [eK]; rfl) (by unfold tkZ; rw [if_pos (by omega)]) (by rw [eK]; exact ⟨fun q => by omega, fun q => by omega, fun q => by omega⟩))
  have L : ∀ (r e : Nat) (o2 o3 : Option Value) (c z : Nat), e + r = 2001 → tkb t N a = tkE tkB t N e → jB_X12_token_5 X (d + 3) Q 81 (nI e) o2 o3 h c z := by
    intro r
    induction r with
    | zero =>
      intro e o2 o3 c z he ee
      rw [tkE_cap (i := e) (by omega)] at ee
      omega
    | succ r ih =>
      intro e o2 o3 c z he ee
      refine jT_X12_token_5 ?_
      rw [jgI_ob (c := 12) (by simp only [gM g]) rfl, tm.1]
      by_cases nb : e < N
      · have r := tm.2.2 e nb
        have ec : ∀ c : Int32, 0 ≤ c.toInt → c.toInt ≤ 127 → (aF h 82 e = c ↔ t e = c.toInt) := fun c c0 c1 => by rw [ti_eq, r.2.2]; exact sg_c r.1 r.2.1 c0 c1
        have e9 : aF h 82 e = 9 ↔ t e = 9 := ec 9 (by decide) (by decide)
        have e10 : aF h 82 e = 10 ↔ t e = 10 := ec 10 (by decide) (by decide)
        have e13 : aF h 82 e = 13 ↔ t e = 13 := ec 13 (by decide) (by decide)
        have e32 : aF h 82 e = 32 ↔ t e = 32 := ec 32 (by decide) (by decide)
        have iv : vp_in (nI e) 2000 := by rw [vp_inI, nI_toInt (by omega)]; omega
        have go : (t e = 9 ∨ t e = 10 ∨ t e = 13 ∨ t e = 32) → jB_X12_token_5 X (d + 3) Q 81 (nI e + 1) o2 o3 h c z := by
          intro q
          rw [nI_1]
          exact ih (e + 1) _ _ _ _ (by omega) (by rw [ee, tkE_go nb (decide_eq_true q)])
        refine jif_t (nI_lt nb (by omega)) ?_
        simp (decide := true) only [jgI_ob, jgf_ob, jgL_ob, jpI_ob, jpL_ob, jpR_ob, jpN_ob, jrc_ob, obj_sV, obj_wF, obj_wG, obj_wR, arr_sV, arr_wF, arr_wG, arr_wR, arL_sV, arL_wF, arL_wG, arL_wR, arR_sV, arR_wF, arR_wG, arR_wR, fI_sV (c := 0), fI_sV (c := 1), fI_sV (c := 2), fI_sV (c := 4), fI_sV (c := 5), fI_sV (c := 7), fI_sV (c := 8), fI_sV (c := 9), fI_sV (c := 10), fI_sV (c := 11), fI_sV (c := 12), fI_sV (c := 6), fL_sV (c := 9), fL_sV (c := 12), fI_sV_k, fL_sV_k, fV_sV_k, fI_wF, fI_wG, fI_wR, fL_wF, fL_wG, fL_wR, fV_wF, fV_wG, fV_wR, aF_sV, aG_sV, aR_sV, aF_wG, aF_wR, aG_wF, aG_wR, aR_wF, aR_wG, kC, kM, gM g, gN g]
        rw [nI_clamp (by omega)]
        refine ⟨iv, fun c1 => go (Or.inl (e9.1 c1)), fun c1 => ⟨iv, fun c2 => go (Or.inr (Or.inl (e10.1 c2))), fun c2 => ⟨iv, fun c3 => go (Or.inr (Or.inr (Or.inl (e13.1 c3)))), fun c3 => ⟨iv, fun c4 => go (Or.inr (Or.inr (Or.inr (e32.1 c4)))), fun c4 => ?_⟩⟩⟩⟩
        rw [tkE_st (fun _ => decide_eq_false (fun q => by
          rcases q with q | q | q | q
          · exact c1 (e9.2 q)
          · exact c2 (e10.2 q)
          · exact c3 (e13.2 q)
          · exact c4 (e32.2 q)))] at ee
        have v := V o2 o3 c z
        rw [ee] at v
        exact v
      · refine jif_n (nI_nlt (by omega) (by omega)) ?_
        rw [tkE_cap (i := e) (by omega)] at ee
        have v := V o2 o3 c z
        rw [ee] at v
        exact v
  rw [jE_X12_token]
  refine jT_X12_token_0 ?_
  rw [jgI_ob (c := 12) (by simp only [gM g]) rfl, h21]
  exact L (2001 - a) a none none _ _ (by omega) rfl
end MTK2
