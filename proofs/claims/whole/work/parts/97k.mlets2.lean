/-! A RUN: the model's let, whole -/
def lF : List Nat := [89, 109, 110, 111]
section MLT
variable {X : JX} {d : Nat} {Q : JQ} {h : JH} {n : Nat} {m ρ τ f : Nat → Nat} {b t : Nat → Bool} {fl : Nat → Nat → Int} {r : Nat} {s : Nat} {x : S7} {hs ey : Int} {W : Nat → Int32} {O : Nat → Option V6} {ov : Nat → Bool} {a A0 N c : Nat}
/-- the look at a let's end, and the value kept -/
theorem l_letsE (g : G h) (mx : MX h x) (be : BUn x) {k : Nat} {flk : Nat → Int} (sm : SM h k true 1 false flk) (e11 : (fI h 81 11).toInt = ey) (y0 : 0 ≤ ey) (y40 : ey ≤ 40) (ha : a < 820) (hc : c < 12) (e93 : aF h 93 a = nI c) (q0 : -1000000 ≤ zpl x) (q1 : zpl x ≤ 1000000) {q : Int × S7 × V6} (eq : q = pwT ey (zpl x) (some flk) true 1 false (fun _ => 0) x) (H1 : q.1 = 0 → ∀ h1, fr lF pF h h1 → MX h1 q.2.1 → aF h1 109 = upd (aF h 109) c 1 → (∀ w, w < 6 → (aF h1 110 (6 * c + w)).toInt = q.2.2 w) → (∀ j, (j < 6 * c ∨ 6 * c + 6 ≤ j) → aF h1 110 j = aF h 110 j) → fI h1 81 48 = fI h 81 48 → Q (some (.int 1)) h1) (H0 : q.1 ≠ 0 → ∀ h1, fr lF pF h h1 → (fI h1 81 52).toInt = q.1 → Q (some (.int 0)) h1) {j : Int32} {o5 o6 : Option Value} {c1 s1 : Nat} (hj : ¬ j < nI N) : jB_X12_lets_77 X (d + 5) Q 81 (nI a) (nI N) (nI k) j o5 o6 h c1 s1 := by
  obtain ⟨m1, m2, m3, m4, m5, m6, m7⟩ := id mx
  obtain ⟨z1, z2, z3, z4, z5, z6, z7, z8, z9, z10, z11, z12⟩ := be
  have iva : vp_in (nI a) 820 := by rw [vp_inI, nI_toInt (by omega)]; omega
  have ica : (nI a).toNatClampNeg = a := nI_clamp (by omega)
  have ivc : vp_in (nI c) 12 := by rw [vp_inI, nI_toInt (by omega)]; omega
  have icc : (nI c).toNatClampNeg = c := nI_clamp (by omega)
  refine jT_X12_lets_77 (jif_n hj ?_)
  rw [jgI_ob (c := 12) (by simp only [gM g]) rfl, jrc_ob (by simp only [gM g])]
  unfold pwT at eq
  change jex X (d + 5) 209 [.ref 81, .int (nI k), .int (nI 0), .int (fI h 81 57)] _ _
  refine c_lookBy g sm mx z1 z2 z3 z4 z5 (by omega) z7 (by omega) e11 y0 y40 (by decide) m7 q0 q1 (fun w0 h2 k2 pw oj => ?_) (fun w0 h2 k2 e52 => ?_)
  · have eq := eq.trans (if_pos w0)
    rw [eq] at H1
    have g2 := G_fr g rfl k2
    have f93 : aF h2 93 a = nI c := by rw [frF k2 (by decide)]; exact e93
    have f109 : aF h2 109 = aF h 109 := frF k2 (by decide)
    have f110 : aF h2 110 = aF h 110 := frF k2 (by decide)
    try dsimp only [jrI, jrN, jrA, jisr, jnul, jcat1]
    refine jif_n (by decide) ?_
    simp (decide := true) only [jgf_ob (c := 12), gM g2, gN g2, jaI_ar (p := 93) (n := 820), jwZ_ar (p := 109) (n := 12), iva, ica, ivc, icc, true_and, f93, show vp_nar .boolean 1 = 1 from by decide]
    have k3 : fr [109] [] h2 (wF h2 109 (upd (aF h2 109) c 1)) := fr_wF (by decide) fr_rfl
    have q109 : aF (wF h2 109 (upd (aF h2 109) c 1)) 109 = upd (aF h2 109) c 1 := aF_wF (t := .boolean) (n := 12) (by simp only [gM g2])
    generalize wF h2 109 (upd (aF h2 109) c 1) = h3 at *
    have g3 := G_fr g2 rfl k3
    refine l_lets211 g3 hc (fun h4 k4 p4 o4 => ?_)
    have k23 : fr lF pF h h3 := fr_trans (fr_mono (B := lF) (E := pF) (by decide) (by decide) k2) (fr_mono (B := lF) (E := pF) (by decide) (by decide) k3)
    have kk : fr lF pF h h4 := fr_trans k23 (fr_mono (B := lF) (E := pF) (by decide) (by decide) k4)
    have mx2 := MX_fr mx k2 (by decide) (by decide) (by decide) (by decide) (by decide) (by decide) (by decide)
    have mx3 := MX_fr mx2 k3 (by decide) (by decide) (by decide) (by decide) (by decide) (by decide) (by decide)
    have mx4 := MX_fr mx3 k4 (by decide) (by decide) (by decide) (by decide) (by decide) (by decide) (by decide)
    refine H1 rfl h4 kk mx4 ?_ (fun w hw => ?_) (fun j hj => ?_) ?_
    · rw [frF k4 (by decide), q109, f109]
    · rw [p4 w hw, frF k3 (by decide)]
      have := pw w hw
      rw [Nat.mul_zero, Nat.zero_add] at this
      exact this
    · rw [o4 j hj, frF k3 (by decide), f110]
    · rw [frI k4 (by decide) (by decide), frI k3 (by decide) (by decide), frI k2 (by decide) (by decide)]
  · have eq := eq.trans (if_neg w0)
    rw [eq] at H0
    try dsimp only [jrI, jrN, jrA, jisr, jnul, jcat1]
    exact jif_t rfl ⟨by decide, H0 w0 h2 (fr_mono (by decide) (by decide) k2) e52⟩
end MLT
