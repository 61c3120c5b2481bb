/-! A RUN: the class finds scales, counts steps -/
section CRU
variable {X : JX} {d : Nat} {Q : JQ} {h : JH} {n : Nat} {m ρ τ f : Nat → Nat} {b t : Nat → Bool} {fl : Nat → Nat → Int} {r s : Nat}
theorem c_first (rb : RB h n m ρ τ b f t fl) (hr : r < n) {B T : Bool} {F : Nat} (hF : F ≤ 3) (H1 : ∀ k flk, 126 ≤ τ k → SC h (τ k) B F T flk → slf r (m r) b f t fl B F T = some flk → Q (some (.ref (τ k))) h) (H0 : slf r (m r) b f t fl B F T = none → Q (some .null) h) : jex X (d + 1) 170 [.ref (ρ r), .int (bi B), .int (nI F), .int (bi T)] h Q := by
  refine c_firstLike rb hr hF (fun s hs e eb ef et => ?_) (fun e => ?_)
  · obtain ⟨z1, z2, sc, sm⟩ := rb.2.2.2.2.1 r s hr hs
    rw [eb, ef, et] at sc
    refine H1 (8 * r + s) _ z2 sc ?_
    unfold slf
    rw [e, if_pos hs]
  · refine H0 ?_
    unfold slf
    rw [e, if_neg (Nat.lt_irrefl _)]
theorem c_onBody (g : G h) (rb : RB h n m ρ τ b f t fl) (hr : r < n) (e62 : fV h 6 2 = .ref (ρ r)) {F : Nat} (hF : F ≤ 3) (H1 : ∀ k flk, 126 ≤ τ k → SC h (τ k) true F false flk → slf r (m r) b f t fl true F false = some flk → Q (some (.ref (τ k))) h) (H0 : slf r (m r) b f t fl true F false = none → Q (some .null) h) : jex X (d + 2) 169 [.ref 24, .int (nI F)] h Q := by
  obtain ⟨m8, aR1, r126, ob, f0, ar, f1, a83⟩ := rb.2.2.2.1 r hr
  rw [jE_X7_onBody]
  refine jT_X7_onBody_0 ?_
  rw [jgf_ob (c := 7) (by simp only [gO g]) rfl, show fV h 24 0 = .ref 6 by simp only [gF g], jgf_ob (c := 2) (by simp only [gO g]) rfl, e62]
  try dsimp only [jrI, jrN, jrA, jisr, jnul, jcat1]
  rw [jgf_ob (c := 7) (by simp only [gO g]) rfl, show fV h 24 0 = .ref 6 by simp only [gF g], jgf_ob (c := 2) (by simp only [gO g]) rfl, e62, jrc_ob ob]
  change jex X (d + 1) 170 [.ref (ρ r), .int (bi true), .int (nI F), .int (bi false)] h _
  refine c_first rb hr hF (fun k flk z sc e => ?_) (fun e => ?_)
  · try dsimp only [jrI, jrN, jrA, jisr, jnul, jcat1]
    exact H1 k flk z sc e
  · try dsimp only [jrI, jrN, jrA, jisr, jnul, jcat1]
    exact H0 e
theorem c_onSlide (g : G h) (rb : RB h n m ρ τ b f t fl) (hr : r < n) (e62 : fV h 6 2 = .ref (ρ r)) {T : Bool} (H1 : ∀ k flk, 126 ≤ τ k → SC h (τ k) false 1 T flk → slf r (m r) b f t fl false 1 T = some flk → Q (some (.ref (τ k))) h) (H0 : slf r (m r) b f t fl false 1 T = none → Q (some .null) h) : jex X (d + 2) 173 [.ref 24, .int (bi T)] h Q := by
  obtain ⟨m8, aR1, r126, ob, f0, ar, f1, a83⟩ := rb.2.2.2.1 r hr
  rw [jE_X7_onSlide]
  refine jT_X7_onSlide_0 ?_
  rw [jgf_ob (c := 7) (by simp only [gO g]) rfl, show fV h 24 0 = .ref 6 by simp only [gF g], jgf_ob (c := 2) (by simp only [gO g]) rfl, e62]
  try dsimp only [jrI, jrN, jrA, jisr, jnul, jcat1]
  rw [jgf_ob (c := 7) (by simp only [gO g]) rfl, show fV h 24 0 = .ref 6 by simp only [gF g], jgf_ob (c := 2) (by simp only [gO g]) rfl, e62, jrc_ob ob]
  change jex X (d + 1) 170 [.ref (ρ r), .int (bi false), .int (nI 1), .int (bi T)] h _
  refine c_first rb hr (by decide) (fun k flk z sc e => ?_) (fun e => ?_)
  · try dsimp only [jrI, jrN, jrA, jisr, jnul, jcat1]
    exact H1 k flk z sc e
  · try dsimp only [jrI, jrN, jrA, jisr, jnul, jcat1]
    exact H0 e
theorem c_countStep (g : G h) (es : fI h 24 14 = nI s) (s2 : s ≤ 200) (H1 : s ≠ 200 → Q (some (.int 1)) (sV h 24 14 (.int (nI (s + 1))))) (H0 : s = 200 → Q (some (.int 0)) (sV h 24 14 (.int (nI (s + 1))))) : jex X (d + 1) 166 [.ref 24] h Q := by
  rw [jE_X7_countStep]
  refine jT_X7_countStep_0 ?_
  rw [jgI_ob (c := 7) (by simp only [gO g]) rfl, es, nI_1, jpI_ob (c := 7) (by simp only [gO g]) rfl, jgI_ob (c := 7) (by simp only [obj_sV, gO g]) rfl, fI_sV (c := 7) (by simp only [gO g]) rfl]
  have t200 : (200 : Int32).toInt = 200 := rfl
  have ts := nI_toInt (show s + 1 < 2147483648 by omega)
  refine ⟨fun c => ?_, fun c => ?_⟩
  · rw [ti_lt, t200, ts] at c
    exact ⟨by decide, H0 (by omega)⟩
  · rw [ti_lt, t200, ts] at c
    exact ⟨by decide, H1 (by omega)⟩
end CRU
