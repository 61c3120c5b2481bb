/-! A RUN: the class's words of powers -/
def sbW (W : Nat) : Bool := decide (W ≠ 14)
def sfW (W : Nat) : Nat := if W = 12 then 2 else if W = 13 then 3 else 1
def rfW (W : Nat) : Nat := if W = 10 then 2 else if W = 11 then 3 else 1
def rtW (W : Nat) : Bool := decide (W = 14)
def rpW (W : Nat) (pl : Int) : Int := if W = 10 then 2 * pl else if W = 11 then 3 * pl else if W = 12 then pl / 2 else if W = 13 then pl / 3 else -1 - pl
theorem pwR_W {hs ey : Int} {sl : SL} {W : Nat} {v : V6} {x : S7} (h10 : 10 ≤ W) (h14 : W ≤ 14) : pwR hs ey sl (nI (W - 4)) v x = pw2 hs ey (rpW W (v 1)) (sl (sbW W) (sfW W) false) (sl (sbW W) (rfW W) (rtW W)) (sbW W) (sfW W) (sbW W) (rfW W) (rtW W) v x := by
  rcases (show W = 10 ∨ W = 11 ∨ W = 12 ∨ W = 13 ∨ W = 14 by omega) with e | e | e | e | e <;> subst e <;> rfl
section CWD
variable {X : JX} {d : Nat} {Q : JQ} {h : JH} {n : Nat} {m ρ τ f : Nat → Nat} {b t : Nat → Bool} {fl : Nat → Nat → Int} {r W : Nat}
theorem c_scaleToSet (g : G h) (rb : RB h n m ρ τ b f t fl) (hr : r < n) (e62 : fV h 6 2 = .ref (ρ r)) (h10 : 10 ≤ W) (h14 : W ≤ 14) (H1 : ∀ k flk, 126 ≤ τ k → SC h (τ k) (sbW W) (sfW W) false flk → slf r (m r) b f t fl (sbW W) (sfW W) false = some flk → Q (some (.ref (τ k))) h) (H0 : slf r (m r) b f t fl (sbW W) (sfW W) false = none → Q (some .null) h) : jex X (d + 3) 189 [.ref 24, .int (nI W)] h Q := by
  have ob : obj h 24 7 := by simp only [gO g]
  rw [jE_X7_scaleToSet]
  refine jT_X7_scaleToSet_0 ?_
  rcases (show W = 10 ∨ W = 11 ∨ W = 12 ∨ W = 13 ∨ W = 14 by omega) with e | e | e | e | e <;> subst e
  · refine jif_n (by decide) (jif_n (by decide) (jif_n (by decide) ?_))
    rw [jrc_ob ob]
    change jex X (d + 2) 169 [.ref 24, .int (nI 1)] h _
    refine c_onBody g rb hr e62 (by decide) (fun k flk z sc e => ?_) (fun e => ?_)
    · try dsimp only [jrI, jrN, jrA, jisr, jnul, jcat1]
      exact H1 k flk z sc e
    · try dsimp only [jrI, jrN, jrA, jisr, jnul, jcat1]
      exact H0 e
  · refine jif_n (by decide) (jif_n (by decide) (jif_n (by decide) ?_))
    rw [jrc_ob ob]
    change jex X (d + 2) 169 [.ref 24, .int (nI 1)] h _
    refine c_onBody g rb hr e62 (by decide) (fun k flk z sc e => ?_) (fun e => ?_)
    · try dsimp only [jrI, jrN, jrA, jisr, jnul, jcat1]
      exact H1 k flk z sc e
    · try dsimp only [jrI, jrN, jrA, jisr, jnul, jcat1]
      exact H0 e
  · refine jif_t (by decide) ?_
    rw [jrc_ob ob]
    change jex X (d + 2) 169 [.ref 24, .int (nI 2)] h _
    refine c_onBody g rb hr e62 (by decide) (fun k flk z sc e => ?_) (fun e => ?_)
    · try dsimp only [jrI, jrN, jrA, jisr, jnul, jcat1]
      exact H1 k flk z sc e
    · try dsimp only [jrI, jrN, jrA, jisr, jnul, jcat1]
      exact H0 e
  · refine jif_n (by decide) (jif_t (by decide) ?_)
    rw [jrc_ob ob]
    change jex X (d + 2) 169 [.ref 24, .int (nI 3)] h _
    refine c_onBody g rb hr e62 (by decide) (fun k flk z sc e => ?_) (fun e => ?_)
    · try dsimp only [jrI, jrN, jrA, jisr, jnul, jcat1]
      exact H1 k flk z sc e
    · try dsimp only [jrI, jrN, jrA, jisr, jnul, jcat1]
      exact H0 e
  · refine jif_n (by decide) (jif_n (by decide) (jif_t (by decide) ?_))
    rw [jrc_ob ob]
    change jex X (d + 2) 173 [.ref 24, .int (bi false)] h _
    refine c_onSlide g rb hr e62 (fun k flk z sc e => ?_) (fun e => ?_)
    · try dsimp only [jrI, jrN, jrA, jisr, jnul, jcat1]
      exact H1 k flk z sc e
    · try dsimp only [jrI, jrN, jrA, jisr, jnul, jcat1]
      exact H0 e
theorem c_scaleToRead (g : G h) (rb : RB h n m ρ τ b f t fl) (hr : r < n) (e62 : fV h 6 2 = .ref (ρ r)) (h10 : 10 ≤ W) (h14 : W ≤ 14) (H1 : ∀ k flk, 126 ≤ τ k → SC h (τ k) (sbW W) (rfW W) (rtW W) flk → slf r (m r) b f t fl (sbW W) (rfW W) (rtW W) = some flk → Q (some (.ref (τ k))) h) (H0 : slf r (m r) b f t fl (sbW W) (rfW W) (rtW W) = none → Q (some .null) h) : jex X (d + 3) 190 [.ref 24, .int (nI W)] h Q := by
  have ob : obj h 24 7 := by simp only [gO g]
  rw [jE_X7_scaleToRead]
  refine jT_X7_scaleToRead_0 ?_
  rcases (show W = 10 ∨ W = 11 ∨ W = 12 ∨ W = 13 ∨ W = 14 by omega) with e | e | e | e | e <;> subst e
  · refine jif_t (by decide) ?_
    rw [jrc_ob ob]
    change jex X (d + 2) 169 [.ref 24, .int (nI 2)] h _
    refine c_onBody g rb hr e62 (by decide) (fun k flk z sc e => ?_) (fun e => ?_)
    · try dsimp only [jrI, jrN, jrA, jisr, jnul, jcat1]
      exact H1 k flk z sc e
    · try dsimp only [jrI, jrN, jrA, jisr, jnul, jcat1]
      exact H0 e
  · refine jif_n (by decide) (jif_t (by decide) ?_)
    rw [jrc_ob ob]
    change jex X (d + 2) 169 [.ref 24, .int (nI 3)] h _
    refine c_onBody g rb hr e62 (by decide) (fun k flk z sc e => ?_) (fun e => ?_)
    · try dsimp only [jrI, jrN, jrA, jisr, jnul, jcat1]
      exact H1 k flk z sc e
    · try dsimp only [jrI, jrN, jrA, jisr, jnul, jcat1]
      exact H0 e
  · refine jif_n (by decide) (jif_n (by decide) (jif_t (by decide) ?_))
    rw [jrc_ob ob]
    change jex X (d + 2) 169 [.ref 24, .int (nI 1)] h _
    refine c_onBody g rb hr e62 (by decide) (fun k flk z sc e => ?_) (fun e => ?_)
    · try dsimp only [jrI, jrN, jrA, jisr, jnul, jcat1]
      exact H1 k flk z sc e
    · try dsimp only [jrI, jrN, jrA, jisr, jnul, jcat1]
      exact H0 e
  · refine jif_n (by decide) (jif_n (by decide) (jif_n (by decide) (jif_t (by decide) ?_)))
    rw [jrc_ob ob]
    change jex X (d + 2) 169 [.ref 24, .int (nI 1)] h _
    refine c_onBody g rb hr e62 (by decide) (fun k flk z sc e => ?_) (fun e => ?_)
    · try dsimp only [jrI, jrN, jrA, jisr, jnul, jcat1]
      exact H1 k flk z sc e
    · try dsimp only [jrI, jrN, jrA, jisr, jnul, jcat1]
      exact H0 e
  · refine jif_n (by decide) (jif_n (by decide) (jif_n (by decide) (jif_n (by decide) (jif_t (by decide) ?_))))
    rw [jrc_ob ob]
    change jex X (d + 2) 173 [.ref 24, .int (bi true)] h _
    refine c_onSlide g rb hr e62 (fun k flk z sc e => ?_) (fun e => ?_)
    · try dsimp only [jrI, jrN, jrA, jisr, jnul, jcat1]
      exact H1 k flk z sc e
    · try dsimp only [jrI, jrN, jrA, jisr, jnul, jcat1]
      exact H0 e
end CWD
