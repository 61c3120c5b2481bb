/-! A RUN: the class compares values -/
/-- a value's object -/
def VBo (h : JH) (q : Nat) (v : V6) : Prop := obj h q 10 ∧ ∀ w, w < 6 → (fI h q (w + 1)).toInt = v w
section CVA
variable {X : JX} {d : Nat} {Q : JQ} {h : JH} {p q : Nat} {v u : V6}
theorem c_below {a0 a1 a2 a3 : Int32} {w0 w1 w2 w3 : Int} (e0 : a0.toInt = w0) (e1 : a1.toInt = w1) (e2 : a2.toInt = w2) (e3 : a3.toInt = w3) (H : Q (some (.int (bi (if w1 = w3 then decide (w0 < w2) else decide (w1 < w3))))) h) : jex X (d + 1) 184 [.int a0, .int a1, .int a2, .int a3] h Q := by
  rw [jE_X10_isBelow]
  refine jT_X10_isBelow_0 ?_
  refine ⟨fun c => ?_, fun c => ⟨fun c2 => ⟨fun c3 => ?_, fun c3 => ?_⟩, fun c2 => ?_⟩⟩
  · rw [ti_lt, e1, e3] at c
    rw [if_neg (by omega), decide_eq_true c] at H
    exact ⟨by decide, H⟩
  · rw [ti_eq, e1, e3] at c2
    rw [ti_lt, e0, e2] at c3
    rw [if_pos c2, decide_eq_true c3] at H
    exact ⟨by decide, H⟩
  · rw [ti_eq, e1, e3] at c2
    rw [ti_lt, e0, e2] at c3
    rw [if_pos c2, decide_eq_false c3] at H
    exact ⟨by decide, H⟩
  · rw [ti_lt, e1, e3] at c
    rw [ti_eq, e1, e3] at c2
    rw [if_neg c2, decide_eq_false c] at H
    exact ⟨by decide, H⟩
theorem c_vLess (vp : VBo h p v) (vq : VBo h q u) {k : Bool} (H : Q (some (.int (bi (if k then lsV v u 2 1 else lsV v u 0 0)))) h) : jex X (d + 2) 183 [.ref p, .ref q, .int (bi k)] h Q := by
  obtain ⟨o1, f1⟩ := vp
  obtain ⟨o2, f2⟩ := vq
  have bt : ∀ w : Bool, (bi w : Int32) &&& 1 = bi w := by intro w; cases w <;> decide
  rw [jE_X10_isLess]
  refine jT_X10_isLess_0 ?_
  cases k with
  | false =>
    refine jif_t (by decide) ?_
    rw [jgI_ob (c := 10) o1 rfl, jgI_ob (c := 10) o1 rfl]
    try dsimp only [jisr]
    rw [jgI_ob (c := 10) o2 rfl]
    try dsimp only [jisr]
    rw [jgI_ob (c := 10) o2 rfl]
    refine c_below (f1 0 (by decide)) (f1 1 (by decide)) (f2 0 (by decide)) (f2 1 (by decide)) ?_
    try dsimp only [jrI, jrN, jrA, jisr, jnul, jcat1]
    exact ⟨bt _, H⟩
  | true =>
    refine jif_n (by decide) ?_
    rw [jgI_ob (c := 10) o1 rfl, jgI_ob (c := 10) o1 rfl]
    try dsimp only [jisr]
    rw [jgI_ob (c := 10) o2 rfl]
    try dsimp only [jisr]
    rw [jgI_ob (c := 10) o2 rfl]
    refine c_below (f1 4 (by decide)) (f1 5 (by decide)) (f2 2 (by decide)) (f2 3 (by decide)) ?_
    try dsimp only [jrI, jrN, jrA, jisr, jnul, jcat1]
    exact ⟨bt _, H⟩
theorem c_vSure (vp : VBo h p v) (H : Q (some (.int (bi (alV v v 1 2)))) h) : jex X (d + 1) 186 [.ref p] h Q := by
  obtain ⟨o1, f1⟩ := vp
  have B1 : ∀ w : Bool, alV v v 1 2 = w → Q (some (.int (bi w))) h := fun w e => by rw [← e]; exact H
  have g2 : (fI h p 3).toInt = v (2 * 1) := f1 2 (by decide)
  have g3 : (fI h p 4).toInt = v (2 * 1 + 1) := f1 3 (by decide)
  have g4 : (fI h p 5).toInt = v (2 * 2) := f1 4 (by decide)
  have g5 : (fI h p 6).toInt = v (2 * 2 + 1) := f1 5 (by decide)
  unfold alV at B1
  rw [jE_X10_isSure]
  refine jT_X10_isSure_0 ?_
  rw [jgI_ob (c := 10) o1 rfl, jgI_ob (c := 10) o1 rfl]
  refine ⟨fun c => ?_, fun c => ?_⟩
  · rw [ti_eq, g2, g4] at c
    rw [jgI_ob (c := 10) o1 rfl, jgI_ob (c := 10) o1 rfl]
    rw [decide_eq_true c, Bool.true_and] at B1
    refine ⟨fun c2 => ?_, fun c2 => ?_⟩
    · rw [ti_eq, g3, g5] at c2
      exact ⟨by decide, B1 true (decide_eq_true c2)⟩
    · rw [ti_eq, g3, g5] at c2
      exact ⟨by decide, B1 false (decide_eq_false c2)⟩
  · rw [ti_eq, g2, g4] at c
    rw [decide_eq_false c, Bool.false_and] at B1
    exact ⟨by decide, B1 false rfl⟩
theorem al_sym : alV v v 1 2 = true → (alV u u 1 2 && alV v u 1 1) = (alV v u 1 1 && alV v u 1 2) := by
  intro a
  unfold alV at *
  rw [Bool.and_eq_true] at a
  have a1 := of_decide_eq_true a.1
  have a2 := of_decide_eq_true a.2
  by_cases c1 : v (2 * 1) = u (2 * 1)
  · by_cases c2 : v (2 * 1 + 1) = u (2 * 1 + 1)
    · rw [decide_eq_true c1, decide_eq_true c2, c1, c2, Bool.true_and, Bool.true_and, Bool.and_true]
    · rw [decide_eq_false c2, Bool.and_false, Bool.and_false, Bool.false_and]
  · rw [decide_eq_false c1, Bool.false_and, Bool.and_false, Bool.false_and]
theorem c_vSame (vp : VBo h p v) (vq : VBo h q u) {k : Bool} (H : Q (some (.int (bi (if k then (alV v v 1 2 && (alV v u 1 1 && alV v u 1 2)) else alV v u 0 0)))) h) : jex X (d + 2) 185 [.ref p, .ref q, .int (bi k)] h Q := by
  obtain ⟨o1, f1⟩ := id vp
  obtain ⟨o2, f2⟩ := id vq
  rw [jE_X10_isSame]
  refine jT_X10_isSame_0 ?_
  cases k with
  | false =>
    have B1 : ∀ w : Bool, alV v u 0 0 = w → Q (some (.int (bi w))) h := fun w e => by rw [← e]; exact H
    have g0 : (fI h p 1).toInt = v (2 * 0) := f1 0 (by decide)
    have g1 : (fI h p 2).toInt = v (2 * 0 + 1) := f1 1 (by decide)
    have k0 : (fI h q 1).toInt = u (2 * 0) := f2 0 (by decide)
    have k1 : (fI h q 2).toInt = u (2 * 0 + 1) := f2 1 (by decide)
    unfold alV at B1
    refine jif_t (by decide) ?_
    rw [jgI_ob (c := 10) o1 rfl]
    try dsimp only [jisr]
    rw [jgI_ob (c := 10) o2 rfl]
    refine ⟨fun c => ?_, fun c => ?_⟩
    · rw [ti_eq, g0, k0] at c
      rw [jgI_ob (c := 10) o1 rfl]
      try dsimp only [jisr]
      rw [jgI_ob (c := 10) o2 rfl]
      rw [decide_eq_true c, Bool.true_and] at B1
      refine ⟨fun c2 => ?_, fun c2 => ?_⟩
      · rw [ti_eq, g1, k1] at c2
        exact ⟨by decide, B1 true (decide_eq_true c2)⟩
      · rw [ti_eq, g1, k1] at c2
        exact ⟨by decide, B1 false (decide_eq_false c2)⟩
    · rw [ti_eq, g0, k0] at c
      rw [decide_eq_false c, Bool.false_and] at B1
      exact ⟨by decide, B1 false rfl⟩
  | true =>
    have B1 : ∀ w : Bool, (alV v v 1 2 && (alV v u 1 1 && alV v u 1 2)) = w → Q (some (.int (bi w))) h := fun w e => by rw [← e]; exact H
    refine jif_n (by decide) ?_
    rw [jrc_ob o1]
    refine c_vSure (d := d) vp ?_
    try dsimp only [jrI, jrN, jrA, jisr, jnul, jcat1]
    cases ea : alV v v 1 2 with
    | false =>
      rw [ea, Bool.false_and] at B1
      exact jif_t rfl ⟨by decide, B1 false rfl⟩
    | true =>
      rw [← al_sym ea, ea, Bool.true_and] at B1
      refine jif_n (by decide) ?_
      rw [jrc_ob o2]
      refine c_vSure (d := d) vq ?_
      try dsimp only [jrI, jrN, jrA, jisr, jnul, jcat1]
      cases eb : alV u u 1 2 with
      | false =>
        rw [eb, Bool.false_and] at B1
        exact jif_t rfl ⟨by decide, B1 false rfl⟩
      | true =>
        rw [eb, Bool.true_and] at B1
        have g0 : (fI h p 3).toInt = v (2 * 1) := f1 2 (by decide)
        have g1 : (fI h p 4).toInt = v (2 * 1 + 1) := f1 3 (by decide)
        have k0 : (fI h q 3).toInt = u (2 * 1) := f2 2 (by decide)
        have k1 : (fI h q 4).toInt = u (2 * 1 + 1) := f2 3 (by decide)
        unfold alV at B1
        refine jif_n (by decide) ?_
        rw [jgI_ob (c := 10) o1 rfl]
        try dsimp only [jisr]
        rw [jgI_ob (c := 10) o2 rfl]
        refine ⟨fun c => ?_, fun c => ?_⟩
        · rw [ti_eq, g0, k0] at c
          rw [jgI_ob (c := 10) o1 rfl]
          try dsimp only [jisr]
          rw [jgI_ob (c := 10) o2 rfl]
          rw [decide_eq_true c, Bool.true_and] at B1
          refine ⟨fun c2 => ?_, fun c2 => ?_⟩
          · rw [ti_eq, g1, k1] at c2
            exact ⟨by decide, B1 true (decide_eq_true c2)⟩
          · rw [ti_eq, g1, k1] at c2
            exact ⟨by decide, B1 false (decide_eq_false c2)⟩
        · rw [ti_eq, g0, k0] at c
          rw [decide_eq_false c, Bool.false_and] at B1
          exact ⟨by decide, B1 false rfl⟩
end CVA
