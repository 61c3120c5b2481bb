/-! A RUN: the model compares -/
def lsV (v u : V6) (i j : Nat) : Bool := if v (2 * i + 1) = u (2 * j + 1) then decide (v (2 * i) < u (2 * j)) else decide (v (2 * i + 1) < u (2 * j + 1))
def alV (v u : V6) (i j : Nat) : Bool := decide (v (2 * i) = u (2 * j)) && decide (v (2 * i + 1) = u (2 * j + 1))
/-- a comparison holds: 0 less, 1 surely less, 2 same, 3 surely same -/
def hdV (cd : Nat) (v u : V6) : Bool := if cd = 0 then lsV v u 0 0 else if cd = 1 then lsV v u 2 1 else if cd = 2 then alV v u 0 0 else alV v v 1 2 && (alV v u 1 1 && alV v u 1 2)
section MHO
variable {X : JX} {d : Nat} {Q : JQ} {h : JH} {v u : V6} {P1 I P2 J : Nat} {a1 a2 a3 a4 : Int32}
theorem l_ix (hP : P1 < 2) (hI : I < 3) : 6 * nI P1 + 2 * nI I = nI (6 * P1 + 2 * I) ∧ vp_in (nI (6 * P1 + 2 * I)) 1260 ∧ (nI (6 * P1 + 2 * I)).toNatClampNeg = 6 * P1 + 2 * I ∧ vp_in (nI (6 * P1 + 2 * I + 1)) 1260 ∧ (nI (6 * P1 + 2 * I + 1)).toNatClampNeg = 6 * P1 + 2 * I + 1 := by
  refine ⟨?_, ?_, nI_clamp (by omega), ?_, nI_clamp (by omega)⟩
  · rw [show 6 * nI P1 = nI (6 * P1) from pk_mul 6 P1, show 2 * nI I = nI (2 * I) from pk_mul 2 I, nI_add]
  · rw [vp_inI, nI_toInt (by omega)]; omega
  · rw [vp_inI, nI_toInt (by omega)]; omega
theorem c_isLess (g : G h) (p1 : PW h P1 v) (p2 : PW h P2 u) (h1 : P1 < 2) (hI : I < 3) (h2 : P2 < 2) (hJ : J < 3) (e1 : a1 = nI P1) (e2 : a2 = nI I) (e3 : a3 = nI P2) (e4 : a4 = nI J) (H : Q (some (.int (bi (lsV v u I J)))) h) : jex X (d + 1) 215 [.ref 81, .int a1, .int a2, .int a3, .int a4] h Q := by
  subst e1 e2 e3 e4
  obtain ⟨x1, x2, x3, x4, x5⟩ := l_ix h1 hI
  obtain ⟨y1, y2, y3, y4, y5⟩ := l_ix h2 hJ
  have v0 : (aF h 111 (6 * P1 + 2 * I)).toInt = v (2 * I) := p1 (2 * I) (by omega)
  have v1 : (aF h 111 (6 * P1 + 2 * I + 1)).toInt = v (2 * I + 1) := p1 (2 * I + 1) (by omega)
  have u0 : (aF h 111 (6 * P2 + 2 * J)).toInt = u (2 * J) := p2 (2 * J) (by omega)
  have u1 : (aF h 111 (6 * P2 + 2 * J + 1)).toInt = u (2 * J + 1) := p2 (2 * J + 1) (by omega)
  rw [jE_X12_isLess]
  refine jT_X12_isLess_0 ?_
  simp (decide := true) only [jgf_ob (c := 12), gM g, gN g, jaI_ar (p := 111) (n := 1260), x1, x2, x3, x4, x5, y1, y2, y3, y4, y5, nI_1, true_and]
  have B1 : ∀ w : Bool, lsV v u I J = w → Q (some (.int (bi w))) h := fun w e => by rw [← e]; exact H
  unfold lsV at B1
  refine ⟨fun c => ?_, fun c => ?_⟩
  · rw [ti_eq, v1, u1] at c
    rw [if_pos c] at B1
    refine ⟨fun c2 => ?_, fun c2 => ?_⟩
    · rw [ti_lt, v0, u0] at c2
      exact B1 true (decide_eq_true c2)
    · rw [ti_lt, v0, u0] at c2
      exact B1 false (decide_eq_false c2)
  · rw [ti_eq, v1, u1] at c
    rw [if_neg c] at B1
    refine ⟨fun c2 => ?_, fun c2 => ?_⟩
    · rw [ti_lt, v1, u1] at c2
      exact B1 true (decide_eq_true c2)
    · rw [ti_lt, v1, u1] at c2
      exact B1 false (decide_eq_false c2)
theorem c_alike (g : G h) (p1 : PW h P1 v) (p2 : PW h P2 u) (h1 : P1 < 2) (hI : I < 3) (h2 : P2 < 2) (hJ : J < 3) (e1 : a1 = nI P1) (e2 : a2 = nI I) (e3 : a3 = nI P2) (e4 : a4 = nI J) (H : Q (some (.int (bi (alV v u I J)))) h) : jex X (d + 1) 216 [.ref 81, .int a1, .int a2, .int a3, .int a4] h Q := by
  subst e1 e2 e3 e4
  obtain ⟨x1, x2, x3, x4, x5⟩ := l_ix h1 hI
  obtain ⟨y1, y2, y3, y4, y5⟩ := l_ix h2 hJ
  have v0 : (aF h 111 (6 * P1 + 2 * I)).toInt = v (2 * I) := p1 (2 * I) (by omega)
  have v1 : (aF h 111 (6 * P1 + 2 * I + 1)).toInt = v (2 * I + 1) := p1 (2 * I + 1) (by omega)
  have u0 : (aF h 111 (6 * P2 + 2 * J)).toInt = u (2 * J) := p2 (2 * J) (by omega)
  have u1 : (aF h 111 (6 * P2 + 2 * J + 1)).toInt = u (2 * J + 1) := p2 (2 * J + 1) (by omega)
  rw [jE_X12_alike]
  refine jT_X12_alike_0 ?_
  simp (decide := true) only [jgf_ob (c := 12), gM g, gN g, jaI_ar (p := 111) (n := 1260), x1, x2, x3, x4, x5, y1, y2, y3, y4, y5, nI_1, true_and]
  have B1 : ∀ w : Bool, alV v u I J = w → Q (some (.int (bi w))) h := fun w e => by rw [← e]; exact H
  unfold alV at B1
  refine ⟨fun c => ?_, fun c => ?_⟩
  · rw [ti_eq, v0, u0] at c
    rw [decide_eq_true c, Bool.true_and] at B1
    refine ⟨fun c2 => ?_, fun c2 => ?_⟩
    · rw [ti_eq, v1, u1] at c2
      exact B1 true (decide_eq_true c2)
    · rw [ti_eq, v1, u1] at c2
      exact B1 false (decide_eq_false c2)
  · rw [ti_eq, v0, u0] at c
    rw [decide_eq_false c, Bool.false_and] at B1
    exact B1 false rfl
theorem c_holds (g : G h) (p1 : PW h 0 v) (p2 : PW h 1 u) {cd : Nat} (hc : cd < 4) (H : Q (some (.int (bi (hdV cd v u)))) h) : jex X (d + 2) 214 [.ref 81, .int (nI cd)] h Q := by
  have B1 : ∀ w : Bool, hdV cd v u = w → ((bi w : Int32) &&& 1 = bi w ∧ Q (some (.int (bi w))) h) := fun w e => by rw [← e]; exact ⟨by cases hdV cd v u <;> decide, H⟩
  rw [jE_X12_holds]
  refine jT_X12_holds_0 ?_
  rcases (show cd = 0 ∨ cd = 1 ∨ cd = 2 ∨ cd = 3 by omega) with e | e | e | e <;> subst e
  · refine ⟨by decide, jif_n (by decide) (jT_X12_holds_12 (jif_t (by decide) (jif_t (by decide) (jif_t (by decide) ?_))))⟩
    rw [jrc_ob (by simp only [gM g])]
    refine c_isLess (d := d) g p1 p2 (by decide) (I := 0) (by decide) (by decide) (J := 0) (by decide) rfl rfl rfl rfl ?_
    try dsimp only [jrI, jrN, jrA, jisr, jnul, jcat1]
    exact B1 _ rfl
  · refine ⟨by decide, jif_t (by decide) (jT_X12_holds_12 (jif_t (by decide) (jif_n (by decide) (jif_n (by decide) ?_))))⟩
    rw [jrc_ob (by simp only [gM g])]
    refine c_isLess (d := d) g p1 p2 (by decide) (I := 2) (by decide) (by decide) (J := 1) (by decide) rfl rfl rfl rfl ?_
    try dsimp only [jrI, jrN, jrA, jisr, jnul, jcat1]
    exact B1 _ rfl
  · refine ⟨by decide, jif_n (by decide) (jT_X12_holds_12 (jif_n (by decide) (jif_t (by decide) ?_)))⟩
    rw [jrc_ob (by simp only [gM g])]
    refine c_alike (d := d) g p1 p2 (by decide) (I := 0) (by decide) (by decide) (J := 0) (by decide) rfl rfl rfl rfl ?_
    try dsimp only [jrI, jrN, jrA, jisr, jnul, jcat1]
    exact B1 _ rfl
  · refine ⟨by decide, jif_t (by decide) (jT_X12_holds_12 (jif_n (by decide) (jif_n (by decide) ?_)))⟩
    have e3 : hdV 3 v u = (alV v v 1 2 && (alV v u 1 1 && alV v u 1 2)) := rfl
    rw [e3] at B1
    rw [jrc_ob (by simp only [gM g])]
    refine c_alike (d := d) g p1 p1 (by decide) (I := 1) (by decide) (by decide) (J := 2) (by decide) rfl rfl rfl rfl ?_
    try dsimp only [jrI, jrN, jrA, jisr, jnul, jcat1]
    cases ea : alV v v 1 2 with
    | false => rw [ea] at B1; exact jif_t rfl (B1 false rfl)
    | true =>
      rw [ea, Bool.true_and] at B1
      refine jif_n (by decide) ?_
      rw [jrc_ob (by simp only [gM g])]
      refine c_alike (d := d) g p1 p2 (by decide) (I := 1) (by decide) (by decide) (J := 1) (by decide) rfl rfl rfl rfl ?_
      try dsimp only [jrI, jrN, jrA, jisr, jnul, jcat1]
      cases eb : alV v u 1 1 with
      | false => rw [eb] at B1; exact jif_t rfl (B1 false rfl)
      | true =>
        rw [eb, Bool.true_and] at B1
        refine jif_n (by decide) ?_
        rw [jrc_ob (by simp only [gM g])]
        refine c_alike (d := d) g p1 p2 (by decide) (I := 1) (by decide) (by decide) (J := 2) (by decide) rfl rfl rfl rfl ?_
        try dsimp only [jrI, jrN, jrA, jisr, jnul, jcat1]
        cases ec : alV v u 1 2 with
        | false => exact jif_t rfl (B1 false ec)
        | true => exact jif_n (by decide) (B1 true ec)
end MHO
