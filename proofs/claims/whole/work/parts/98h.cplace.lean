/-! A RUN: the class's place to read -/
section CPL
variable {X : JX} {d : Nat} {Q : JQ} {h : JH} {W : Nat}
theorem c_placeToRead (h10 : 10 ≤ W) (h14 : W ≤ 14) {a : Int32} {pl : Int} (ea : a.toInt = pl) (p0 : -1000 ≤ pl) (p1 : pl ≤ 1000) (H : ∀ y : Int32, y.toInt = rpW W pl → Q (some (.int y)) h) : jex X (d + 2) 191 [.int (nI W), .int a] h Q := by
  have t2 : (2 : Int32).toInt = 2 := rfl
  have t3 : (3 : Int32).toInt = 3 := rfl
  rw [jE_X7_placeToRead]
  refine jT_X7_placeToRead_0 ?_
  rcases (show W = 10 ∨ W = 11 ∨ W = 12 ∨ W = 13 ∨ W = 14 by omega) with e | e | e | e | e <;> subst e
  · have : (2 * a).toInt = 2 * pl := (by simp only [Int32.toInt_add, Int32.toInt_sub, Int32.toInt_mul, Int32.toInt_neg, Int.bmod_def, tl, t4]; omega)
    exact jif_t (by decide) (H _ this)
  · have : (3 * a).toInt = 3 * pl := (by simp only [Int32.toInt_add, Int32.toInt_sub, Int32.toInt_mul, Int32.toInt_neg, Int.bmod_def, tl, t4]; omega)
    exact jif_n (by decide) (jif_t (by decide) (H _ this))
  · refine jif_n (by decide) (jif_n (by decide) (jif_t (by decide) ?_))
    refine c_floorDiv (by decide) ?_
    try dsimp only [jrI, jrN, jrA, jisr, jnul, jcat1]
    refine H _ ?_
    rw [t2, ea, zt (by omega) (by omega)]
    rfl
  · refine jif_n (by decide) (jif_n (by decide) (jif_n (by decide) (jif_t (by decide) ?_)))
    refine c_floorDiv (by decide) ?_
    try dsimp only [jrI, jrN, jrA, jisr, jnul, jcat1]
    refine H _ ?_
    rw [t3, ea, zt (by omega) (by omega)]
    rfl
  · have : (-1 - a).toInt = -1 - pl := (by simp only [Int32.toInt_add, Int32.toInt_sub, Int32.toInt_mul, Int32.toInt_neg, Int.bmod_def, tl, t4]; omega)
    exact jif_n (by decide) (jif_n (by decide) (jif_n (by decide) (jif_n (by decide) (H _ this))))
end CPL
