/-! A RUN: how far the moves go -/
/-- from x a move came to y -/
def MV (x y : S7) : Prop := -4096 ≤ zs y ∧ zs y ≤ 4096 ∧ 0 ≤ zh y ∧ zh y ≤ 4096 ∧ 0 ≤ zu y ∧ zu y ≤ 100000 ∧ 0 ≤ zv y ∧ zv y ≤ 100000 ∧ zsl x ≤ zsl y ∧ zsl y ≤ zsl x + 2 ∧ zhm x ≤ zhm y ∧ zhm y ≤ zhm x + 1
section BND
variable {x : S7} {hs ey : Int} {v : V6} {o : Option V6} {sl : SL}
theorem phair_b {st mo : Int} (c : (phair hs x st mo).1 = 0) : zs (phair hs x st mo).2 = zs x ∧ 0 ≤ zh (phair hs x st mo).2 ∧ zh (phair hs x st mo).2 ≤ 4096 ∧ zu (phair hs x st mo).2 = zu x ∧ zu x ≤ 999 ∧ zv (phair hs x st mo).2 ≤ 999 ∧ zv (phair hs x st mo).2 = hs + mo ∧ zsl (phair hs x st mo).2 = zsl x ∧ zhm (phair hs x st mo).2 = zhm x + 1 ∧ zpl (phair hs x st mo).2 = zpl x := by
  unfold phair at c ⊢
  by_cases q : st < 0 ∨ 4096 < st
  · rw [if_pos q] at c; exact absurd c (by show ¬ (5 : Int) = 0; decide)
  · rw [if_neg q] at c ⊢
    have c : jd (s7 (zs x) st (zu x) (hs + mo) (zsl x) (zhm x + 1) (zpl x)) = 0 := c
    have j : ¬ (999 < zu x ∨ 999 < hs + mo) := by
      intro w
      have c4 : jd (s7 (zs x) st (zu x) (hs + mo) (zsl x) (zhm x + 1) (zpl x)) = 4 := if_pos w
      exact absurd (c4.symm.trans c) (by decide)
    refine ⟨rfl, ?_, ?_, rfl, ?_, ?_, rfl, rfl, rfl, rfl⟩
    · show 0 ≤ st; omega
    · show st ≤ 4096; omega
    · omega
    · show hs + mo ≤ 999; omega
theorem pwT_b {pl : Int} {c : Option (Nat → Int)} {b : Bool} {f : Nat} {t : Bool} {y : S7} (w : (pwT ey pl c b f t v y).1 = 0) : (pwT ey pl c b f t v y).2.1 = y ∧ GV (pwT ey pl c b f t v y).2.2 := by
  unfold pwT at w ⊢
  cases c with
  | none => exact absurd w (by show ¬ (2 : Int) = 0; decide)
  | some fl =>
    by_cases q : lkW ey y b f t fl pl = 0
    · simp only [if_pos q]
      exact ⟨True.intro, GV_lk q⟩
    · simp only [if_neg q] at w
      exact absurd w q
theorem pw2_b {pl : Int} {c1 c2 : Option (Nat → Int)} {b1 b2 t2 : Bool} {f1 f2 : Nat} (gv : GV v) (be : BUn x) (h0 : 0 ≤ hs) (w1 : 1 ≤ f1) (w3 : f1 ≤ 3) (w : (pw2 hs ey pl c1 c2 b1 f1 b2 f2 t2 v x).1 = 0) : MV x (pw2 hs ey pl c1 c2 b1 f1 b2 f2 t2 v x).2.1 ∧ GV (pw2 hs ey pl c1 c2 b1 f1 b2 f2 t2 v x).2.2 := by
  obtain ⟨z1, z2, z3, z4, z5, z6, z7, z8, z9, z10, z11, z12⟩ := be
  unfold pw2 at w ⊢
  cases c1 with
  | none => exact absurd w (by show ¬ (2 : Int) = 0; decide)
  | some fl =>
    have lb := lse_b gv w1 w3
    by_cases q : (pset hs x (ct f1 false fl (vmk v f1)) b1 (lse v f1)).1 = 0
    · have bb := pset_b q
      have q5 : 0 ≤ (if b1 then 0 else zu x) := by split <;> omega
      simp only [if_pos q] at w ⊢
      have tb := pwT_b w
      rw [tb.1]
      refine ⟨?_, tb.2⟩
      unfold MV
      omega
    · simp only [if_neg q] at w
      exact absurd w q
theorem pwR_b {w : Int32} (gv : GV v) (be : BUn x) (h0 : 0 ≤ hs) (c : (pwR hs ey sl w v x).1 = 0) : MV x (pwR hs ey sl w v x).2.1 ∧ GV (pwR hs ey sl w v x).2.2 := by
  unfold pwR at c ⊢
  by_cases n6 : w = 6
  · simp only [if_pos n6] at c ⊢; exact pw2_b gv be h0 (by decide) (by decide) c
  · by_cases n7 : w = 7
    · simp only [if_neg n6, if_pos n7] at c ⊢; exact pw2_b gv be h0 (by decide) (by decide) c
    · by_cases n8 : w = 8
      · simp only [if_neg n6, if_neg n7, if_pos n8] at c ⊢; exact pw2_b gv be h0 (by decide) (by decide) c
      · by_cases n9 : w = 9
        · simp only [if_neg n6, if_neg n7, if_neg n8, if_pos n9] at c ⊢; exact pw2_b gv be h0 (by decide) (by decide) c
        · by_cases n10 : w = 10
          · simp only [if_neg n6, if_neg n7, if_neg n8, if_neg n9, if_pos n10] at c ⊢; exact pw2_b gv be h0 (by decide) (by decide) c
          · simp only [if_neg n6, if_neg n7, if_neg n8, if_neg n9, if_neg n10]
            obtain ⟨z1, z2, z3, z4, z5, z6, z7, z8, z9, z10, z11, z12⟩ := be
            refine ⟨?_, gv⟩
            unfold MV
            omega
theorem pwS_b {w : Int32} {s : Nat} (gvo : ∀ v, o = some v → GV v) (be : BUn x) (h0 : 0 ≤ hs) (c : (pwS hs ey sl w s o x).1 = 0) : MV x (pwS hs ey sl w s o x).2.1 ∧ GV (pwS hs ey sl w s o x).2.2 ∧ s ≠ 200 := by
  unfold pwS at c ⊢
  by_cases e : s = 200
  · rw [if_pos e] at c; exact absurd c (by show ¬ (1 : Int) = 0; decide)
  · rw [if_neg e] at c ⊢
    cases o with
    | none => exact absurd c (by show ¬ (6 : Int) = 0; decide)
    | some v =>
      have := pwR_b (gvo v rfl) be h0 c
      exact ⟨this.1, this.2, e⟩
/-- a hair move that holds, after slides -/
theorem pset_mv {y : S7} {C lo : Int} {bb : Bool} (s0 : -4096 ≤ zs y) (s1 : zs y ≤ 4096) (u0 : 0 ≤ zu y) (l0 : 0 ≤ lo) (h0 : 0 ≤ hs) (e1 : zsl x ≤ zsl y) (e2 : zsl y ≤ zsl x + 2) (e3 : zhm y = zhm x) (c : (pset hs y C bb lo).1 = 0) : MV x (pset hs y C bb lo).2 := by
  have b := pset_b c
  have q5 : 0 ≤ (if bb then 0 else zu y) := by split <;> omega
  unfold MV
  omega
theorem pmul2_mv {y : S7} {C pl lo : Int} (s0 : -4096 ≤ zs y) (s1 : zs y ≤ 4096) (u0 : 0 ≤ zu y) (l0 : 0 ≤ lo) (h0 : 0 ≤ hs) (e1 : zsl x ≤ zsl y) (e2 : zsl y ≤ zsl x + 1) (e3 : zhm y = zhm x) (c : (pmul2 hs y C pl lo).1 = 0) : MV x (pmul2 hs y C pl lo).2 ∧ (zpl (pmul2 hs y C pl lo).2 - (zpl y + pl) ≤ 1 ∧ -1 ≤ zpl (pmul2 hs y C pl lo).2 - (zpl y + pl)) := by
  unfold pmul2 at c ⊢
  have A : ∀ (dp a : Int), dp ≤ 1 → -1 ≤ dp → (thn (pslide (addp y dp) a (zu y + hs)) (fun z => pset hs (addp z pl) C false lo)).1 = 0 → MV x (thn (pslide (addp y dp) a (zu y + hs)) (fun z => pset hs (addp z pl) C false lo)).2 ∧ (zpl (thn (pslide (addp y dp) a (zu y + hs)) (fun z => pset hs (addp z pl) C false lo)).2 - (zpl y + pl) ≤ 1 ∧ -1 ≤ zpl (thn (pslide (addp y dp) a (zu y + hs)) (fun z => pset hs (addp z pl) C false lo)).2 - (zpl y + pl)) := by
    intro dp a d1 d2 w
    by_cases q : (pslide (addp y dp) a (zu y + hs)).1 = 0
    · have e : thn (pslide (addp y dp) a (zu y + hs)) (fun z => pset hs (addp z pl) C false lo) = pset hs (addp (pslide (addp y dp) a (zu y + hs)).2 pl) C false lo := if_pos q
      rw [e] at w ⊢
      have b := pslide_b q
      generalize (pslide (addp y dp) a (zu y + hs)).2 = y2 at *
      have a3 : zsl (addp y dp) = zsl y := rfl
      have a4 : zhm (addp y dp) = zhm y := rfl
      have a5 : zpl (addp y dp) = zpl y + dp := rfl
      have b1 : zs (addp y2 pl) = zs y2 := rfl
      have b2 : zu (addp y2 pl) = zu y2 := rfl
      have b3 : zsl (addp y2 pl) = zsl y2 := rfl
      have b4 : zhm (addp y2 pl) = zhm y2 := rfl
      have b5 : zpl (addp y2 pl) = zpl y2 + pl := rfl
      have pb := pset_b w
      exact ⟨pset_mv (by omega) (by omega) (by omega) l0 h0 (by omega) (by omega) (by omega) w, by omega, by omega⟩
    · have e : thn (pslide (addp y dp) a (zu y + hs)) (fun z => pset hs (addp z pl) C false lo) = pslide (addp y dp) a (zu y + hs) := if_neg q
      rw [e] at w
      exact absurd w q
  by_cases c1 : 4096 < C + zs y
  · rw [if_pos c1] at c ⊢
    exact A 1 _ (by decide) (by decide) c
  · rw [if_neg c1] at c ⊢
    by_cases c2 : C + zs y < 0
    · rw [if_pos c2] at c ⊢
      exact A (-1) _ (by decide) (by decide) c
    · rw [if_neg c2] at c ⊢
      have c : (pset hs (addp y pl) C false lo).1 = 0 := c
      have pb := pset_b c
      have b5 : zpl (addp y pl) = zpl y + pl := rfl
      have g : MV x (pset hs (addp y pl) C false lo).2 := pset_mv s0 s1 u0 l0 h0 e1 (show zsl y ≤ zsl x + 2 by omega) e3 c
      exact ⟨g, by show zpl (pset hs (addp y pl) C false lo).2 - (zpl y + pl) ≤ 1; omega, by show -1 ≤ zpl (pset hs (addp y pl) C false lo).2 - (zpl y + pl); omega⟩
theorem pmC_b {c : Option (Nat → Int)} {bh : Bool} (gv : GV v) (be : BUn x) (h0 : 0 ≤ hs) (w : (pmC hs c v bh x).1 = 0) : MV x (pmC hs c v bh x).2 ∧ (zpl (pmC hs c v bh x).2 - zpl x ≤ 110 ∧ -110 ≤ zpl (pmC hs c v bh x).2 - zpl x) := by
  obtain ⟨z1, z2, z3, z4, z5, z6, z7, z8, z9, z10, z11, z12⟩ := be
  have lb := lse_b gv (F := 1) (by decide) (by decide)
  have a := gv.1 0 (by decide)
  simp only [Nat.mul_zero, Nat.zero_add] at a
  unfold pmC at w ⊢
  by_cases q : (pmul1 hs x bh).1 = 0
  · have b : -4096 ≤ zs (pmul1 hs x bh).2 ∧ zs (pmul1 hs x bh).2 ≤ 4096 ∧ 0 ≤ zu (pmul1 hs x bh).2 ∧ zsl x ≤ zsl (pmul1 hs x bh).2 ∧ zsl (pmul1 hs x bh).2 ≤ zsl x + 1 ∧ zhm (pmul1 hs x bh).2 = zhm x ∧ zpl x ≤ zpl (pmul1 hs x bh).2 ∧ zpl (pmul1 hs x bh).2 ≤ zpl x + 1 := by
      cases bh with
      | false =>
        have e1 : pmul1 hs x false = pslide x (zh x) (zv x + hs) := rfl
        rw [e1] at q ⊢
        have := pslide_b q
        omega
      | true =>
        have e1 : (pmul1 hs x true).2 = if zs x < 0 then addp x 1 else x := rfl
        rw [e1]
        by_cases s : zs x < 0
        · rw [if_pos s]
          have a1 : zs (addp x 1) = zs x := rfl
          have a2 : zu (addp x 1) = zu x := rfl
          have a3 : zsl (addp x 1) = zsl x := rfl
          have a4 : zhm (addp x 1) = zhm x := rfl
          have a5 : zpl (addp x 1) = zpl x + 1 := rfl
          omega
        · rw [if_neg s]; omega
    cases c with
    | none =>
      unfold thn at w
      rw [if_pos q] at w
      exact absurd w (by show ¬ (2 : Int) = 0; decide)
    | some fl =>
      unfold thn at w ⊢
      rw [if_pos q] at w ⊢
      generalize (pmul1 hs x bh).2 = y at *
      have w : (pmul2 hs y (ct 1 false fl (vmk v 1)) (v 1) (lse v 1)).1 = 0 := w
      have r := pmul2_mv (x := x) (by omega) (by omega) (by omega) lb.1 h0 (by omega) (by omega) (by omega) w
      exact ⟨r.1, by show zpl (pmul2 hs y (ct 1 false fl (vmk v 1)) (v 1) (lse v 1)).2 - zpl x ≤ 110; omega, by show -110 ≤ zpl (pmul2 hs y (ct 1 false fl (vmk v 1)) (v 1) (lse v 1)).2 - zpl x; omega⟩
  · unfold thn at w
    rw [if_neg q] at w
    exact absurd w q
theorem pdC_b {c : Option (Nat → Int)} (gv : GV v) (be : BUn x) (h0 : 0 ≤ hs) (w : (pdC hs c v x).1 = 0) : MV x (pdC hs c v x).2 ∧ (zpl (pdC hs c v x).2 - zpl x ≤ 110 ∧ -110 ≤ zpl (pdC hs c v x).2 - zpl x) := by
  obtain ⟨z1, z2, z3, z4, z5, z6, z7, z8, z9, z10, z11, z12⟩ := be
  have lb := lse_b gv (F := 1) (by decide) (by decide)
  have a := gv.1 0 (by decide)
  simp only [Nat.mul_zero, Nat.zero_add] at a
  unfold pdC at w ⊢
  cases c with
  | none => exact absurd w (by show ¬ (2 : Int) = 0; decide)
  | some fl =>
    have w : (pdiv hs x (ct 1 false fl (vmk v 1)) (v 1) (lse v 1)).1 = 0 := w
    show MV x (pdiv hs x (ct 1 false fl (vmk v 1)) (v 1) (lse v 1)).2 ∧ (zpl (pdiv hs x (ct 1 false fl (vmk v 1)) (v 1) (lse v 1)).2 - zpl x ≤ 110 ∧ -110 ≤ zpl (pdiv hs x (ct 1 false fl (vmk v 1)) (v 1) (lse v 1)).2 - zpl x)
    unfold pdiv at w ⊢
    by_cases q : (pslide x (zh x - ct 1 false fl (vmk v 1)) (zv x + hs + lse v 1)).1 = 0
    · unfold thn at w ⊢
      simp only [if_pos q] at w ⊢
      have b := pslide_b q
      generalize (pslide x (zh x - ct 1 false fl (vmk v 1)) (zv x + hs + lse v 1)).2 = y at *
      by_cases s : zs y < 0
      · simp only [if_pos s] at w ⊢
        have p := phair_b w
        have a1 : zs (addp y (-(v 1) - 1)) = zs y := rfl
        have a2 : zu (addp y (-(v 1) - 1)) = zu y := rfl
        have a3 : zsl (addp y (-(v 1) - 1)) = zsl y := rfl
        have a4 : zhm (addp y (-(v 1) - 1)) = zhm y := rfl
        have a5 : zpl (addp y (-(v 1) - 1)) = zpl y + (-(v 1) - 1) := rfl
        unfold MV
        omega
      · simp only [if_neg s] at w ⊢
        have p := phair_b w
        have a1 : zs (addp y (-(v 1))) = zs y := rfl
        have a2 : zu (addp y (-(v 1))) = zu y := rfl
        have a3 : zsl (addp y (-(v 1))) = zsl y := rfl
        have a4 : zhm (addp y (-(v 1))) = zhm y := rfl
        have a5 : zpl (addp y (-(v 1))) = zpl y + (-(v 1)) := rfl
        unfold MV
        omega
    · unfold thn at w
      rw [if_neg q] at w
      exact absurd w q
end BND
