/-! A RUN: the class's let, token by token -/
def cA : List Nat := [54, 55, 56, 57, 58]
def cF : List (Nat × Nat) := [(24, 12), (24, 14), (24, 15), (24, 16)] ++ hF 6 ++ vO 51 ++ vO 52 ++ vO 53
def cFv : List (Nat × Nat) := cF ++ vAll
/-- the values kept are as they were -/
def KPs (h h1 : JH) (q : Nat) : Prop := ∀ i, i < 12 → ∀ w, w < 7 → fI h1 (kvo (51 - q) i) w = fI h (kvo (51 - q) i) w
theorem nmF {F : List (Nat × Nat)} {q : Nat × Nat} (h : F.contains q = false) : q ∉ F := fun m => by
  rw [List.contains_iff_mem.mpr m] at h
  exact absurd h (by decide)
section CLP
variable {X : JX} {d : Nat} {Q : JQ} {h h1 h2 : JH} {p q : Nat} {u : Nat → Int} {N K k cnt : Nat} {o1 : Option Value} {a2 a3 a4 a5 y : Int32} {c s : Nat}
theorem KPs_fr {A : List Nat} {F : List (Nat × Nat)} (kp : KPs h h1 q) (a : fr A F h1 h2) (hF : midF F = true) : KPs h h2 q := by
  intro i hi w hw
  have kr := kvo_r (q := 51 - q) hi
  rw [frI a (mid_n hF kr.1 kr.2) (by omega)]
  exact kp i hi w hw
theorem kvo_x {i j : Nat} (hq : q = 25 ∨ q = 26) : kvo (51 - q) i ≠ kvo q j := by
  rcases hq with e | e <;> subst e
  · show kvo 26 i ≠ kvo 25 j
    unfold kvo
    rw [if_neg (by decide), if_pos rfl]
    omega
  · show kvo 25 i ≠ kvo 26 j
    unfold kvo
    rw [if_pos rfl, if_neg (by decide)]
    omega
theorem l_brk (g : G h) (px : PXs h p u N K) (e2 : fV h 24 2 = .ref p) (hy : y ≠ 0) (H : ∀ o7, jB_X7_perform_278 X d Q 24 o1 a2 a3 a4 a5 y o7 h c s) {a7 : Int32} : jB_X7_perform_69 X d Q 24 o1 a2 a3 a4 a5 y a7 h c s := by
  have ob : obj h 24 7 := by simp only [gO g]
  refine jT_X7_perform_69 ⟨fun _ => ?_, fun _ => H _⟩
  rw [jgI_ob ob rfl, jgf_ob ob rfl, e2, jgI_ob (px_ob g px) rfl]
  exact ⟨fun _ => jif_n hy (H _), fun _ => H _⟩
theorem l_fin (g : G h) (px : PXs h p u N K) (e2 : fV h 24 2 = .ref p) (k4 : K ≤ 400) (ej : fI h 24 15 = nI K) (H : ∀ o7, jB_X7_perform_278 X d Q 24 o1 a2 a3 a4 a5 0 o7 h c s) {a7 : Int32} : jB_X7_perform_69 X d Q 24 o1 a2 a3 a4 a5 0 a7 h c s := by
  have ob : obj h 24 7 := by simp only [gO g]
  refine jT_X7_perform_69 ⟨fun _ => ?_, fun _ => H _⟩
  rw [jgI_ob ob rfl, ej, jgf_ob ob rfl, e2, jgI_ob (px_ob g px) rfl, px_n px]
  exact jif_n (nI_nlt (Nat.le_refl K) (by omega)) (H _)
theorem l_k4 (g : G h) (px : PXs h p u N K) (k4 : K ≤ 400) (e2 : fV h 24 2 = .ref p) (ej : fI h 24 15 = nI k) (hk : k < K) (hc : cnt < 1000000) (tk : tK u N k = 4) (H : jex X (d + 2) 165 [.ref 24] h (fun r h1 => jrI r fun x => jB_X7_perform_69 X (d + 2) Q 24 o1 a2 a3 a4 a5 x (nI (cnt + 1)) h1 c s)) : jB_X7_perform_69 X (d + 2) Q 24 o1 a2 a3 a4 a5 0 (nI cnt) h c s := by
  have ob : obj h 24 7 := by simp only [gO g]
  refine jT_X7_perform_69 (jif_t (nI_lt (b := 1000000) hc (by omega)) ?_); rw [jgI_ob ob rfl, ej, jgf_ob ob rfl, e2, jgI_ob (px_ob g px) rfl, px_n px]; refine jif_t (nI_lt hk (by omega)) (jif_t rfl ?_); rw [jgf_ob ob rfl, e2, jgI_ob ob rfl, ej, jrc_ob (px_ob g px)]; refine c_pkind (d := d) g px k4 rfl hk ?_; try dsimp only [jrI, jrN, jrA, jisr, jnul, jcat1]
  rw [tk]
  repeat (first | (refine jif_t (by decide) ?_) | (refine jif_n (by decide) ?_))
  rw [jrc_ob ob, nI_1]
  exact H
theorem l_k5 (g : G h) (px : PXs h p u N K) (k4 : K ≤ 400) (e2 : fV h 24 2 = .ref p) (ej : fI h 24 15 = nI k) (hk : k < K) (hc : cnt < 1000000) (tk : tK u N k = 5) (H : jex X (d + 2) 181 [.ref 24] h (fun r h1 => jrI r fun x => jB_X7_perform_69 X (d + 2) Q 24 o1 a2 a3 a4 a5 x (nI (cnt + 1)) h1 c s)) : jB_X7_perform_69 X (d + 2) Q 24 o1 a2 a3 a4 a5 0 (nI cnt) h c s := by
  have ob : obj h 24 7 := by simp only [gO g]
  refine jT_X7_perform_69 (jif_t (nI_lt (b := 1000000) hc (by omega)) ?_); rw [jgI_ob ob rfl, ej, jgf_ob ob rfl, e2, jgI_ob (px_ob g px) rfl, px_n px]; refine jif_t (nI_lt hk (by omega)) (jif_t rfl ?_); rw [jgf_ob ob rfl, e2, jgI_ob ob rfl, ej, jrc_ob (px_ob g px)]; refine c_pkind (d := d) g px k4 rfl hk ?_; try dsimp only [jrI, jrN, jrA, jisr, jnul, jcat1]
  rw [tk]
  repeat (first | (refine jif_t (by decide) ?_) | (refine jif_n (by decide) ?_))
  rw [jrc_ob ob, nI_1]
  exact H
theorem l_k6 (g : G h) (px : PXs h p u N K) (k4 : K ≤ 400) (e2 : fV h 24 2 = .ref p) (ej : fI h 24 15 = nI k) (hk : k < K) (hc : cnt < 1000000) (tk : tK u N k = 6) (H : jex X (d + 2) 187 [.ref 24] h (fun r h1 => jrI r fun x => jB_X7_perform_69 X (d + 2) Q 24 o1 a2 a3 a4 a5 x (nI (cnt + 1)) h1 c s)) : jB_X7_perform_69 X (d + 2) Q 24 o1 a2 a3 a4 a5 0 (nI cnt) h c s := by
  have ob : obj h 24 7 := by simp only [gO g]
  refine jT_X7_perform_69 (jif_t (nI_lt (b := 1000000) hc (by omega)) ?_); rw [jgI_ob ob rfl, ej, jgf_ob ob rfl, e2, jgI_ob (px_ob g px) rfl, px_n px]; refine jif_t (nI_lt hk (by omega)) (jif_t rfl ?_); rw [jgf_ob ob rfl, e2, jgI_ob ob rfl, ej, jrc_ob (px_ob g px)]; refine c_pkind (d := d) g px k4 rfl hk ?_; try dsimp only [jrI, jrN, jrA, jisr, jnul, jcat1]
  rw [tk]
  repeat (first | (refine jif_t (by decide) ?_) | (refine jif_n (by decide) ?_))
  rw [jrc_ob ob, nI_1]
  exact H
theorem l_k7 (g : G h) (px : PXs h p u N K) (k4 : K ≤ 400) (e2 : fV h 24 2 = .ref p) (ej : fI h 24 15 = nI k) (hk : k < K) (hc : cnt < 1000000) (tk : tK u N k = 7) (H : jex X (d + 2) 182 [.ref 24] h (fun r h1 => jrI r fun x => jB_X7_perform_69 X (d + 2) Q 24 o1 a2 a3 a4 a5 x (nI (cnt + 1)) h1 c s)) : jB_X7_perform_69 X (d + 2) Q 24 o1 a2 a3 a4 a5 0 (nI cnt) h c s := by
  have ob : obj h 24 7 := by simp only [gO g]
  refine jT_X7_perform_69 (jif_t (nI_lt (b := 1000000) hc (by omega)) ?_); rw [jgI_ob ob rfl, ej, jgf_ob ob rfl, e2, jgI_ob (px_ob g px) rfl, px_n px]; refine jif_t (nI_lt hk (by omega)) (jif_t rfl ?_); rw [jgf_ob ob rfl, e2, jgI_ob ob rfl, ej, jrc_ob (px_ob g px)]; refine c_pkind (d := d) g px k4 rfl hk ?_; try dsimp only [jrI, jrN, jrA, jisr, jnul, jcat1]
  rw [tk]
  repeat (first | (refine jif_t (by decide) ?_) | (refine jif_n (by decide) ?_))
  rw [jrc_ob ob, nI_1]
  exact H
theorem l_k15 (g : G h) (px : PXs h p u N K) (k4 : K ≤ 400) (e2 : fV h 24 2 = .ref p) (ej : fI h 24 15 = nI k) (hk : k < K) (hc : cnt < 1000000) (tk : tK u N k = 15) (H : jex X (d + 2) 167 [.ref 24] h (fun r h1 => jrI r fun x => jB_X7_perform_69 X (d + 2) Q 24 o1 a2 a3 a4 a5 x (nI (cnt + 1)) h1 c s)) : jB_X7_perform_69 X (d + 2) Q 24 o1 a2 a3 a4 a5 0 (nI cnt) h c s := by
  have ob : obj h 24 7 := by simp only [gO g]
  refine jT_X7_perform_69 (jif_t (nI_lt (b := 1000000) hc (by omega)) ?_); rw [jgI_ob ob rfl, ej, jgf_ob ob rfl, e2, jgI_ob (px_ob g px) rfl, px_n px]; refine jif_t (nI_lt hk (by omega)) (jif_t rfl ?_); rw [jgf_ob ob rfl, e2, jgI_ob ob rfl, ej, jrc_ob (px_ob g px)]; refine c_pkind (d := d) g px k4 rfl hk ?_; try dsimp only [jrI, jrN, jrA, jisr, jnul, jcat1]
  rw [tk]
  repeat (first | (refine jif_t (by decide) ?_) | (refine jif_n (by decide) ?_))
  rw [jrc_ob ob, nI_1]
  exact H
theorem l_kP (g : G h) (px : PXs h p u N K) (k4 : K ≤ 400) (e2 : fV h 24 2 = .ref p) (ej : fI h 24 15 = nI k) (hk : k < K) (hc : cnt < 1000000) (tk : tK u N k = 2 ∨ tK u N k = 3 ∨ (10 ≤ tK u N k ∧ tK u N k ≤ 14)) (H : jex X (d + 2) 188 [.ref 24] h (fun r h1 => jrI r fun x => jB_X7_perform_69 X (d + 2) Q 24 o1 a2 a3 a4 a5 x (nI (cnt + 1)) h1 c s)) : jB_X7_perform_69 X (d + 2) Q 24 o1 a2 a3 a4 a5 0 (nI cnt) h c s := by
  have ob : obj h 24 7 := by simp only [gO g]
  refine jT_X7_perform_69 (jif_t (nI_lt (b := 1000000) hc (by omega)) ?_); rw [jgI_ob ob rfl, ej, jgf_ob ob rfl, e2, jgI_ob (px_ob g px) rfl, px_n px]; refine jif_t (nI_lt hk (by omega)) (jif_t rfl ?_); rw [jgf_ob ob rfl, e2, jgI_ob ob rfl, ej, jrc_ob (px_ob g px)]; refine c_pkind (d := d) g px k4 rfl hk ?_; try dsimp only [jrI, jrN, jrA, jisr, jnul, jcat1]
  rcases (show tK u N k = 2 ∨ tK u N k = 3 ∨ tK u N k = 10 ∨ tK u N k = 11 ∨ tK u N k = 12 ∨ tK u N k = 13 ∨ tK u N k = 14 by omega) with tk | tk | tk | tk | tk | tk | tk
  all_goals
    rw [tk]
    repeat (first | (refine jif_t (by decide) ?_) | (refine jif_n (by decide) ?_))
    rw [jrc_ob ob, nI_1]
    exact H
theorem l_k19 (g : G h) (px : PXs h p u N K) (k4 : K ≤ 400) (e2 : fV h 24 2 = .ref p) (ej : fI h 24 15 = nI k) (hk : k < K) (hc : cnt < 1000000) (tk : tK u N k = 19 ∨ tK u N k = 20) (H : jB_X7_perform_69 X (d + 2) Q 24 o1 a2 a3 a4 a5 0 (nI (cnt + 1)) (sV h 24 15 (.int (nI (k + 1)))) c s) : jB_X7_perform_69 X (d + 2) Q 24 o1 a2 a3 a4 a5 0 (nI cnt) h c s := by
  have ob : obj h 24 7 := by simp only [gO g]
  refine jT_X7_perform_69 (jif_t (nI_lt (b := 1000000) hc (by omega)) ?_); rw [jgI_ob ob rfl, ej, jgf_ob ob rfl, e2, jgI_ob (px_ob g px) rfl, px_n px]; refine jif_t (nI_lt hk (by omega)) (jif_t rfl ?_); rw [jgf_ob ob rfl, e2, jgI_ob ob rfl, ej, jrc_ob (px_ob g px)]; refine c_pkind (d := d) g px k4 rfl hk ?_; try dsimp only [jrI, jrN, jrA, jisr, jnul, jcat1]
  rcases tk with tk | tk
  all_goals
    rw [tk]
    repeat (first | (refine jif_t (by decide) ?_) | (refine jif_n (by decide) ?_))
    rw [jgI_ob ob rfl, ej, jpI_ob ob rfl, nI_1, nI_1]
    exact H
theorem l_k9 (g : G h) (px : PXs h p u N K) (k4 : K ≤ 400) (e2 : fV h 24 2 = .ref p) (ej : fI h 24 15 = nI k) (hk : k < K) (hc : cnt < 1000000) (tk : tK u N k = 9) (cz : cl u N K k ≠ 0) (H : jB_X7_perform_69 X (d + 2) Q 24 o1 a2 a3 a4 a5 0 (nI (cnt + 1)) (sV h 24 15 (.int (nI (cl u N K k + 1)))) c s) : jB_X7_perform_69 X (d + 2) Q 24 o1 a2 a3 a4 a5 0 (nI cnt) h c s := by
  have ob : obj h 24 7 := by simp only [gO g]
  refine jT_X7_perform_69 (jif_t (nI_lt (b := 1000000) hc (by omega)) ?_); rw [jgI_ob ob rfl, ej, jgf_ob ob rfl, e2, jgI_ob (px_ob g px) rfl, px_n px]; refine jif_t (nI_lt hk (by omega)) (jif_t rfl ?_); rw [jgf_ob ob rfl, e2, jgI_ob ob rfl, ej, jrc_ob (px_ob g px)]; refine c_pkind (d := d) g px k4 rfl hk ?_; try dsimp only [jrI, jrN, jrA, jisr, jnul, jcat1]
  rw [tk]
  repeat (first | (refine jif_t (by decide) ?_) | (refine jif_n (by decide) ?_))
  rw [jgf_ob ob rfl, e2, jgI_ob ob rfl, ej, jrc_ob (px_ob g px)]
  refine c_psecond (d := d) g px k4 rfl hk (fun y _ _ yc => ?_)
  have yc := yc cz (by omega)
  subst yc
  try dsimp only [jrI, jrN, jrA, jisr, jnul, jcat1]
  rw [jpI_ob ob rfl, nI_1, nI_1]
  exact H
end CLP
section CLL
variable {X : JX} {d : Nat} {Q : JQ} {h : JH} {n : Nat} {m ρ τ f : Nat → Nat} {b t : Nat → Bool} {fl : Nat → Nat → Int} {r p q : Nat} {u : Nat → Int} {N K k cnt s : Nat} {td : Nat → Bool} {vl : Nat → V6} {x : S7} {hs ey pp B : Int} {o1 : Option Value} {a2 a3 a4 a5 : Int32} {c z : Nat}
set_option maxHeartbeats 4000000 in
theorem l_let (g : G h) (rb : RB h n m ρ τ b f t fl) (hr : r < n) (e62 : fV h 6 2 = .ref (ρ r)) (e0 : (fI h 6 0).toInt = hs) (h0 : 0 ≤ hs) (h20 : hs ≤ 20) (e1 : (fI h 6 1).toInt = ey) (y0 : 0 ≤ ey) (y40 : ey ≤ 40) (k4 : K ≤ 400) (o : OKt u N K) (ff : fin u N K) (z0 : (sft u N K).1 = 0) (px : PXs h p u N K) (e2 : fV h 24 2 = .ref p) (hq : q = 25 ∨ q = 26) (e4 : fV h 24 4 = .ref q) (cv : CVs h q td vl) (hx : HS h 6 (setp x pp)) (bx : BXs B s x) (b9 : 999 ≤ B) (p0 : -100000 ≤ pp) (p1 : pp ≤ 100000) (es : fI h 24 14 = nI s) (s2 : s ≤ 200) (ej : fI h 24 15 = nI k) (hk : k < K) (t4 : tK u N k = 4) (hcnt : cnt + (K - k) < 1000000) (HB : ∀ h2 (y a7 : Int32), fr cA cFv h h2 → KPs h h2 q → (s = 200 → y.toInt = 1) → (s ≠ 200 → (ltT hs ey (slf r (m r) b f t fl) u N K k s x td vl).1 ≠ 0 ∧ y.toInt = (ltT hs ey (slf r (m r) b f t fl) u N K k s x td vl).1) → fI h2 24 16 = nI k → jB_X7_perform_69 X (d + 5) Q 24 o1 a2 a3 a4 a5 y a7 h2 c z) (HN : s ≠ 200 → (ltT hs ey (slf r (m r) b f t fl) u N K k s x td vl).1 = 0 → ∀ h2 cnt', cnt' ≤ cnt + (cl u N K k + 1 - k) → fr cA cFv h h2 → KPs h h2 q → aF h2 58 = aF h 58 → HS h2 6 (ltT hs ey (slf r (m r) b f t fl) u N K k s x td vl).2.1 → fI h2 24 14 = nI (s + 1 + lmy u N K k) → fI h2 24 15 = nI (cl u N K k + 1) → CVs h2 q (upg td (nnum u N (k + 1)) true) (upg vl (nnum u N (k + 1)) (ltT hs ey (slf r (m r) b f t fl) u N K k s x td vl).2.2) → jB_X7_perform_69 X (d + 5) Q 24 o1 a2 a3 a4 a5 0 (nI cnt') h2 c z) : jB_X7_perform_69 X (d + 5) Q 24 o1 a2 a3 a4 a5 0 (nI cnt) h c z := by
  have naK := na_le (t := u) (N := N) K o
  obtain ⟨w1, w2, w3, wL, w6, wx, wo, wn, wna⟩ := let_end o ff hk t4
  have gv : ∀ c, c < 12 → td c = true → GV (vl c) := fun c hc w => ((cv c hc).2 w).1
  have nac := na_mono (t := u) (N := N) (j := cl u N K k) (k := K) (by omega)
  have elm : na u N k + lmy u N K k = na u N (cl u N K k) := by unfold lmy; omega
  have lm1 : 1 ≤ lmy u N K k := by unfold lmy; omega
  have at0 : ∀ j, j < lmy u N K k → atk u N (na u N k + j) < K ∧ isAt u N (atk u N (na u N k + j)) = true ∧ na u N (atk u N (na u N k + j)) = na u N k + j := fun j hj => atk_s (k := K) (by omega)
  have gvo : ∀ j, j < lmy u N K k → ∀ v, lO u N td vl k j = some v → GV v := fun j hj v e => GV_at gv o z0 (at0 j hj).1 (at0 j hj).2.1 e
  obtain ⟨t2, t16, X3, N3, c3⟩ := let_hd o ff hk t4
  have ov0 : lV u N k 0 = false := ovr_0 o ff hk t4
  have be' : BUn (setp x pp) := bx.1
  have zx1 : zsl (setp x pp) ≤ 900000 := by have := bx.2.1; show zsl x ≤ 900000; omega
  have zx2 : zhm (setp x pp) ≤ 900000 := by have := bx.2.2.1; show zhm x ≤ 900000; omega
  have SP := ltR_sp (hs := hs) (ey := ey) (sl := slf r (m r) b f t fl) (W := lW u N k) (O := lO u N td vl k) (ov := lV u N k) (s := s + 1) (x := x) (p := pp) (N := lmy u N K k)
  have eLT : ltT hs ey (slf r (m r) b f t fl) u N K k s x td vl = ltR hs ey (slf r (m r) b f t fl) (lW u N k) (lO u N td vl k) (lV u N k) (s + 1) x (lmy u N K k) := rfl
  rw [← eLT] at SP
  have LB := fun (ns : s ≠ 200) w => ltR_b (hs := hs) (ey := ey) (sl := slf r (m r) b f t fl) (W := lW u N k) (ov := lV u N k) (N := lmy u N K k) gvo lm1 (by omega) bx b9 h0 (show s + 1 ≤ 200 by omega) w
  rw [← eLT] at LB
  have KR : ∀ {A : List Nat} {F : List (Nat × Nat)} {h2 : JH}, fr A F h h2 → midF F = true → KPs h h2 q := fun k hF => KPs_fr (h1 := h) (fun _ _ _ _ => rfl) k hF
  refine l_k4 (d := d + 3) g px k4 e2 ej hk (by omega) t4 ?_
  refine c_beginLet (d := d + 3) g ej es s2 (fun ns h2 k2 f14 f15 f16 f12 => ?_) (fun e200 h2 k2 f16 => ?_)
  · have LPB := fun j hj w => ltp_b (hs := hs) (ey := ey) (sl := slf r (m r) b f t fl) (W := lW u N k) gvo be' zx1 zx2 h0 (show lmy u N K k ≤ 210 by omega) (show s + 1 ≤ 200 by omega) j hj w
    try dsimp only [jrI, jrN, jrA, jisr, jnul, jcat1]
    have L : ∀ (nn j i cnt' : Nat) (h2 : JH), cl u N K k - j < nn → k + 3 ≤ j → j ≤ cl u N K k → (xe u N j = 4 ∨ xe u N j = 6) → na u N j = na u N k + i → cnt' ≤ cnt + (j - k) → ((ltp hs ey (slf r (m r) b f t fl) (lW u N k) (lO u N td vl k) (s + 1) (setp x pp) i)).1 = 0 → fr raA cF h h2 → HS h2 6 ((ltp hs ey (slf r (m r) b f t fl) (lW u N k) (lO u N td vl k) (s + 1) (setp x pp) i)).2.1 → fI h2 24 14 = nI (s + 1 + i) → fI h2 24 12 = nI i → fI h2 24 15 = nI j → fI h2 24 16 = nI k → (∀ i', i' < i → ARs h2 i' (((ltp hs ey (slf r (m r) b f t fl) (lW u N k) (lO u N td vl k) (s + 1) (setp x pp) i)).2.2 i') (lV u N k i')) → jB_X7_perform_69 X (d + 5) Q 24 o1 a2 a3 a4 a5 0 (nI cnt') h2 c z := by
      intro nn
      induction nn with
      | zero => intro j i cnt' h2 hn; omega
      | succ nn ih =>
        intro j i cnt' h2 hn hj hjc xj naj hc' w k2 hx2 f14 f12 f15 f16 ar
        have g2 := G_fr g rfl k2
        have rb2 : RB h2 n m ρ τ b f t fl := RB_fr rb k2 (by decide)
        have px2 : PXs h2 p u N K := PX_fr px k2 (by decide) (by decide)
        have i2 : fV h2 24 2 = .ref p := by rw [frV k2 (by decide) (by decide)]; exact e2
        have i4 : fV h2 24 4 = .ref q := by rw [frV k2 (by decide) (by decide)]; exact e4
        have i62 : fV h2 6 2 = .ref (ρ r) := by rw [frV k2 (by decide) (by decide)]; exact e62
        have i0 : (fI h2 6 0).toInt = hs := by rw [frI k2 (by decide) (by decide)]; exact e0
        have i1 : (fI h2 6 1).toInt = ey := by rw [frI k2 (by decide) (by decide)]; exact e1
        have cv2 : CVs h2 q td vl := CVs_fr cv k2 (by decide)
        have kc : fr cA cFv h h2 := fr_mono (by decide) (fun _ w => List.mem_append_left _ w) k2
        have njc := na_mono (t := u) (N := N) hjc
        have il : i ≤ lmy u N K k := by omega
        obtain ⟨b1, b2, b3⟩ := LPB i il w
        have bu : BUn ((ltp hs ey (slf r (m r) b f t fl) (lW u N k) (lO u N td vl k) (s + 1) (setp x pp) i)).2.1 := BUn_L be' zx1 zx2 (by omega) b1
        rcases xj with xj | xj
        · obtain ⟨tok, u1, u2, ia, wd, tks, x6, nt, nt1⟩ := pow_in o w2 w6 hjc xj
          have nt1' := na_mono (t := u) (N := N) (j := tok + 1) (k := cl u N K k) (by omega)
          have ea : atk u N (na u N k + i) = tok := by
            have := atk_e ia
            rw [nt, naj] at this
            exact this
          have eW : lW u N k i = wrd u N tok := by show wrd u N (atk u N (na u N k + i)) = _; rw [ea]
          have eO : lO u N td vl k i = ato u N td vl tok := by show ato u N td vl (atk u N (na u N k + i)) = _; rw [ea]
          have eV : lV u N k i = ovr u N tok := by show ovr u N (atk u N (na u N k + i)) = _; rw [ea]
          have eP : (ltp hs ey (slf r (m r) b f t fl) (lW u N k) (lO u N td vl k) (s + 1) (setp x pp) (i + 1)) = ((pwS hs ey (slf r (m r) b f t fl) (lW u N k i) (s + 1 + i) (lO u N td vl k i) ((ltp hs ey (slf r (m r) b f t fl) (lW u N k) (lO u N td vl k) (s + 1) (setp x pp) i)).2.1).1, (pwS hs ey (slf r (m r) b f t fl) (lW u N k i) (s + 1 + i) (lO u N td vl k i) ((ltp hs ey (slf r (m r) b f t fl) (lW u N k) (lO u N td vl k) (s + 1) (setp x pp) i)).2.1).2.1, fun k' => if k' = i then (pwS hs ey (slf r (m r) b f t fl) (lW u N k i) (s + 1 + i) (lO u N td vl k i) ((ltp hs ey (slf r (m r) b f t fl) (lW u N k) (lO u N td vl k) (s + 1) (setp x pp) i)).2.1).2.2 else ((ltp hs ey (slf r (m r) b f t fl) (lW u N k) (lO u N td vl k) (s + 1) (setp x pp) i)).2.2 k') := if_pos w
          rw [eW, eO] at eP
          refine l_kP (d := d + 3) g2 px2 k4 i2 f15 (by omega) (by omega) tks ?_
          refine c_raise (d := d) g2 rb2 hr i62 hx2 bu i0 h0 h20 i1 y0 y40 px2 k4 o z0 i2 hq i4 cv2 (show 1 ≤ j by omega) u1 (by omega) ia wd f14 b3 f15 f12 (by omega) rfl (fun zz h3 k3 hx3 f14' f12' f15' ar3 am => ?_) (fun zz h3 k3 y hy => ?_)
          · have w2 : ((ltp hs ey (slf r (m r) b f t fl) (lW u N k) (lO u N td vl k) (s + 1) (setp x pp) (i + 1))).1 = 0 := by rw [eP]; exact zz
            have k3' : fr raA cF h2 h3 := fr_mono (fun _ w => w) (by decide) k3
            try dsimp only [jrI, jrN, jrA, jisr, jnul, jcat1]
            refine ih (tok + 1) (i + 1) (cnt' + 1) h3 (by omega) (by omega) (by omega) (Or.inr x6) (by omega) (by omega) w2 (fr_trans k2 k3') (by rw [eP]; exact hx3) f14' f12' f15' (by rw [frI k3 (by decide) (by decide)]; exact f16) (fun i' hi' => ?_)
            rw [eP]
            show ARs h3 i' (if i' = i then (pwS hs ey (slf r (m r) b f t fl) (wrd u N tok) (s + 1 + i) (ato u N td vl tok) ((ltp hs ey (slf r (m r) b f t fl) (lW u N k) (lO u N td vl k) (s + 1) (setp x pp) i)).2.1).2.2 else ((ltp hs ey (slf r (m r) b f t fl) (lW u N k) (lO u N td vl k) (s + 1) (setp x pp) i)).2.2 i') (lV u N k i')
            by_cases e : i' = i
            · rw [if_pos e, e, eV]; exact ar3
            · rw [if_neg e]
              have a0 := ar i' (by omega)
              obtain ⟨m1, m2, m3, m4⟩ := am i' e
              unfold ARs
              rw [m1, m2, m3, m4]
              exact a0
          · have w2 : ((ltp hs ey (slf r (m r) b f t fl) (lW u N k) (lO u N td vl k) (s + 1) (setp x pp) (i + 1))).1 ≠ 0 := by rw [eP]; exact zz
            have up := ltp_up w2 (lmy u N K k - (i + 1))
            rw [show i + 1 + (lmy u N K k - (i + 1)) = lmy u N K k by omega] at up
            have e1' : (ltR hs ey (slf r (m r) b f t fl) (lW u N k) (lO u N td vl k) (lV u N k) (s + 1) (setp x pp) (lmy u N K k)).1 = (pwS hs ey (slf r (m r) b f t fl) (wrd u N tok) (s + 1 + i) (ato u N td vl tok) ((ltp hs ey (slf r (m r) b f t fl) (lW u N k) (lO u N td vl k) (s + 1) (setp x pp) i)).2.1).1 := by
              unfold ltR
              rw [up, if_neg w2, eP]
            have e2' := SP.1.symm.trans e1'
            have k3' : fr raA cF h2 h3 := fr_mono (fun _ w => w) (by decide) k3
            have k03 := fr_trans k2 k3'
            try dsimp only [jrI, jrN, jrA, jisr, jnul, jcat1]
            exact HB h3 y _ (fr_mono (by decide) (fun _ w => List.mem_append_left _ w) k03) (KR k03 (by decide)) (fun e => absurd e ns) (fun _ => ⟨by rw [e2']; exact zz, by rw [e2']; exact hy⟩) (by rw [frI k3 (by decide) (by decide)]; exact f16)
        · rcases sgn_in o (show j < K by omega) xj with ⟨c15, x1j⟩ | ⟨tks, x4, nj1⟩
          · have ejc : j = cl u N K k := by
              refine Classical.byContradiction (fun ne => ?_)
              have := (wL (j + 1) (by omega) (by omega)).2.1
              omega
            have ei : i = lmy u N K k := by
              unfold lmy
              rw [← ejc]
              omega
            subst ei
            have zp : zpl ((ltp hs ey (slf r (m r) b f t fl) (lW u N k) (lO u N td vl k) (s + 1) (setp x pp) (lmy u N K k))).2.1 = pp := by rw [ltp_sp]; rfl
            have e15 : fI h2 24 15 = nI (cl u N K k) := by rw [← ejc]; exact f15
            have n12 := (hft_0 (o (k + 1) (by omega))).2.2.1 t2
            have kr := kvo_r (q := q) n12
            refine l_k15 (d := d + 3) g2 px2 k4 i2 f15 (by omega) (by omega) c15 ?_
            have LL : BUn ((ltp hs ey (slf r (m r) b f t fl) (lW u N k) (lO u N td vl k) (s + 1) (setp x pp) (lmy u N K k))).2.1 ∧ zsl ((ltp hs ey (slf r (m r) b f t fl) (lW u N k) (lO u N td vl k) (s + 1) (setp x pp) (lmy u N K k))).2.1 ≤ 940000 ∧ zhm ((ltp hs ey (slf r (m r) b f t fl) (lW u N k) (lO u N td vl k) (s + 1) (setp x pp) (lmy u N K k))).2.1 ≤ 940000 := by
              refine ⟨bu, ?_, ?_⟩
              · unfold LV at b1; omega
              · unfold LV at b1; omega
            refine c_endLet (d := d) (vs := ((ltp hs ey (slf r (m r) b f t fl) (lW u N k) (lO u N td vl k) (s + 1) (setp x pp) (lmy u N K k))).2.2) (ov := lV u N k) (xx := setp x pp) g2 rb2 hr i62 hx2 LL.1 LL.2.1 LL.2.2 (by rw [zp]; omega) (by rw [zp]; omega) i0 h0 h20 i1 y0 y40 f12 lm1 (by omega) ar b2 ov0 px2 k4 o i2 hq i4 f16 (by omega) t2 e15 (z := ltR hs ey (slf r (m r) b f t fl) (lW u N k) (lO u N td vl k) (lV u N k) (s + 1) (setp x pp) (lmy u N K k)) (by unfold ltR; rw [if_pos w]) (fun zz h3 k3 hx3 f15' vb t1 => ?_) (fun zz h3 k3 y hy => ?_)
            · rw [SP.1] at zz
              have q2 := SP.2 zz
              rw [q2] at hx3 vb
              obtain ⟨v1, v2, v3, v4, v5⟩ := LB ns zz
              have sub : ∀ y, y ∈ elF (kvo q (nnum u N (k + 1))) → y ∈ cFv := by
                intro y hy
                unfold elF at hy
                rcases List.mem_cons.mp hy with e | e
                · rw [e]; exact List.mem_append_left _ (by decide)
                · rcases List.mem_append.mp e with e | e
                  · exact List.mem_append_left _ ((show ∀ y, y ∈ hF 6 → y ∈ cF by decide) y e)
                  · refine List.mem_append_right _ ?_
                    unfold vO at e
                    simp only [List.mem_cons, List.not_mem_nil, or_false] at e
                    rcases e with e | e | e | e | e | e | e <;> rw [e] <;> exact vAll_m n12 (by decide)
              have kc3 : fr cA cFv h h3 := fr_trans kc (fr_mono (by decide) sub k3)
              have kp2 : KPs h h2 q := KR k2 (by decide)
              have EN : ∀ {a c : Nat}, 27 ≤ a → a ≤ 50 → a ≠ kvo q (nnum u N (k + 1)) → (a, c) ∉ elF (kvo q (nnum u N (k + 1))) := fun q1 q2 q3 => elF_n q3 (mid_n (by decide) q1 q2)
              try dsimp only [jrI, jrN, jrA, jisr, jnul, jcat1]
              refine HN ns zz h3 (cnt' + 1) (by omega) kc3 (fun i hi w hw => ?_) ?_ hx3 ?_ f15' (fun i hi => ?_)
              · have kr2 := kvo_r (q := 51 - q) hi
                rw [frI k3 (EN kr2.1 kr2.2 (kvo_x hq)) (by omega)]
                exact kp2 i hi w hw
              · rw [frF k3 (by decide), frF k2 (by decide)]
              · rw [frI k3 (elF_n (by omega) (by decide)) (by decide)]; exact f14
              · by_cases e : i = nnum u N (k + 1)
                · subst e
                  rw [upg_s, upg_s]
                  exact ⟨t1, fun _ => ⟨v2, vb⟩⟩
                · rw [upg_n e, upg_n e]
                  have kr2 := kvo_r (q := q) hi
                  have ne : kvo q i ≠ kvo q (nnum u N (k + 1)) := fun w => e (kvo_inj w)
                  obtain ⟨c1, c2⟩ := cv2 i hi
                  exact ⟨by rw [frI k3 (EN kr2.1 kr2.2 ne) (by omega)]; exact c1, fun w => ⟨(c2 w).1, VBo_fr (c2 w).2 k3 (fun k => EN kr2.1 kr2.2 ne) (by omega)⟩⟩
            · rw [SP.1] at zz hy
              have sub : ∀ y, y ∈ elF (kvo q (nnum u N (k + 1))) → y ∈ cFv := by
                intro y hy
                unfold elF at hy
                rcases List.mem_cons.mp hy with e | e
                · rw [e]; exact List.mem_append_left _ (by decide)
                · rcases List.mem_append.mp e with e | e
                  · exact List.mem_append_left _ ((show ∀ y, y ∈ hF 6 → y ∈ cF by decide) y e)
                  · refine List.mem_append_right _ ?_
                    unfold vO at e
                    simp only [List.mem_cons, List.not_mem_nil, or_false] at e
                    rcases e with e | e | e | e | e | e | e <;> rw [e] <;> exact vAll_m n12 (by decide)
              have kc3 : fr cA cFv h h3 := fr_trans kc (fr_mono (by decide) sub k3)
              have kp2 : KPs h h2 q := KR k2 (by decide)
              try dsimp only [jrI, jrN, jrA, jisr, jnul, jcat1]
              refine HB h3 y _ kc3 (fun i hi w hw => ?_) (fun e => absurd e ns) (fun _ => ⟨zz, hy⟩) (by rw [frI k3 (elF_n (by omega) (by decide)) (by decide)]; exact f16)
              have kr2 := kvo_r (q := 51 - q) hi
              rw [frI k3 (elF_n (kvo_x hq) (mid_n (by decide) kr2.1 kr2.2)) (by omega)]
              exact kp2 i hi w hw
          · have jc : j ≠ cl u N K k := fun e => by rw [← e] at w3; omega
            refine l_k19 (d := d + 3) g2 px2 k4 i2 f15 (by omega) (by omega) tks ?_
            have k3 : fr [] [(24, 15)] h2 (sV h2 24 15 (.int (nI (j + 1)))) := fr_sV (by decide) fr_rfl
            have q15 : fI (sV h2 24 15 (.int (nI (j + 1)))) 24 15 = nI (j + 1) := fI_sV (c := 7) (by simp only [gO g2]) rfl
            generalize sV h2 24 15 (.int (nI (j + 1))) = h3 at *
            refine ih (j + 1) i (cnt' + 1) h3 (by omega) (by omega) (by omega) (Or.inl x4) (by omega) (by omega) w (fr_trans k2 (fr_mono (by decide) (by decide) k3)) (HS_fr hx2 k3 (by decide) (by decide) (by decide) (by decide) (by decide) (by decide) (by decide)) (by rw [frI k3 (by decide) (by decide)]; exact f14) (by rw [frI k3 (by decide) (by decide)]; exact f12) q15 (by rw [frI k3 (by decide) (by decide)]; exact f16) (fun i' hi' => ?_)
            unfold ARs
            rw [frF k3 (by decide), frF k3 (by decide), frF k3 (by decide), frF k3 (by decide)]
            exact ar i' hi'
    refine L (cl u N K k + 1) (k + 3) 0 (cnt + 1) h2 (by omega) (Nat.le_refl _) c3 (Or.inl X3) (by omega) (by omega) rfl (fr_mono (by decide) (by decide) k2) (HS_fr hx k2 (by decide) (by decide) (by decide) (by decide) (by decide) (by decide) (by decide)) f14 f12 f15 f16 (fun i' hi' => absurd hi' (Nat.not_lt_zero _))
  · try dsimp only [jrI, jrN, jrA, jisr, jnul, jcat1]
    refine HB h2 1 _ (fr_mono (by decide) (fun y hy => List.mem_append_left _ ((show ∀ y, y ∈ blF → y ∈ cF by decide) y hy)) k2) (KR k2 (by decide)) (fun _ => rfl) (fun w => absurd e200 w) f16
end CLL
