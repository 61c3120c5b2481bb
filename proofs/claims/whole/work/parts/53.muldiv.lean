/-! MULTIPLYING AND DIVIDING: the class -/
section MDV
variable {X : JX} {d : Nat} {Q : JQ} {h : JH} {p τ n : Nat} {fl : Nat → Int} {x : S7} {hs : Int}
theorem BE_BD (b : BE x) : BD x := by
  unfold BE at b
  unfold BD
  omega
def setp (x : S7) (q : Int) : S7 := s7 (zs x) (zh x) (zu x) (zv x) (zsl x) (zhm x) q
theorem c_mark0 {m : Int32} (m0 : 100 ≤ m.toInt) (m1 : m.toInt ≤ 999) (hn : (n : Int) = m.toInt - 100) (H : ∀ r : Int32, r.toInt = n → Q (some (.int r)) h) : jex X (d + 1) 116 [.int 0, .int m] h Q := by
  refine c_markFor (by decide) (by omega) (fun r hr => H r ?_)
  rw [hr, show (0 : Int32).toInt = 0 from rfl]
  omega
theorem HS_p {h1 : JH} {a : Int32} {q : Int} (ho : obj h p 2) (hx : HS h p x) (ea : a.toInt = q) (e : h1 = sV h p 10 (.int a)) : HS h1 p (setp x q) ∧ fr [] (hF p) h h1 := by
  obtain ⟨x1, x2, x3, x4, x5, x6, x7⟩ := hx
  subst e
  refine ⟨?_, fr_h (by decide) (by decide) fr_rfl⟩
  unfold HS
  simp (decide := true) only [jgI_ob, jgf_ob, jgL_ob, jpI_ob, jpL_ob, jpR_ob, jpN_ob, jrc_ob, obj_sV, obj_wF, obj_wG, obj_wR, arr_sV, arr_wF, arr_wG, arr_wR, arL_sV, arL_wF, arL_wG, arL_wR, arR_sV, arR_wF, arR_wG, arR_wR, fI_sV (c := 0), fI_sV (c := 1), fI_sV (c := 2), fI_sV (c := 4), fI_sV (c := 5), fI_sV (c := 7), fI_sV (c := 8), fI_sV (c := 9), fI_sV (c := 10), fI_sV (c := 11), fI_sV (c := 12), fI_sV (c := 6), fL_sV (c := 9), fL_sV (c := 12), fI_sV_k, fL_sV_k, fV_sV_k, fI_wF, fI_wG, fI_wR, fL_wF, fL_wG, fL_wR, fV_wF, fV_wG, fV_wR, aF_sV, aG_sV, aR_sV, aF_wG, aF_wR, aG_wF, aG_wR, aR_wF, aR_wG, ho]
  exact ⟨x1, x2, x3, x4, x5, x6, ea⟩
theorem c_startWith (g : G h) (hp6 : p = 6 ∨ p = 63) (ho : obj h p 2) (sc : SC h τ true 1 false fl) (hx : HS h p x) (bd : BE x) (e0 : (fI h p 0).toInt = hs) (h0 : 0 ≤ hs) (h20 : hs ≤ 20) {m e lo : Int32} (m0 : 100 ≤ m.toInt) (m1 : m.toInt ≤ 999) (hn : (n : Int) = m.toInt - 100) (q0 : -1000 ≤ e.toInt) (q1 : e.toInt ≤ 1000) (l0 : 0 ≤ lo.toInt) (l1 : lo.toInt ≤ 10000000) (H : ∀ (h' : JH) (r : Int32), fr [] (hF p) h h' → r.toInt = (pset hs (setp x e.toInt) (ct 1 false fl n) true lo.toInt).1 → HS h' p (pset hs (setp x e.toInt) (ct 1 false fl n) true lo.toInt).2 → Q (some (.int r)) h') : jex X (d + 3) 171 [.ref p, .ref τ, .int m, .int e, .int lo] h Q := by
  rw [jE_X2_startWith]
  refine jT_X2_startWith_0 ?_
  try dsimp only [jrI, jrN, jrA, jisr, jnul, jcat1]
  rw [jpI_ob ho rfl]
  refine (fun S : (∀ hh, hh = _ → jex X (d + 2) 116 [.int 0, .int m] hh _) => S _ rfl) (fun hh e1 => ?_)
  obtain ⟨hx', k⟩ := HS_p (q := e.toInt) ho hx rfl e1
  have ho' : obj hh p 2 := by rw [e1, obj_sV]; exact ho
  have e0' : (fI hh p 0).toInt = hs := by rw [e1, fI_sV_k (by decide)]; exact e0
  have g' : G hh := G_fr g (by rcases hp6 with q | q <;> subst q <;> rfl) k
  have sc' := SC_h ho sc k
  have bd' : BD (setp x e.toInt) := by
    unfold BE at bd
    unfold BD setp
    simp only [zs, zh, zu, zv, zsl, zhm, zpl, s7] at *
    omega
  clear e1
  refine c_mark0 m0 m1 hn (fun r hr => ?_)
  try dsimp only [jrI, jrN, jrA, jisr, jnul, jcat1]
  rw [jrc_ob ho']
  refine k_bring g' ho' sc' hx' bd' e0' h0 h20 hr (by omega) l0 l1 (fun h2 r2 k2 hr2 hx2 => ?_)
  exact H h2 r2 (fr_trans k k2) hr2 hx2
theorem c_divide (g : G h) (hp6 : p = 6 ∨ p = 63) (ho : obj h p 2) (sc : SC h τ false 1 false fl) (hx : HS h p x) (bd : BE x) (e0 : (fI h p 0).toInt = hs) (h0 : 0 ≤ hs) (h20 : hs ≤ 20) {m e lo : Int32} (m0 : 100 ≤ m.toInt) (m1 : m.toInt ≤ 999) (hn : (n : Int) = m.toInt - 100) (q0 : -1000 ≤ e.toInt) (q1 : e.toInt ≤ 1000) (l0 : 0 ≤ lo.toInt) (l1 : lo.toInt ≤ 10000000) (H : ∀ (h' : JH) (r : Int32), fr [] (hF p) h h' → r.toInt = (pdiv hs x (ct 1 false fl n) e.toInt lo.toInt).1 → HS h' p (pdiv hs x (ct 1 false fl n) e.toInt lo.toInt).2 → Q (some (.int r)) h') : jex X (d + 3) 174 [.ref p, .ref τ, .int m, .int e, .int lo] h Q := by
  have FL := sc.2.2.2.2.2.2.2.2.2.2
  have cr := ct_rg (f := 1) (t := false) FL (by decide) (show n ≤ 900 * 1 by omega)
  have tr := tp_rg (f := 1) (t := false) (by decide) (show n ≤ 900 * 1 by omega)
  have bD := BE_BD bd
  rw [jE_X2_divide]
  refine jT_X2_divide_0 ?_
  try dsimp only [jrI, jrN, jrA, jisr, jnul, jcat1]
  refine c_mark0 m0 m1 hn (fun r hr => ?_)
  try dsimp only [jrI, jrN, jrA, jisr, jnul, jcat1]
  rw [jrc_ob sc.1]
  refine c_cutPlace g sc hr (by omega) (fun y hy => ?_)
  try dsimp only [jrI, jrN, jrA, jisr, jnul, jcat1]
  rw [jrc_ob ho]
  unfold pdiv at H
  refine k_bslide ho hx bD e0 h0 h20 hy (by omega) (by omega) rfl l0 l1 (fun h1 w k hw hx1 => ?_)
  try dsimp only [jrI, jrN, jrA, jisr, jnul, jcat1]
  have ho1 : obj h1 p 2 := by rw [frO k]; exact ho
  have g1 : G h1 := G_fr g (by rcases hp6 with q | q <;> subst q <;> rfl) k
  have e01 : (fI h1 p 0).toInt = hs := by rw [frI k (hF_n (Or.inr (by decide))) (fun c => by omega)]; exact e0
  generalize hr1 : pslide x (zh x - ct 1 false fl n) (zv x + hs + lo.toInt) = r1 at H hw hx1
  unfold thn at H
  refine ⟨fun c => ?_, fun c => ?_⟩
  · rw [ti_eq, hw, show (0 : Int32).toInt = 0 from rfl] at c
    rw [if_pos c] at H
    dsimp only at H
    -- where the slide stands now
    have hb : -4096 ≤ zs r1.2 ∧ zs r1.2 ≤ 4096 ∧ zh r1.2 = zh x ∧ zu r1.2 = zv x + hs + lo.toInt ∧ zv r1.2 = zv x ∧ zsl r1.2 = zsl x + 1 ∧ zhm r1.2 = zhm x ∧ zpl r1.2 = zpl x := by
      rw [← hr1] at c ⊢
      unfold pslide at c ⊢
      by_cases q : zh x - ct 1 false fl n < -4096 ∨ 4096 < zh x - ct 1 false fl n
      · rw [if_pos q] at c; omega
      · rw [if_neg q]
        refine ⟨?_, ?_, rfl, rfl, rfl, rfl, rfl, rfl⟩
        · show -4096 ≤ zh x - ct 1 false fl n; omega
        · show zh x - ct 1 false fl n ≤ 4096; omega
    obtain ⟨y1, y2, y3, y4, y5, y6, y7⟩ := id hx1
    have bdx := bd
    unfold BE at bdx
    have m10 : (fI h1 p 10 - e).toInt = zpl r1.2 - e.toInt := (by simp only [Int32.toInt_add, Int32.toInt_sub, Int32.toInt_mul, Int32.toInt_neg, Int.bmod_def, tl]; omega)
    simp (decide := true) only [jgI_ob, jgf_ob, jgL_ob, jpI_ob, jpL_ob, jpR_ob, jpN_ob, jrc_ob, obj_sV, obj_wF, obj_wG, obj_wR, arr_sV, arr_wF, arr_wG, arr_wR, arL_sV, arL_wF, arL_wG, arL_wR, arR_sV, arR_wF, arR_wG, arR_wR, fI_sV (c := 0), fI_sV (c := 1), fI_sV (c := 2), fI_sV (c := 4), fI_sV (c := 5), fI_sV (c := 7), fI_sV (c := 8), fI_sV (c := 9), fI_sV (c := 10), fI_sV (c := 11), fI_sV (c := 12), fI_sV (c := 6), fL_sV (c := 9), fL_sV (c := 12), fI_sV_k, fL_sV_k, fV_sV_k, fI_wF, fI_wG, fI_wR, fL_wF, fL_wG, fL_wR, fV_wF, fV_wG, fV_wR, aF_sV, aG_sV, aR_sV, aF_wG, aF_wR, aG_wF, aG_wR, aR_wF, aR_wG, ho1, ti_lt, tl]
    refine ⟨fun c1 => ?_, fun c1 => ?_⟩
    · rw [y1] at c1
      rw [if_pos c1] at H
      refine (fun S : (∀ hh, hh = _ → jex X (d + 2) 144 [.ref p, .int (fI h1 p 4 + 4096), .int (fI h1 p 6)] hh fun r29 h28 => (jrI r29 fun x30 => (jrc h28 (.ref p) 2 (jex X (d + 2) 172 [.ref p, .int x30] h28 fun r32 h31 => (jrI r32 fun x33 => (Q (some (.int x33)) h31)))))) => S _ rfl) (fun hh e1 => ?_)
      have m11 : (fI h1 p 10 - e - 1).toInt = zpl r1.2 + (-e.toInt - 1) := by
        generalize fI h1 p 10 - e = w2 at m10; exact (by simp only [Int32.toInt_add, Int32.toInt_sub, Int32.toInt_mul, Int32.toInt_neg, Int.bmod_def, tl]; omega)
      have k1 : fr [] (hF p) h1 hh := by rw [e1]; exact fr_h (by decide) (by decide) (fr_h (by decide) (by decide) fr_rfl)
      have hx2 : HS hh p (addp r1.2 (-e.toInt - 1)) := by
        rw [e1]
        unfold HS
        simp (decide := true) only [jgI_ob, jgf_ob, jgL_ob, jpI_ob, jpL_ob, jpR_ob, jpN_ob, jrc_ob, obj_sV, obj_wF, obj_wG, obj_wR, arr_sV, arr_wF, arr_wG, arr_wR, arL_sV, arL_wF, arL_wG, arL_wR, arR_sV, arR_wF, arR_wG, arR_wR, fI_sV (c := 0), fI_sV (c := 1), fI_sV (c := 2), fI_sV (c := 4), fI_sV (c := 5), fI_sV (c := 7), fI_sV (c := 8), fI_sV (c := 9), fI_sV (c := 10), fI_sV (c := 11), fI_sV (c := 12), fI_sV (c := 6), fL_sV (c := 9), fL_sV (c := 12), fI_sV_k, fL_sV_k, fV_sV_k, fI_wF, fI_wG, fI_wR, fL_wF, fL_wG, fL_wR, fV_wF, fV_wG, fV_wR, aF_sV, aG_sV, aR_sV, aF_wG, aF_wR, aG_wF, aG_wR, aR_wF, aR_wG, ho1]
        exact ⟨y1, y2, y3, y4, y5, y6, m11⟩
      have ho2 : obj hh p 2 := by rw [frO k1]; exact ho1
      have e02 : (fI hh p 0).toInt = hs := by rw [frI k1 (hF_n (Or.inr (by decide))) (fun c => by omega)]; exact e01
      clear e1
      have m4 : (fI h1 p 4 + 4096).toInt = zs r1.2 + 4096 := (by simp only [Int32.toInt_add, Int32.toInt_sub, Int32.toInt_mul, Int32.toInt_neg, Int.bmod_def, tl]; omega)
      have b2 : BD (addp r1.2 (-e.toInt - 1)) := by
        unfold BD addp
        simp only [zs, zh, zu, zv, zsl, zhm, zpl, s7] at *
        omega
      refine k_hair ho2 hx2 b2 e02 h0 h20 (by omega) y3 (by omega) (by omega) (fun h3 w3 k3 hw3 hx3 => ?_)
      rw [m4] at hw3 hx3
      exact H h3 w3 (fr_trans k (fr_trans k1 k3)) hw3 hx3
    · rw [y1] at c1
      rw [if_neg c1] at H
      refine (fun S : (∀ hh, hh = _ → jex X (d + 2) 144 [.ref p, .int (fI h1 p 4), .int (fI h1 p 6)] hh fun r29 h28 => (jrI r29 fun x30 => (jrc h28 (.ref p) 2 (jex X (d + 2) 172 [.ref p, .int x30] h28 fun r32 h31 => (jrI r32 fun x33 => (Q (some (.int x33)) h31)))))) => S _ rfl) (fun hh e1 => ?_)
      have k1 : fr [] (hF p) h1 hh := by rw [e1]; exact fr_h (by decide) (by decide) fr_rfl
      have hx2 : HS hh p (addp r1.2 (-e.toInt)) := by
        rw [e1]
        unfold HS
        simp (decide := true) only [jgI_ob, jgf_ob, jgL_ob, jpI_ob, jpL_ob, jpR_ob, jpN_ob, jrc_ob, obj_sV, obj_wF, obj_wG, obj_wR, arr_sV, arr_wF, arr_wG, arr_wR, arL_sV, arL_wF, arL_wG, arL_wR, arR_sV, arR_wF, arR_wG, arR_wR, fI_sV (c := 0), fI_sV (c := 1), fI_sV (c := 2), fI_sV (c := 4), fI_sV (c := 5), fI_sV (c := 7), fI_sV (c := 8), fI_sV (c := 9), fI_sV (c := 10), fI_sV (c := 11), fI_sV (c := 12), fI_sV (c := 6), fL_sV (c := 9), fL_sV (c := 12), fI_sV_k, fL_sV_k, fV_sV_k, fI_wF, fI_wG, fI_wR, fL_wF, fL_wG, fL_wR, fV_wF, fV_wG, fV_wR, aF_sV, aG_sV, aR_sV, aF_wG, aF_wR, aG_wF, aG_wR, aR_wF, aR_wG, ho1]
        exact ⟨y1, y2, y3, y4, y5, y6, m10.trans (by unfold addp; simp only [zpl, s7]; omega)⟩
      have ho2 : obj hh p 2 := by rw [frO k1]; exact ho1
      have e02 : (fI hh p 0).toInt = hs := by rw [frI k1 (hF_n (Or.inr (by decide))) (fun c => by omega)]; exact e01
      clear e1
      have b2 : BD (addp r1.2 (-e.toInt)) := by
        unfold BD addp
        simp only [zs, zh, zu, zv, zsl, zhm, zpl, s7] at *
        omega
      refine k_hair ho2 hx2 b2 e02 h0 h20 (by omega) y3 (by omega) (by omega) (fun h3 w3 k3 hw3 hx3 => ?_)
      rw [y1] at hw3 hx3
      exact H h3 w3 (fr_trans k (fr_trans k1 k3)) hw3 hx3
  · rw [ti_eq, hw, show (0 : Int32).toInt = 0 from rfl] at c
    rw [if_neg c] at H
    exact H h1 w k hw hx1
theorem pslide_b {a dt : Int} (c : (pslide x a dt).1 = 0) : -4096 ≤ zs (pslide x a dt).2 ∧ zs (pslide x a dt).2 ≤ 4096 ∧ zs (pslide x a dt).2 = a ∧ zh (pslide x a dt).2 = zh x ∧ zu (pslide x a dt).2 = dt ∧ zv (pslide x a dt).2 = zv x ∧ zsl (pslide x a dt).2 = zsl x + 1 ∧ zhm (pslide x a dt).2 = zhm x ∧ zpl (pslide x a dt).2 = zpl x := by
  unfold pslide at c ⊢
  by_cases q : a < -4096 ∨ 4096 < a
  · rw [if_pos q] at c; exact absurd c (by show ¬ (5 : Int) = 0; decide)
  · rw [if_neg q]
    refine ⟨?_, ?_, rfl, rfl, rfl, rfl, rfl, rfl, rfl⟩
    · show -4096 ≤ a; omega
    · show a ≤ 4096; omega
/-- bounds as a calculation under way keeps them -/
def BM (x : S7) : Prop := -4096 ≤ zs x ∧ zs x ≤ 4096 ∧ 0 ≤ zh x ∧ zh x ≤ 4096 ∧ 0 ≤ zu x ∧ zu x ≤ 30000000 ∧ 0 ≤ zv x ∧ zv x ≤ 10000000 ∧ 0 ≤ zsl x ∧ zsl x ≤ 10000001 ∧ 0 ≤ zhm x ∧ zhm x ≤ 10000000 ∧ -10000001 ≤ zpl x ∧ zpl x ≤ 10000001
theorem l_mul40 (g : G h) (hp6 : p = 6 ∨ p = 63) (ho : obj h p 2) (sc : SC h τ false 1 false fl) (hx : HS h p x) (bd : BM x) (e0 : (fI h p 0).toInt = hs) (h0 : 0 ≤ hs) (h20 : hs ≤ 20) {m e lo : Int32} (m0 : 100 ≤ m.toInt) (m1 : m.toInt ≤ 999) (hn : (n : Int) = m.toInt - 100) (q0 : -1000 ≤ e.toInt) (q1 : e.toInt ≤ 1000) (l0 : 0 ≤ lo.toInt) (l1 : lo.toInt ≤ 10000000) {o5 o7 o8 : Option Value} {c z : Nat} (H : ∀ (h' : JH) (r : Int32), fr [] (hF p) h h' → r.toInt = (pmul2 hs x (ct 1 false fl n) e.toInt lo.toInt).1 → HS h' p (pmul2 hs x (ct 1 false fl n) e.toInt lo.toInt).2 → Q (some (.int r)) h') : jB_X2_multiply_40 X (d + 2) Q p (.ref τ) m e lo o5 0 o7 o8 h c z := by
  have FL := sc.2.2.2.2.2.2.2.2.2.2
  have cr := ct_rg (f := 1) (t := false) FL (by decide) (show n ≤ 900 * 1 by omega)
  have tr := tp_rg (f := 1) (t := false) (by decide) (show n ≤ 900 * 1 by omega)
  obtain ⟨x1, x2, x3, x4, x5, x6, x7⟩ := id hx
  have bdm := bd
  unfold BM at bdm
  refine jT_X2_multiply_40 (jif_t rfl ?_)
  try dsimp only [jrI, jrN, jrA, jisr, jnul, jcat1]
  refine c_mark0 m0 m1 hn (fun r hr => ?_)
  try dsimp only [jrI, jrN, jrA, jisr, jnul, jcat1]
  rw [jrc_ob sc.1]
  refine c_cutPlace g sc hr (by omega) (fun y hy => ?_)
  try dsimp only [jrI, jrN, jrA, jisr, jnul, jcat1]
  have es : (y + fI h p 4).toInt = ct 1 false fl n + zs x := (by simp only [Int32.toInt_add, Int32.toInt_sub, Int32.toInt_mul, Int32.toInt_neg, Int.bmod_def, tl]; omega)
  -- the last set, from any stand
  have LAST : ∀ (h1 : JH) (x1 : S7) (k1 : fr [] (hF p) h h1) (hx1 : HS h1 p x1) (b1 : BD x1) (hpl : -20000000 ≤ zpl x1 ∧ zpl x1 ≤ 20000000), (∀ (h' : JH) (r : Int32), fr [] (hF p) h h' → r.toInt = (pset hs (addp x1 e.toInt) (ct 1 false fl n) false lo.toInt).1 → HS h' p (pset hs (addp x1 e.toInt) (ct 1 false fl n) false lo.toInt).2 → Q (some (.int r)) h') → jgI h1 (.ref p) 2 10 fun x8 => (jpf h1 (.ref p) 2 10 (.int (x8 + e)) fun h9 => (jrc h9 (.ref p) 2 (jex X (d + 2) 143 [.ref p, .ref τ, .int r, .int lo] h9 fun r11 h10 => (jrI r11 fun x12 => (jrc h10 (.ref p) 2 (jex X (d + 2) 172 [.ref p, .int x12] h10 fun r14 h13 => (jrI r14 fun x15 => (Q (some (.int x15)) h13)))))))) := by
    intro h1 x1 k1 hx1 b1 hpl HH
    have ho1 : obj h1 p 2 := by rw [frO k1]; exact ho
    have g1 : G h1 := G_fr g (by rcases hp6 with q | q <;> subst q <;> rfl) k1
    have e01 : (fI h1 p 0).toInt = hs := by rw [frI k1 (hF_n (Or.inr (by decide))) (fun c => by omega)]; exact e0
    have sc1 := SC_h ho sc k1
    obtain ⟨y1, y2, y3, y4, y5, y6, y7⟩ := id hx1
    rw [jgI_ob ho1 rfl, jpI_ob ho1 rfl]
    have m10 : (fI h1 p 10 + e).toInt = zpl x1 + e.toInt := (by simp only [Int32.toInt_add, Int32.toInt_sub, Int32.toInt_mul, Int32.toInt_neg, Int.bmod_def, tl]; omega)
    refine (fun S : (∀ hh, hh = _ → jrc hh (.ref p) 2 (jex X (d + 2) 143 [.ref p, .ref τ, .int r, .int lo] hh fun r11 h10 => (jrI r11 fun x12 => (jrc h10 (.ref p) 2 (jex X (d + 2) 172 [.ref p, .int x12] h10 fun r14 h13 => (jrI r14 fun x15 => (Q (some (.int x15)) h13))))))) => S _ rfl) (fun hh e1 => ?_)
    have k2 : fr [] (hF p) h1 hh := by rw [e1]; exact fr_h (by decide) (by decide) fr_rfl
    have hx2 : HS hh p (addp x1 e.toInt) := by
      rw [e1]
      unfold HS
      simp (decide := true) only [jgI_ob, jgf_ob, jgL_ob, jpI_ob, jpL_ob, jpR_ob, jpN_ob, jrc_ob, obj_sV, obj_wF, obj_wG, obj_wR, arr_sV, arr_wF, arr_wG, arr_wR, arL_sV, arL_wF, arL_wG, arL_wR, arR_sV, arR_wF, arR_wG, arR_wR, fI_sV (c := 0), fI_sV (c := 1), fI_sV (c := 2), fI_sV (c := 4), fI_sV (c := 5), fI_sV (c := 7), fI_sV (c := 8), fI_sV (c := 9), fI_sV (c := 10), fI_sV (c := 11), fI_sV (c := 12), fI_sV (c := 6), fL_sV (c := 9), fL_sV (c := 12), fI_sV_k, fL_sV_k, fV_sV_k, fI_wF, fI_wG, fI_wR, fL_wF, fL_wG, fL_wR, fV_wF, fV_wG, fV_wR, aF_sV, aG_sV, aR_sV, aF_wG, aF_wR, aG_wF, aG_wR, aR_wF, aR_wG, ho1]
      exact ⟨y1, y2, y3, y4, y5, y6, m10⟩
    have ho2 : obj hh p 2 := by rw [frO k2]; exact ho1
    have e02 : (fI hh p 0).toInt = hs := by rw [frI k2 (hF_n (Or.inr (by decide))) (fun c => by omega)]; exact e01
    have g2 : G hh := G_fr g1 (by rcases hp6 with q | q <;> subst q <;> rfl) k2
    have sc2 := SC_h ho1 sc1 k2
    have b2 : BD (addp x1 e.toInt) := by
      unfold BD at b1 ⊢
      unfold addp
      simp only [zs, zh, zu, zv, zsl, zhm, zpl, s7] at *
      omega
    clear e1
    rw [jrc_ob ho2]
    refine k_bring g2 ho2 sc2 hx2 b2 e02 h0 h20 hr (by omega) l0 l1 (fun h3 r3 k3 hr3 hx3 => ?_)
    exact HH h3 r3 (fr_trans k1 (fr_trans k2 k3)) hr3 hx3
  have bD : BD x := by unfold BD; omega
  unfold pmul2 at H
  rw [jgI_ob ho rfl]
  refine ⟨fun c1 => ?_, fun c1 => ⟨fun c2 => ?_, fun c2 => ?_⟩⟩
  · rw [ti_lt, es, show (4096 : Int32).toInt = 4096 from rfl] at c1
    rw [if_pos c1] at H
    simp (decide := true) only [jgI_ob, jgf_ob, jgL_ob, jpI_ob, jpL_ob, jpR_ob, jpN_ob, jrc_ob, obj_sV, obj_wF, obj_wG, obj_wR, arr_sV, arr_wF, arr_wG, arr_wR, arL_sV, arL_wF, arL_wG, arL_wR, arR_sV, arR_wF, arR_wG, arR_wR, fI_sV (c := 0), fI_sV (c := 1), fI_sV (c := 2), fI_sV (c := 4), fI_sV (c := 5), fI_sV (c := 7), fI_sV (c := 8), fI_sV (c := 9), fI_sV (c := 10), fI_sV (c := 11), fI_sV (c := 12), fI_sV (c := 6), fL_sV (c := 9), fL_sV (c := 12), fI_sV_k, fL_sV_k, fV_sV_k, fI_wF, fI_wG, fI_wR, fL_wF, fL_wG, fL_wR, fV_wF, fV_wG, fV_wR, aF_sV, aG_sV, aR_sV, aF_wG, aF_wR, aG_wF, aG_wR, aR_wF, aR_wG, ho]
    have m11 : (fI h p 10 + 1).toInt = zpl x + 1 := (by simp only [Int32.toInt_add, Int32.toInt_sub, Int32.toInt_mul, Int32.toInt_neg, Int.bmod_def, tl]; omega)
    have m4 : (fI h p 4 - 4096).toInt = zs x - 4096 := (by simp only [Int32.toInt_add, Int32.toInt_sub, Int32.toInt_mul, Int32.toInt_neg, Int.bmod_def, tl]; omega)
    have m6 : (fI h p 6 + fI h p 0).toInt = zu x + hs := (by simp only [Int32.toInt_add, Int32.toInt_sub, Int32.toInt_mul, Int32.toInt_neg, Int.bmod_def, tl]; omega)
    refine (fun S : (∀ hh, hh = _ → jex X (d + 2) 151 [.ref p, .int (fI h p 4 - 4096), .int (fI h p 6 + fI h p 0)] hh _) => S _ rfl) (fun hh e1 => ?_)
    have k1 : fr [] (hF p) h hh := by rw [e1]; exact fr_h (by decide) (by decide) fr_rfl
    have hx1 : HS hh p (addp x 1) := by
      rw [e1]
      unfold HS
      simp (decide := true) only [jgI_ob, jgf_ob, jgL_ob, jpI_ob, jpL_ob, jpR_ob, jpN_ob, jrc_ob, obj_sV, obj_wF, obj_wG, obj_wR, arr_sV, arr_wF, arr_wG, arr_wR, arL_sV, arL_wF, arL_wG, arL_wR, arR_sV, arR_wF, arR_wG, arR_wR, fI_sV (c := 0), fI_sV (c := 1), fI_sV (c := 2), fI_sV (c := 4), fI_sV (c := 5), fI_sV (c := 7), fI_sV (c := 8), fI_sV (c := 9), fI_sV (c := 10), fI_sV (c := 11), fI_sV (c := 12), fI_sV (c := 6), fL_sV (c := 9), fL_sV (c := 12), fI_sV_k, fL_sV_k, fV_sV_k, fI_wF, fI_wG, fI_wR, fL_wF, fL_wG, fL_wR, fV_wF, fV_wG, fV_wR, aF_sV, aG_sV, aR_sV, aF_wG, aF_wR, aG_wF, aG_wR, aR_wF, aR_wG, ho]
      exact ⟨x1, x2, x3, x4, x5, x6, m11⟩
    have ho1 : obj hh p 2 := by rw [frO k1]; exact ho
    have b1 : BD (addp x 1) := by
      unfold BD addp
      simp only [zs, zh, zu, zv, zsl, zhm, zpl, s7] at *
      omega
    clear e1
    refine k_slide ho1 hx1 b1 m6 (fun h3 r3 k3 hr3 hx3 => ?_)
    rw [m4] at hr3 hx3
    have ho3 : obj h3 p 2 := by rw [frO k3]; exact ho1
    unfold thn at H
    refine ⟨fun c3 => ?_, fun c3 => ?_⟩
    · rw [ti_eq, hr3, show (0 : Int32).toInt = 0 from rfl] at c3
      rw [if_pos c3] at H
      have pb := pslide_b c3
      have b3 : BD (pslide (addp x 1) (zs x - 4096) (zu x + hs)).2 ∧ (-20000000 ≤ zpl (pslide (addp x 1) (zs x - 4096) (zu x + hs)).2 ∧ zpl (pslide (addp x 1) (zs x - 4096) (zu x + hs)).2 ≤ 20000000) := by
        obtain ⟨p1, p2, p3, p4, p5, p6, p7, p8, p9⟩ := pb
        have r1 : zh (addp x 1) = zh x := rfl
        have r2 : zv (addp x 1) = zv x := rfl
        have r3 : zsl (addp x 1) = zsl x := rfl
        have r4 : zhm (addp x 1) = zhm x := rfl
        have r5 : zpl (addp x 1) = zpl x + 1 := rfl
        unfold BD
        omega
      exact LAST h3 _ (fr_trans k1 k3) hx3 b3.1 b3.2 H
    · rw [ti_eq, hr3, show (0 : Int32).toInt = 0 from rfl] at c3
      rw [if_neg c3] at H
      exact H h3 r3 (fr_trans k1 k3) hr3 hx3
  · rw [ti_lt, es, show (4096 : Int32).toInt = 4096 from rfl] at c1
    rw [ti_lt, es, show (0 : Int32).toInt = 0 from rfl] at c2
    rw [if_neg c1, if_pos c2] at H
    simp (decide := true) only [jgI_ob, jgf_ob, jgL_ob, jpI_ob, jpL_ob, jpR_ob, jpN_ob, jrc_ob, obj_sV, obj_wF, obj_wG, obj_wR, arr_sV, arr_wF, arr_wG, arr_wR, arL_sV, arL_wF, arL_wG, arL_wR, arR_sV, arR_wF, arR_wG, arR_wR, fI_sV (c := 0), fI_sV (c := 1), fI_sV (c := 2), fI_sV (c := 4), fI_sV (c := 5), fI_sV (c := 7), fI_sV (c := 8), fI_sV (c := 9), fI_sV (c := 10), fI_sV (c := 11), fI_sV (c := 12), fI_sV (c := 6), fL_sV (c := 9), fL_sV (c := 12), fI_sV_k, fL_sV_k, fV_sV_k, fI_wF, fI_wG, fI_wR, fL_wF, fL_wG, fL_wR, fV_wF, fV_wG, fV_wR, aF_sV, aG_sV, aR_sV, aF_wG, aF_wR, aG_wF, aG_wR, aR_wF, aR_wG, ho]
    have m11 : (fI h p 10 - 1).toInt = zpl x + -1 := (by simp only [Int32.toInt_add, Int32.toInt_sub, Int32.toInt_mul, Int32.toInt_neg, Int.bmod_def, tl]; omega)
    have m4 : (fI h p 4 + 4096).toInt = zs x + 4096 := (by simp only [Int32.toInt_add, Int32.toInt_sub, Int32.toInt_mul, Int32.toInt_neg, Int.bmod_def, tl]; omega)
    have m6 : (fI h p 6 + fI h p 0).toInt = zu x + hs := (by simp only [Int32.toInt_add, Int32.toInt_sub, Int32.toInt_mul, Int32.toInt_neg, Int.bmod_def, tl]; omega)
    refine (fun S : (∀ hh, hh = _ → jex X (d + 2) 151 [.ref p, .int (fI h p 4 + 4096), .int (fI h p 6 + fI h p 0)] hh _) => S _ rfl) (fun hh e1 => ?_)
    have k1 : fr [] (hF p) h hh := by rw [e1]; exact fr_h (by decide) (by decide) fr_rfl
    have hx1 : HS hh p (addp x (-1)) := by
      rw [e1]
      unfold HS
      simp (decide := true) only [jgI_ob, jgf_ob, jgL_ob, jpI_ob, jpL_ob, jpR_ob, jpN_ob, jrc_ob, obj_sV, obj_wF, obj_wG, obj_wR, arr_sV, arr_wF, arr_wG, arr_wR, arL_sV, arL_wF, arL_wG, arL_wR, arR_sV, arR_wF, arR_wG, arR_wR, fI_sV (c := 0), fI_sV (c := 1), fI_sV (c := 2), fI_sV (c := 4), fI_sV (c := 5), fI_sV (c := 7), fI_sV (c := 8), fI_sV (c := 9), fI_sV (c := 10), fI_sV (c := 11), fI_sV (c := 12), fI_sV (c := 6), fL_sV (c := 9), fL_sV (c := 12), fI_sV_k, fL_sV_k, fV_sV_k, fI_wF, fI_wG, fI_wR, fL_wF, fL_wG, fL_wR, fV_wF, fV_wG, fV_wR, aF_sV, aG_sV, aR_sV, aF_wG, aF_wR, aG_wF, aG_wR, aR_wF, aR_wG, ho]
      exact ⟨x1, x2, x3, x4, x5, x6, m11⟩
    have ho1 : obj hh p 2 := by rw [frO k1]; exact ho
    have b1 : BD (addp x (-1)) := by
      unfold BD addp
      simp only [zs, zh, zu, zv, zsl, zhm, zpl, s7] at *
      omega
    clear e1
    refine k_slide ho1 hx1 b1 m6 (fun h3 r3 k3 hr3 hx3 => ?_)
    rw [m4] at hr3 hx3
    have ho3 : obj h3 p 2 := by rw [frO k3]; exact ho1
    unfold thn at H
    refine ⟨fun c3 => ?_, fun c3 => ?_⟩
    · rw [ti_eq, hr3, show (0 : Int32).toInt = 0 from rfl] at c3
      rw [if_pos c3] at H
      have pb := pslide_b c3
      have b3 : BD (pslide (addp x (-1)) (zs x + 4096) (zu x + hs)).2 ∧ (-20000000 ≤ zpl (pslide (addp x (-1)) (zs x + 4096) (zu x + hs)).2 ∧ zpl (pslide (addp x (-1)) (zs x + 4096) (zu x + hs)).2 ≤ 20000000) := by
        obtain ⟨p1, p2, p3, p4, p5, p6, p7, p8, p9⟩ := pb
        have r1 : zh (addp x (-1)) = zh x := rfl
        have r2 : zv (addp x (-1)) = zv x := rfl
        have r3 : zsl (addp x (-1)) = zsl x := rfl
        have r4 : zhm (addp x (-1)) = zhm x := rfl
        have r5 : zpl (addp x (-1)) = zpl x + -1 := rfl
        unfold BD
        omega
      exact LAST h3 _ (fr_trans k1 k3) hx3 b3.1 b3.2 H
    · rw [ti_eq, hr3, show (0 : Int32).toInt = 0 from rfl] at c3
      rw [if_neg c3] at H
      exact H h3 r3 (fr_trans k1 k3) hr3 hx3
  · rw [ti_lt, es, show (4096 : Int32).toInt = 4096 from rfl] at c1
    rw [ti_lt, es, show (0 : Int32).toInt = 0 from rfl] at c2
    rw [if_neg c1, if_neg c2] at H
    unfold thn at H
    rw [if_pos (show ((0 : Int), x).1 = 0 from rfl)] at H
    refine jif_t rfl (LAST h x fr_rfl hx bD (by omega) H)
theorem c_multiply (g : G h) (hp6 : p = 6 ∨ p = 63) (ho : obj h p 2) (sc : SC h τ false 1 false fl) (hx : HS h p x) (bd : BE x) (e0 : (fI h p 0).toInt = hs) (h0 : 0 ≤ hs) (h20 : hs ≤ 20) {m e lo : Int32} {bh : Bool} (m0 : 100 ≤ m.toInt) (m1 : m.toInt ≤ 999) (hn : (n : Int) = m.toInt - 100) (q0 : -1000 ≤ e.toInt) (q1 : e.toInt ≤ 1000) (l0 : 0 ≤ lo.toInt) (l1 : lo.toInt ≤ 10000000) (H : ∀ (h' : JH) (r : Int32), fr [] (hF p) h h' → r.toInt = (thn (pmul1 hs x bh) (fun y => pmul2 hs y (ct 1 false fl n) e.toInt lo.toInt)).1 → HS h' p (thn (pmul1 hs x bh) (fun y => pmul2 hs y (ct 1 false fl n) e.toInt lo.toInt)).2 → Q (some (.int r)) h') : jex X (d + 3) 175 [.ref p, .ref τ, .int m, .int e, .int lo, .int (bi bh)] h Q := by
  obtain ⟨x1, x2, x3, x4, x5, x6, x7⟩ := id hx
  have bdm := bd
  unfold BE at bdm
  have bD := BE_BD bd
  rw [jE_X2_multiply]
  refine jT_X2_multiply_0 ?_
  cases bh
  · refine jif_t rfl ?_
    rw [jrc_ob ho]
    refine k_bslide ho hx bD e0 h0 h20 (c := 0) (lo := 0) rfl (by decide) (by decide) rfl (by decide) (by decide) (fun h1 w k hw hx1 => ?_)
    rw [Int.sub_zero, Int.add_zero] at hw hx1
    have ep : pmul1 hs x false = pslide x (zh x) (zv x + hs) := rfl
    rw [ep] at H
    by_cases c : (pslide x (zh x) (zv x + hs)).1 = 0
    · unfold thn at H
      rw [if_pos c] at H
      have ho1 : obj h1 p 2 := by rw [frO k]; exact ho
      have g1 : G h1 := G_fr g (by rcases hp6 with q | q <;> subst q <;> rfl) k
      have e01 : (fI h1 p 0).toInt = hs := by rw [frI k (hF_n (Or.inr (by decide))) (fun c => by omega)]; exact e0
      have pb := pslide_b c
      have b1 : BM (pslide x (zh x) (zv x + hs)).2 := by unfold BM; omega
      have w0 : w = 0 := by rw [ti_eq, hw, c]; rfl
      subst w0
      exact l_mul40 g1 hp6 ho1 (SC_h ho sc k) hx1 b1 e01 h0 h20 m0 m1 hn q0 q1 l0 l1 (fun h2 r2 k2 hr2 hx2 => H h2 r2 (fr_trans k k2) hr2 hx2)
    · unfold thn at H
      rw [if_neg c] at H
      refine jT_X2_multiply_40 (jif_n (fun q => c ?_) (H h1 w k hw hx1))
      rw [ti_eq, hw] at q
      exact q
  · refine jif_n (by decide) ?_
    have ep : pmul1 hs x true = (0, if zs x < 0 then addp x 1 else x) := rfl
    rw [ep] at H
    unfold thn at H
    rw [if_pos (show ((0 : Int), if zs x < 0 then addp x 1 else x).1 = 0 from rfl)] at H
    simp (decide := true) only [jgI_ob, jgf_ob, jgL_ob, jpI_ob, jpL_ob, jpR_ob, jpN_ob, jrc_ob, obj_sV, obj_wF, obj_wG, obj_wR, arr_sV, arr_wF, arr_wG, arr_wR, arL_sV, arL_wF, arL_wG, arL_wR, arR_sV, arR_wF, arR_wG, arR_wR, fI_sV (c := 0), fI_sV (c := 1), fI_sV (c := 2), fI_sV (c := 4), fI_sV (c := 5), fI_sV (c := 7), fI_sV (c := 8), fI_sV (c := 9), fI_sV (c := 10), fI_sV (c := 11), fI_sV (c := 12), fI_sV (c := 6), fL_sV (c := 9), fL_sV (c := 12), fI_sV_k, fL_sV_k, fV_sV_k, fI_wF, fI_wG, fI_wR, fL_wF, fL_wG, fL_wR, fV_wF, fV_wG, fV_wR, aF_sV, aG_sV, aR_sV, aF_wG, aF_wR, aG_wF, aG_wR, aR_wF, aR_wG, ho, ti_lt, tl, x1]
    refine ⟨fun c => ?_, fun c => ?_⟩
    · rw [if_pos c] at H
      have m11 : (fI h p 10 + 1).toInt = zpl x + 1 := (by simp only [Int32.toInt_add, Int32.toInt_sub, Int32.toInt_mul, Int32.toInt_neg, Int.bmod_def, tl]; omega)
      refine (fun S : (∀ hh, hh = _ → jB_X2_multiply_40 X (d + 2) Q p (.ref τ) m e lo (some (.int 1)) 0 none none hh 0 0) => S _ rfl) (fun hh e1 => ?_)
      have k1 : fr [] (hF p) h hh := by rw [e1]; exact fr_h (by decide) (by decide) fr_rfl
      have hx1 : HS hh p (addp x 1) := by
        rw [e1]
        unfold HS
        simp (decide := true) only [jgI_ob, jgf_ob, jgL_ob, jpI_ob, jpL_ob, jpR_ob, jpN_ob, jrc_ob, obj_sV, obj_wF, obj_wG, obj_wR, arr_sV, arr_wF, arr_wG, arr_wR, arL_sV, arL_wF, arL_wG, arL_wR, arR_sV, arR_wF, arR_wG, arR_wR, fI_sV (c := 0), fI_sV (c := 1), fI_sV (c := 2), fI_sV (c := 4), fI_sV (c := 5), fI_sV (c := 7), fI_sV (c := 8), fI_sV (c := 9), fI_sV (c := 10), fI_sV (c := 11), fI_sV (c := 12), fI_sV (c := 6), fL_sV (c := 9), fL_sV (c := 12), fI_sV_k, fL_sV_k, fV_sV_k, fI_wF, fI_wG, fI_wR, fL_wF, fL_wG, fL_wR, fV_wF, fV_wG, fV_wR, aF_sV, aG_sV, aR_sV, aF_wG, aF_wR, aG_wF, aG_wR, aR_wF, aR_wG, ho]
        exact ⟨x1, x2, x3, x4, x5, x6, m11⟩
      have ho1 : obj hh p 2 := by rw [frO k1]; exact ho
      have g1 : G hh := G_fr g (by rcases hp6 with q | q <;> subst q <;> rfl) k1
      have e01 : (fI hh p 0).toInt = hs := by rw [frI k1 (hF_n (Or.inr (by decide))) (fun c => by omega)]; exact e0
      have b1 : BM (addp x 1) := by
        unfold BM addp
        simp only [zs, zh, zu, zv, zsl, zhm, zpl, s7] at *
        omega
      clear e1
      exact l_mul40 g1 hp6 ho1 (SC_h ho sc k1) hx1 b1 e01 h0 h20 m0 m1 hn q0 q1 l0 l1 (fun h2 r2 k2 hr2 hx2 => H h2 r2 (fr_trans k1 k2) hr2 hx2)
    · rw [if_neg c] at H
      exact l_mul40 g hp6 ho sc hx (by unfold BM; omega) e0 h0 h20 m0 m1 hn q0 q1 l0 l1 H
end MDV
