/-! A CALCULATION'S MOVES, PURE, AND THE CLASS'S -/
abbrev S7 : Type := Int × Int × Int × Int × Int × Int × Int
def s7 (s h u v sl hm pl : Int) : S7 := (s, h, u, v, sl, hm, pl)
def zs (x : S7) : Int := x.1
def zh (x : S7) : Int := x.2.1
def zu (x : S7) : Int := x.2.2.1
def zv (x : S7) : Int := x.2.2.2.1
def zsl (x : S7) : Int := x.2.2.2.2.1
def zhm (x : S7) : Int := x.2.2.2.2.2.1
def zpl (x : S7) : Int := x.2.2.2.2.2.2
def jd (x : S7) : Int := if 999 < zu x ∨ 999 < zv x then 4 else 0
def addp (x : S7) (d : Int) : S7 := s7 (zs x) (zh x) (zu x) (zv x) (zsl x) (zhm x) (zpl x + d)
def phair (hs : Int) (x : S7) (stand more : Int) : Int × S7 := if stand < 0 ∨ 4096 < stand then (5, x) else (jd (s7 (zs x) stand (zu x) (hs + more) (zsl x) (zhm x + 1) (zpl x)), s7 (zs x) stand (zu x) (hs + more) (zsl x) (zhm x + 1) (zpl x))
def pslide (x : S7) (stand doubt : Int) : Int × S7 := if stand < -4096 ∨ 4096 < stand then (5, x) else (jd (s7 stand (zh x) doubt (zv x) (zsl x + 1) (zhm x) (zpl x)), s7 stand (zh x) doubt (zv x) (zsl x + 1) (zhm x) (zpl x))
def pset (hs : Int) (x : S7) (c : Int) (b : Bool) (lo : Int) : Int × S7 := phair hs x (c + (if b then 0 else zs x)) ((if b then 0 else zu x) + lo)
def thn (r : Int × S7) (f : S7 → Int × S7) : Int × S7 := if r.1 = 0 then f r.2 else r
def pmul1 (hs : Int) (x : S7) (behind : Bool) : Int × S7 := if behind then (0, if zs x < 0 then addp x 1 else x) else pslide x (zh x) (zv x + hs)
def pmul2 (hs : Int) (x : S7) (c pl lo : Int) : Int × S7 := thn (if 4096 < c + zs x then pslide (addp x 1) (zs x - 4096) (zu x + hs) else if c + zs x < 0 then pslide (addp x (-1)) (zs x + 4096) (zu x + hs) else (0, x)) (fun y => pset hs (addp y pl) c false lo)
def pdiv (hs : Int) (x : S7) (c pl lo : Int) : Int × S7 := thn (pslide x (zh x - c) (zv x + hs + lo)) (fun y => if zs y < 0 then phair hs (addp y (-pl - 1)) (zs y + 4096) (zu y) else phair hs (addp y (-pl)) (zs y) (zu y))
/-- the hand p of the class stands so -/
def HS (h : JH) (p : Nat) (x : S7) : Prop := (fI h p 4).toInt = zs x ∧ (fI h p 5).toInt = zh x ∧ (fI h p 6).toInt = zu x ∧ (fI h p 7).toInt = zv x ∧ (fI h p 8).toInt = zsl x ∧ (fI h p 9).toInt = zhm x ∧ (fI h p 10).toInt = zpl x
def BD (x : S7) : Prop := -4096 ≤ zs x ∧ zs x ≤ 4096 ∧ 0 ≤ zh x ∧ zh x ≤ 4096 ∧ 0 ≤ zu x ∧ zu x ≤ 100000000 ∧ 0 ≤ zv x ∧ zv x ≤ 100000000 ∧ 0 ≤ zsl x ∧ zsl x ≤ 100000000 ∧ 0 ≤ zhm x ∧ zhm x ≤ 100000000 ∧ -100000000 ≤ zpl x ∧ zpl x ≤ 100000000
def BE (x : S7) : Prop := -4096 ≤ zs x ∧ zs x ≤ 4096 ∧ 0 ≤ zh x ∧ zh x ≤ 4096 ∧ 0 ≤ zu x ∧ zu x ≤ 10000000 ∧ 0 ≤ zv x ∧ zv x ≤ 10000000 ∧ 0 ≤ zsl x ∧ zsl x ≤ 10000000 ∧ 0 ≤ zhm x ∧ zhm x ≤ 10000000 ∧ -10000000 ≤ zpl x ∧ zpl x ≤ 10000000
def hF (p : Nat) : List (Nat × Nat) := [(p, 4), (p, 5), (p, 6), (p, 7), (p, 8), (p, 9), (p, 10)]
theorem hF_m {p k : Nat} (h4 : 4 ≤ k) (h10 : k ≤ 10) : (p, k) ∈ hF p := by
  rcases (show k = 4 ∨ k = 5 ∨ k = 6 ∨ k = 7 ∨ k = 8 ∨ k = 9 ∨ k = 10 by omega) with e | e | e | e | e | e | e <;> subst e <;> simp [hF]
theorem hF_n {p q k : Nat} (h : q ≠ p ∨ k < 4) : (q, k) ∉ hF p := by
  unfold hF
  intro c
  simp only [List.mem_cons, Prod.mk.injEq, List.not_mem_nil, or_false] at c
  omega
theorem ob_ne {h : JH} {p q a b : Nat} (hp : obj h p a) (hq : obj h q b) (hn : a ≠ b) : p ≠ q := by
  intro e
  subst e
  unfold obj at hp hq
  rw [hp] at hq
  have := congrArg (fun x => match x with | some (Sum.inr (c, _)) => c | _ => 0) hq
  exact hn this
section OPS
variable {X : JX} {d : Nat} {Q : JQ} {h : JH} {p τ f n : Nat} {b t : Bool} {fl : Nat → Int} {x : S7} {hs : Int} {K : Int32 → JH → Prop}
theorem SC_h {h1 : JH} (ho : obj h p 2) (sc : SC h τ b f t fl) (a : fr [] (hF p) h h1) : SC h1 τ b f t fl := SC_0 sc (fun k _ => hF_n (Or.inl (ob_ne sc.1 ho (by decide)))) (fun c => by cases c) a
theorem fr_h {h1 : JH} {k : Nat} {w : Value} (h4 : 4 ≤ k) (h10 : k ≤ 10) (a : fr [] (hF p) h h1) : fr [] (hF p) h (sV h1 p k w) := fr_sV (hF_m h4 h10) a
theorem c_judge (ho : obj h p 2) (hx : HS h p x) {a : Int32} (H5 : a = 0 → Q (some (.int 5)) h) (H : a ≠ 0 → ∀ r : Int32, r.toInt = jd x → Q (some (.int r)) h) : jex X (d + 1) 172 [.ref p, .int a] h Q := by
  obtain ⟨x1, x2, x3, x4, x5, x6, x7⟩ := hx
  rw [jE_X2_judge]
  refine jT_X2_judge_0 ⟨fun c => H5 c, fun c => ?_⟩
  simp (decide := true) only [jgI_ob, jgf_ob, jgL_ob, jpI_ob, jpL_ob, jpR_ob, jpN_ob, jrc_ob, obj_sV, obj_wF, obj_wG, obj_wR, arr_sV, arr_wF, arr_wG, arr_wR, arL_sV, arL_wF, arL_wG, arL_wR, arR_sV, arR_wF, arR_wG, arR_wR, fI_sV (c := 0), fI_sV (c := 1), fI_sV (c := 2), fI_sV (c := 4), fI_sV (c := 5), fI_sV (c := 7), fI_sV (c := 8), fI_sV (c := 9), fI_sV (c := 10), fI_sV (c := 11), fI_sV (c := 12), fI_sV (c := 6), fL_sV (c := 9), fL_sV (c := 12), fI_sV_k, fL_sV_k, fV_sV_k, fI_wF, fI_wG, fI_wR, fL_wF, fL_wG, fL_wR, fV_wF, fV_wG, fV_wR, aF_sV, aG_sV, aR_sV, aF_wG, aF_wR, aG_wF, aG_wR, aR_wF, aR_wG, ho, ti_lt, tl, x3, x4]
  unfold jd at H
  refine ⟨fun c2 => H c _ ?_, fun c2 => ⟨fun c3 => H c _ ?_, fun c3 => H c _ ?_⟩⟩
  · rw [if_pos (Or.inl c2)]; rfl
  · rw [if_pos (Or.inr c3)]; rfl
  · rw [if_neg (by omega)]; rfl
/-- a set of hair, judged -/
theorem k_hair (ho : obj h p 2) (hx : HS h p x) (bd : BD x) (e0 : (fI h p 0).toInt = hs) (h0 : 0 ≤ hs) (h20 : hs ≤ 20) {a e : Int32} {more : Int} (ea : -100000 ≤ a.toInt ∧ a.toInt ≤ 100000) (ee : e.toInt = more) (m0 : 0 ≤ more) (m1 : more ≤ 200000000) (H : ∀ (h' : JH) (r : Int32), fr [] (hF p) h h' → r.toInt = (phair hs x a.toInt more).1 → HS h' p (phair hs x a.toInt more).2 → K r h') : jex X (d + 1) 144 [.ref p, .int a, .int e] h fun r19 h18 => (jrI r19 fun x20 => (jrc h18 (.ref p) 2 (jex X (d + 1) 172 [.ref p, .int x20] h18 fun r22 h21 => (jrI r22 fun x23 => (K x23 h21))))) := by
  obtain ⟨x1, x2, x3, x4, x5, x6, x7⟩ := id hx
  obtain ⟨b1, b2, b3, b4, b5, b6, b7, b8, b9, b10, b11, b12, b13, b14⟩ := id bd
  refine c_putHair ho (fun c => ?_) (fun c1 c2 => ?_)
  · try dsimp only [jrI, jrN, jrA, jisr, jnul, jcat1]
    rw [jrc_ob ho]
    refine c_judge ho hx (fun _ => ?_) (fun c3 => absurd rfl c3)
    try dsimp only [jrI, jrN, jrA, jisr, jnul, jcat1]
    refine H h 5 fr_rfl ?_ ?_
    · unfold phair; rw [if_pos (by omega)]; rfl
    · unfold phair; rw [if_pos (by omega)]; exact hx
  · try dsimp only [jrI, jrN, jrA, jisr, jnul, jcat1]
    refine (fun S : (∀ hh, hh = _ → jrc hh (.ref p) 2 (jex X (d + 1) 172 [.ref p, .int 1] hh fun r22 h21 => (jrI r22 fun x23 => (K x23 h21)))) => S _ rfl) (fun hh e1 => ?_)
    have ho' : obj hh p 2 := by rw [e1]; simp only [obj_sV]; exact ho
    have k : fr [] (hF p) h hh := by rw [e1]; exact fr_h (by decide) (by decide) (fr_h (by decide) (by decide) (fr_h (by decide) (by decide) fr_rfl))
    have m5 : (fI h p 0 + e).toInt = hs + more := (by simp only [Int32.toInt_add, Int32.toInt_sub, Int32.toInt_mul, Int32.toInt_neg, Int.bmod_def, tl]; omega)
    have m9 : (fI h p 9 + 1).toInt = zhm x + 1 := (by simp only [Int32.toInt_add, Int32.toInt_sub, Int32.toInt_mul, Int32.toInt_neg, Int.bmod_def, tl]; omega)
    have hx' : HS hh p (s7 (zs x) a.toInt (zu x) (hs + more) (zsl x) (zhm x + 1) (zpl x)) := by
      rw [e1]
      unfold HS
      simp (decide := true) only [jgI_ob, jgf_ob, jgL_ob, jpI_ob, jpL_ob, jpR_ob, jpN_ob, jrc_ob, obj_sV, obj_wF, obj_wG, obj_wR, arr_sV, arr_wF, arr_wG, arr_wR, arL_sV, arL_wF, arL_wG, arL_wR, arR_sV, arR_wF, arR_wG, arR_wR, fI_sV (c := 0), fI_sV (c := 1), fI_sV (c := 2), fI_sV (c := 4), fI_sV (c := 5), fI_sV (c := 7), fI_sV (c := 8), fI_sV (c := 9), fI_sV (c := 10), fI_sV (c := 11), fI_sV (c := 12), fI_sV (c := 6), fL_sV (c := 9), fL_sV (c := 12), fI_sV_k, fL_sV_k, fV_sV_k, fI_wF, fI_wG, fI_wR, fL_wF, fL_wG, fL_wR, fV_wF, fV_wG, fV_wR, aF_sV, aG_sV, aR_sV, aF_wG, aF_wR, aG_wF, aG_wR, aR_wF, aR_wG, ho, m5, m9]
      exact ⟨x1, rfl, x3, rfl, x5, rfl, x7⟩
    clear e1
    rw [jrc_ob ho']
    refine c_judge ho' hx' (fun c => absurd c (by decide)) (fun _ r hr => ?_)
    try dsimp only [jrI, jrN, jrA, jisr, jnul, jcat1]
    refine H hh r k ?_ ?_
    · unfold phair; rw [if_neg (by omega)]; exact hr
    · unfold phair; rw [if_neg (by omega)]; exact hx'
theorem k_bring (g : G h) (ho : obj h p 2) (sc : SC h τ b f t fl) (hx : HS h p x) (bd : BD x) (e0 : (fI h p 0).toInt = hs) (h0 : 0 ≤ hs) (h20 : hs ≤ 20) {mk lo : Int32} (hm : mk.toInt = n) (hn : n ≤ 900 * f) (l0 : 0 ≤ lo.toInt) (l1 : lo.toInt ≤ 10000000) (H : ∀ (h' : JH) (r : Int32), fr [] (hF p) h h' → r.toInt = (pset hs x (ct f t fl n) b lo.toInt).1 → HS h' p (pset hs x (ct f t fl n) b lo.toInt).2 → K r h') : jex X (d + 2) 143 [.ref p, .ref τ, .int mk, .int lo] h fun r19 h18 => (jrI r19 fun x20 => (jrc h18 (.ref p) 2 (jex X (d + 2) 172 [.ref p, .int x20] h18 fun r22 h21 => (jrI r22 fun x23 => (K x23 h21))))) := by
  obtain ⟨x1, x2, x3, x4, x5, x6, x7⟩ := id hx
  obtain ⟨b1, b2, b3, b4, b5, b6, b7, b8, b9, b10, b11, b12, b13, b14⟩ := id bd
  refine c_bringHair g ho sc hm hn (by rw [x1]; exact b1) (by rw [x1]; exact b2) (fun c => ?_) (fun y y0 y1 y2 => ?_)
  · try dsimp only [jrI, jrN, jrA, jisr, jnul, jcat1]
    rw [x1] at c
    rw [jrc_ob ho]
    refine c_judge ho hx (fun _ => ?_) (fun c3 => absurd rfl c3)
    try dsimp only [jrI, jrN, jrA, jisr, jnul, jcat1]
    refine H h 5 fr_rfl ?_ ?_
    · unfold pset phair; rw [if_pos c]; rfl
    · unfold pset phair; rw [if_pos c]; exact hx
  · try dsimp only [jrI, jrN, jrA, jisr, jnul, jcat1]
    rw [x1] at y2
    refine (fun S : (∀ hh, hh = _ → jrc hh (.ref p) 2 (jex X (d + 2) 172 [.ref p, .int 1] hh fun r22 h21 => (jrI r22 fun x23 => (K x23 h21)))) => S _ rfl) (fun hh e1 => ?_)
    have ho' : obj hh p 2 := by rw [e1]; simp only [obj_sV]; exact ho
    have k : fr [] (hF p) h hh := by rw [e1]; exact fr_h (by decide) (by decide) (fr_h (by decide) (by decide) (fr_h (by decide) (by decide) fr_rfl))
    have m5 : (fI h p 0 + ((if b then 0 else fI h p 6) + lo)).toInt = hs + ((if b then 0 else zu x) + lo.toInt) := by
      cases b
      · simp only [Bool.false_eq_true, if_false]
        have : (fI h p 6 + lo).toInt = zu x + lo.toInt := (by simp only [Int32.toInt_add, Int32.toInt_sub, Int32.toInt_mul, Int32.toInt_neg, Int.bmod_def, tl]; omega)
        generalize fI h p 6 + lo = w at this
        exact (by simp only [Int32.toInt_add, Int32.toInt_sub, Int32.toInt_mul, Int32.toInt_neg, Int.bmod_def, tl]; omega)
      · simp only [if_true]
        exact (by simp only [Int32.toInt_add, Int32.toInt_sub, Int32.toInt_mul, Int32.toInt_neg, Int.bmod_def, tl]; omega)
    have m9 : (fI h p 9 + 1).toInt = zhm x + 1 := (by simp only [Int32.toInt_add, Int32.toInt_sub, Int32.toInt_mul, Int32.toInt_neg, Int.bmod_def, tl]; omega)
    have hx' : HS hh p (s7 (zs x) (ct f t fl n + (if b then 0 else zs x)) (zu x) (hs + ((if b then 0 else zu x) + lo.toInt)) (zsl x) (zhm x + 1) (zpl x)) := by
      rw [e1]
      unfold HS
      simp (decide := true) only [jgI_ob, jgf_ob, jgL_ob, jpI_ob, jpL_ob, jpR_ob, jpN_ob, jrc_ob, obj_sV, obj_wF, obj_wG, obj_wR, arr_sV, arr_wF, arr_wG, arr_wR, arL_sV, arL_wF, arL_wG, arL_wR, arR_sV, arR_wF, arR_wG, arR_wR, fI_sV (c := 0), fI_sV (c := 1), fI_sV (c := 2), fI_sV (c := 4), fI_sV (c := 5), fI_sV (c := 7), fI_sV (c := 8), fI_sV (c := 9), fI_sV (c := 10), fI_sV (c := 11), fI_sV (c := 12), fI_sV (c := 6), fL_sV (c := 9), fL_sV (c := 12), fI_sV_k, fL_sV_k, fV_sV_k, fI_wF, fI_wG, fI_wR, fL_wF, fL_wG, fL_wR, fV_wF, fV_wG, fV_wR, aF_sV, aG_sV, aR_sV, aF_wG, aF_wR, aG_wF, aG_wR, aR_wF, aR_wG, ho, m5, m9]
      exact ⟨x1, y2, x3, rfl, x5, rfl, x7⟩
    clear e1
    rw [jrc_ob ho']
    refine c_judge ho' hx' (fun c => absurd c (by decide)) (fun _ r hr => ?_)
    try dsimp only [jrI, jrN, jrA, jisr, jnul, jcat1]
    refine H hh r k ?_ ?_
    · unfold pset phair; rw [if_neg (by omega)]; exact hr
    · unfold pset phair; rw [if_neg (by omega)]; exact hx'
theorem k_slide (ho : obj h p 2) (hx : HS h p x) (bd : BD x) {a e : Int32} {dt : Int} (ee : e.toInt = dt) (H : ∀ (h' : JH) (r : Int32), fr [] (hF p) h h' → r.toInt = (pslide x a.toInt dt).1 → HS h' p (pslide x a.toInt dt).2 → K r h') : jex X (d + 1) 151 [.ref p, .int a, .int e] h fun r19 h18 => (jrI r19 fun x20 => (jrc h18 (.ref p) 2 (jex X (d + 1) 172 [.ref p, .int x20] h18 fun r22 h21 => (jrI r22 fun x23 => (K x23 h21))))) := by
  obtain ⟨x1, x2, x3, x4, x5, x6, x7⟩ := id hx
  obtain ⟨b1, b2, b3, b4, b5, b6, b7, b8, b9, b10, b11, b12, b13, b14⟩ := id bd
  refine c_putSlide ho (fun c => ?_) (fun c1 c2 => ?_)
  · try dsimp only [jrI, jrN, jrA, jisr, jnul, jcat1]
    rw [jrc_ob ho]
    refine c_judge ho hx (fun _ => ?_) (fun c3 => absurd rfl c3)
    try dsimp only [jrI, jrN, jrA, jisr, jnul, jcat1]
    refine H h 5 fr_rfl ?_ ?_
    · unfold pslide; rw [if_pos c]; rfl
    · unfold pslide; rw [if_pos c]; exact hx
  · try dsimp only [jrI, jrN, jrA, jisr, jnul, jcat1]
    refine (fun S : (∀ hh, hh = _ → jrc hh (.ref p) 2 (jex X (d + 1) 172 [.ref p, .int 1] hh fun r22 h21 => (jrI r22 fun x23 => (K x23 h21)))) => S _ rfl) (fun hh e1 => ?_)
    have ho' : obj hh p 2 := by rw [e1]; simp only [obj_sV]; exact ho
    have k : fr [] (hF p) h hh := by rw [e1]; exact fr_h (by decide) (by decide) (fr_h (by decide) (by decide) (fr_h (by decide) (by decide) fr_rfl))
    have m9 : (fI h p 8 + 1).toInt = zsl x + 1 := (by simp only [Int32.toInt_add, Int32.toInt_sub, Int32.toInt_mul, Int32.toInt_neg, Int.bmod_def, tl]; omega)
    have hx' : HS hh p (s7 a.toInt (zh x) dt (zv x) (zsl x + 1) (zhm x) (zpl x)) := by
      rw [e1]
      unfold HS
      simp (decide := true) only [jgI_ob, jgf_ob, jgL_ob, jpI_ob, jpL_ob, jpR_ob, jpN_ob, jrc_ob, obj_sV, obj_wF, obj_wG, obj_wR, arr_sV, arr_wF, arr_wG, arr_wR, arL_sV, arL_wF, arL_wG, arL_wR, arR_sV, arR_wF, arR_wG, arR_wR, fI_sV (c := 0), fI_sV (c := 1), fI_sV (c := 2), fI_sV (c := 4), fI_sV (c := 5), fI_sV (c := 7), fI_sV (c := 8), fI_sV (c := 9), fI_sV (c := 10), fI_sV (c := 11), fI_sV (c := 12), fI_sV (c := 6), fL_sV (c := 9), fL_sV (c := 12), fI_sV_k, fL_sV_k, fV_sV_k, fI_wF, fI_wG, fI_wR, fL_wF, fL_wG, fL_wR, fV_wF, fV_wG, fV_wR, aF_sV, aG_sV, aR_sV, aF_wG, aF_wR, aG_wF, aG_wR, aR_wF, aR_wG, ho, m9, ee]
      exact ⟨rfl, x2, rfl, x4, rfl, x6, x7⟩
    clear e1
    rw [jrc_ob ho']
    refine c_judge ho' hx' (fun c => absurd c (by decide)) (fun _ r hr => ?_)
    try dsimp only [jrI, jrN, jrA, jisr, jnul, jcat1]
    refine H hh r k ?_ ?_
    · unfold pslide; rw [if_neg (by omega)]; exact hr
    · unfold pslide; rw [if_neg (by omega)]; exact hx'
/-- bringing the slide under the hair, judged -/
theorem k_bslide (ho : obj h p 2) (hx : HS h p x) (bd : BD x) (e0 : (fI h p 0).toInt = hs) (h0 : 0 ≤ hs) (h20 : hs ≤ 20) {a e : Int32} {c lo : Int} (ea : a.toInt = c) (c0 : -5000 ≤ c) (c1 : c ≤ 5000) (ee : e.toInt = lo) (l0 : 0 ≤ lo) (l1 : lo ≤ 10000000) (H : ∀ (h' : JH) (r : Int32), fr [] (hF p) h h' → r.toInt = (pslide x (zh x - c) (zv x + hs + lo)).1 → HS h' p (pslide x (zh x - c) (zv x + hs + lo)).2 → K r h') : jex X (d + 2) 150 [.ref p, .int a, .int e] h fun r19 h18 => (jrI r19 fun x20 => (jrc h18 (.ref p) 2 (jex X (d + 2) 172 [.ref p, .int x20] h18 fun r22 h21 => (jrI r22 fun x23 => (K x23 h21))))) := by
  obtain ⟨x1, x2, x3, x4, x5, x6, x7⟩ := id hx
  obtain ⟨b1, b2, b3, b4, b5, b6, b7, b8, b9, b10, b11, b12, b13, b14⟩ := id bd
  have m1 : (fI h p 5 - a).toInt = zh x - c := (by simp only [Int32.toInt_add, Int32.toInt_sub, Int32.toInt_mul, Int32.toInt_neg, Int.bmod_def, tl]; omega)
  have m2 : (fI h p 7 + fI h p 0 + e).toInt = zv x + hs + lo := by
    have : (fI h p 7 + fI h p 0).toInt = zv x + hs := (by simp only [Int32.toInt_add, Int32.toInt_sub, Int32.toInt_mul, Int32.toInt_neg, Int.bmod_def, tl]; omega)
    generalize fI h p 7 + fI h p 0 = w at this
    exact (by simp only [Int32.toInt_add, Int32.toInt_sub, Int32.toInt_mul, Int32.toInt_neg, Int.bmod_def, tl]; omega)
  refine c_bringSlide ho (fun q => ?_) (fun q1 q2 => ?_)
  · try dsimp only [jrI, jrN, jrA, jisr, jnul, jcat1]
    rw [m1] at q
    rw [jrc_ob ho]
    refine c_judge ho hx (fun _ => ?_) (fun c3 => absurd rfl c3)
    try dsimp only [jrI, jrN, jrA, jisr, jnul, jcat1]
    refine H h 5 fr_rfl ?_ ?_
    · unfold pslide; rw [if_pos q]; rfl
    · unfold pslide; rw [if_pos q]; exact hx
  · try dsimp only [jrI, jrN, jrA, jisr, jnul, jcat1]
    rw [m1] at q1 q2
    refine (fun S : (∀ hh, hh = _ → jrc hh (.ref p) 2 (jex X (d + 2) 172 [.ref p, .int 1] hh fun r22 h21 => (jrI r22 fun x23 => (K x23 h21)))) => S _ rfl) (fun hh e1 => ?_)
    have ho' : obj hh p 2 := by rw [e1]; simp only [obj_sV]; exact ho
    have k : fr [] (hF p) h hh := by rw [e1]; exact fr_h (by decide) (by decide) (fr_h (by decide) (by decide) (fr_h (by decide) (by decide) fr_rfl))
    have m9 : (fI h p 8 + 1).toInt = zsl x + 1 := (by simp only [Int32.toInt_add, Int32.toInt_sub, Int32.toInt_mul, Int32.toInt_neg, Int.bmod_def, tl]; omega)
    have hx' : HS hh p (s7 (zh x - c) (zh x) (zv x + hs + lo) (zv x) (zsl x + 1) (zhm x) (zpl x)) := by
      rw [e1]
      unfold HS
      simp (decide := true) only [jgI_ob, jgf_ob, jgL_ob, jpI_ob, jpL_ob, jpR_ob, jpN_ob, jrc_ob, obj_sV, obj_wF, obj_wG, obj_wR, arr_sV, arr_wF, arr_wG, arr_wR, arL_sV, arL_wF, arL_wG, arL_wR, arR_sV, arR_wF, arR_wG, arR_wR, fI_sV (c := 0), fI_sV (c := 1), fI_sV (c := 2), fI_sV (c := 4), fI_sV (c := 5), fI_sV (c := 7), fI_sV (c := 8), fI_sV (c := 9), fI_sV (c := 10), fI_sV (c := 11), fI_sV (c := 12), fI_sV (c := 6), fL_sV (c := 9), fL_sV (c := 12), fI_sV_k, fL_sV_k, fV_sV_k, fI_wF, fI_wG, fI_wR, fL_wF, fL_wG, fL_wR, fV_wF, fV_wG, fV_wR, aF_sV, aG_sV, aR_sV, aF_wG, aF_wR, aG_wF, aG_wR, aR_wF, aR_wG, ho, m9, m1, m2]
      exact ⟨rfl, x2, rfl, x4, rfl, x6, x7⟩
    clear e1
    rw [jrc_ob ho']
    refine c_judge ho' hx' (fun c => absurd c (by decide)) (fun _ r hr => ?_)
    try dsimp only [jrI, jrN, jrA, jisr, jnul, jcat1]
    refine H hh r k ?_ ?_
    · unfold pslide; rw [if_neg (by omega)]; exact hr
    · unfold pslide; rw [if_neg (by omega)]; exact hx'
end OPS
