/-! DESIGN -/
def dC (a b t i k : Nat) : Nat → Int
  | 0 => -1
  | j + 1 => if (9 - j) * (8 - t) = 8 * (a * i) ∧ (9 - j) * t = 8 * (b * k) then ((9 - j : Nat) : Int) else dC a b t i k j
def dT (a b i k : Nat) (K : Int) : Nat → Int
  | 0 => K
  | j + 1 => if dC a b (7 - j) i k 9 = -1 then dT a b i k K j else 1000 * a + 100 * b + 10 * ((7 - j : Nat) : Int) + dC a b (7 - j) i k 9
def dB (a i k : Nat) (K : Int) : Nat → Int
  | 0 => K
  | j + 1 => dT a (3 - j) i k (dB a i k K j) 7
def dA (i k : Nat) : Nat → Int
  | 0 => -2
  | j + 1 => dB (3 - j) i k (dA i k j) 3
theorem dC_s {a b t i k : Nat} (j : Nat) : dC a b t i k (j + 1) = if (9 - j) * (8 - t) = 8 * (a * i) ∧ (9 - j) * t = 8 * (b * k) then ((9 - j : Nat) : Int) else dC a b t i k j := rfl
theorem dT_s {a b i k : Nat} {K : Int} (j : Nat) : dT a b i k K (j + 1) = if dC a b (7 - j) i k 9 = -1 then dT a b i k K j else 1000 * a + 100 * b + 10 * ((7 - j : Nat) : Int) + dC a b (7 - j) i k 9 := rfl
theorem dB_s {a i k : Nat} {K : Int} (j : Nat) : dB a i k K (j + 1) = dT a (3 - j) i k (dB a i k K j) 7 := rfl
theorem dA_s {i k : Nat} (j : Nat) : dA i k (j + 1) = dB (3 - j) i k (dA i k j) 3 := rfl
theorem mulI {x y : Int32} {a b : Nat} (hx : x.toInt = a) (hy : y.toInt = b) (ha : a ≤ 10000) (hb : b ≤ 1000) : (x * y).toInt = ((a * b : Nat) : Int) := by
  have h : a * b ≤ 10000 * 1000 := Nat.mul_le_mul ha hb
  have e : x.toInt * y.toInt = ((a * b : Nat) : Int) := by rw [hx, hy]; exact (Int.natCast_mul a b).symm
  rw [ti_mul (by rw [e]; omega) (by rw [e]; omega), e]
theorem dC_rg {a b t i k : Nat} : ∀ j, j ≤ 9 → dC a b t i k j = -1 ∨ (1 ≤ dC a b t i k j ∧ dC a b t i k j ≤ 9)
  | 0, _ => Or.inl rfl
  | j + 1, h => by
    unfold dC
    split
    · right; omega
    · exact dC_rg j (by omega)
section DSG
variable {X : JX} {d : Nat} {Q : JQ} {h : JH} {i k : Nat}
theorem c_middleFor {L R e : Int32} {a b t : Nat} (hL : L.toInt = ((a * i : Nat) : Int)) (hR : R.toInt = ((b * k : Nat) : Int)) (he : e.toInt = t) (ht : t ≤ 7) (li : a * i ≤ 9) (lk : b * k ≤ 9) (H : ∀ r : Int32, r.toInt = dC a b t i k 9 → Q (some (.int r)) h) : jex X (d + 1) 269 [.int L, .int R, .int e] h Q := by
  have e8 : (8 - e).toInt = ((8 - t : Nat) : Int) := (by simp only [Int32.toInt_add, Int32.toInt_sub, Int32.toInt_mul, Int32.toInt_neg, Int.bmod_def, tl]; omega)
  have eL : (8 * L).toInt = ((8 * (a * i) : Nat) : Int) := mulI (a := 8) rfl hL (by decide) (by omega)
  have eR : (8 * R).toInt = ((8 * (b * k) : Nat) : Int) := mulI (a := 8) rfl hR (by decide) (by omega)
  have Lp : ∀ (j : Nat) (c : Int32) (y z : Nat), j ≤ 9 → c.toInt = ((10 - j : Nat) : Int) → dC a b t i k 9 = dC a b t i k j → jB_X1_middleFor_2 X d Q L R e c h y z := by
    intro j
    induction j with
    | zero =>
      intro c y z hj hc hd
      refine jT_X1_middleFor_2 (jif_t (by rw [ti_lt, hc]; decide) (H _ ?_))
      rw [hd]; rfl
    | succ j ih =>
      intro c y z hj hc hd
      have m1 : (c * (8 - e)).toInt = (((9 - j) * (8 - t) : Nat) : Int) := mulI (by rw [hc]; omega) e8 (by omega) (by omega)
      have m2 : (c * e).toInt = (((9 - j) * t : Nat) : Int) := mulI (by rw [hc]; omega) he (by omega) (by omega)
      have hc' : (c + 1).toInt = ((10 - j : Nat) : Int) := (by simp only [Int32.toInt_add, Int32.toInt_sub, Int32.toInt_mul, Int32.toInt_neg, Int.bmod_def, tl]; omega)
      refine jT_X1_middleFor_2 (jif_n (by rw [ti_lt, hc, show (9 : Int32).toInt = 9 from rfl]; omega) ?_)
      rw [dC_s j] at hd
      simp only [ti_eq, m1, m2, eL, eR]
      refine ⟨fun c1 => ⟨fun c2 => H _ ?_, fun c2 => ih _ _ _ (by omega) hc' ?_⟩, fun c1 => ih _ _ _ (by omega) hc' ?_⟩
      · rw [hd, if_pos ⟨by omega, by omega⟩, hc]
        omega
      · rw [hd, if_neg (fun q => c2 (by omega))]
      · rw [hd, if_neg (fun q => c1 (by omega))]
  rw [jE_X1_middleFor]
  exact jT_X1_middleFor_0 (Lp 9 1 _ _ (by omega) (by rfl) rfl)
theorem dsg_lo {a b t : Nat} {ea eb et r : Int32} (ha : ea.toInt = a) (hb : eb.toInt = b) (ht : et.toInt = t) (la : a ≤ 3) (lb : b ≤ 3) (lt : t ≤ 7) {v : Int} (hr : r.toInt = v) (hv0 : 1 ≤ v) (hv : v ≤ 9) : (1000 * ea + 100 * eb + 10 * et + r).toInt = 1000 * (a : Int) + 100 * b + 10 * t + v := by
  have e1 : (1000 * ea).toInt = 1000 * a := (by simp only [Int32.toInt_add, Int32.toInt_sub, Int32.toInt_mul, Int32.toInt_neg, Int.bmod_def, tl]; omega)
  have e2 : (100 * eb).toInt = 100 * b := (by simp only [Int32.toInt_add, Int32.toInt_sub, Int32.toInt_mul, Int32.toInt_neg, Int.bmod_def, tl]; omega)
  have e3 : (10 * et).toInt = 10 * t := (by simp only [Int32.toInt_add, Int32.toInt_sub, Int32.toInt_mul, Int32.toInt_neg, Int.bmod_def, tl]; omega)
  generalize 1000 * ea = x1 at e1
  generalize 100 * eb = x2 at e2
  generalize 10 * et = x3 at e3
  exact (by simp only [Int32.toInt_add, Int32.toInt_sub, Int32.toInt_mul, Int32.toInt_neg, Int.bmod_def, tl]; omega)
theorem c_firstFor {a1 a2 : Int32} (h1 : a1.toInt = i) (h2 : a2.toInt = k) (li : i ≤ 3) (lk : k ≤ 3) (H : ∀ r : Int32, r.toInt = dA i k 3 → Q (some (.int r)) h) : jex X (d + 2) 268 [.int a1, .int a2] h Q := by
  have LT : ∀ (j a b : Nat) (K : Int) (c2 c3 c4 : Int32) (o5 : Option Value) (y z : Nat), j ≤ 7 → a ≤ 3 → b ≤ 3 → c2.toInt = a → c3.toInt = b → c4.toInt = ((8 - j : Nat) : Int) → (∀ r : Int32, r.toInt = dT a b i k K 7 → dT a b i k K 7 ≠ K → Q (some (.int r)) h) → True → (∀ (o4 o5 : Option Value) (y z : Nat), dT a b i k K 7 = K → jB_X1_firstFor_9 X (d + 1) Q a1 a2 c2 (c3 + 1) o4 o5 h y z) → dT a b i k K 7 = dT a b i k K j → (∀ r : Int32, r.toInt = dT a b i k K 7 → Q (some (.int r)) h) → jB_X1_firstFor_17 X (d + 1) Q a1 a2 c2 c3 c4 o5 h y z := by
    intro j
    induction j with
    | zero =>
      intro a b K c2 c3 c4 o5 y z hj la lb e2 e3 e4 _ _ HK hd H'
      exact jT_X1_firstFor_17 (jif_t (by rw [ti_lt, e4]; decide) (HK _ _ _ _ hd))
    | succ j ih =>
      intro a b K c2 c3 c4 o5 y z hj la lb e2 e3 e4 u1 u2 HK hd H'
      have e4' : c4.toInt = ((7 - j : Nat) : Int) := by omega
      have m1 : (c2 * a1).toInt = ((a * i : Nat) : Int) := mulI e2 h1 (by omega) (by omega)
      have m2 : (c3 * a2).toInt = ((b * k : Nat) : Int) := mulI e3 h2 (by omega) (by omega)
      have b1 : a * i ≤ 3 * 3 := Nat.mul_le_mul la li
      have b2 : b * k ≤ 3 * 3 := Nat.mul_le_mul lb lk
      have e5 : (c4 + 1).toInt = ((8 - j : Nat) : Int) := (by simp only [Int32.toInt_add, Int32.toInt_sub, Int32.toInt_mul, Int32.toInt_neg, Int.bmod_def, tl]; omega)
      rw [dT_s j] at hd
      refine jT_X1_firstFor_17 (jif_n (by rw [ti_lt, e4, show (7 : Int32).toInt = 7 from rfl]; omega) (c_middleFor m1 m2 e4' (by omega) (by omega) (by omega) (fun r hr => ?_)))
      dsimp only [jrI]
      have rg := dC_rg (a := a) (b := b) (t := 7 - j) (i := i) (k := k) 9 (Nat.le_refl _)
      refine ⟨fun c => ?_, fun c => ?_⟩
      · rw [ti_eq, hr, show (-1 : Int32).toInt = -1 from rfl] at c
        rw [if_pos c] at hd
        exact ih a b K _ _ _ _ _ _ (by omega) la lb e2 e3 e5 u1 u2 HK hd H'
      · rw [ti_eq, hr, show (-1 : Int32).toInt = -1 from rfl] at c
        rw [if_neg c] at hd
        refine H' _ ?_
        rw [hd]
        exact dsg_lo e2 e3 e4' la lb (by omega) hr (by omega) (by omega)
  have LB : ∀ (j a : Nat) (K : Int) (c2 c3 : Int32) (o4 o5 : Option Value) (y z : Nat), j ≤ 3 → a ≤ 3 → c2.toInt = a → c3.toInt = ((4 - j : Nat) : Int) → (∀ (o3 o4 o5 : Option Value) (y z : Nat), dB a i k K 3 = K → jB_X1_firstFor_2 X (d + 1) Q a1 a2 (c2 + 1) o3 o4 o5 h y z) → dB a i k K 3 = dB a i k K j → (∀ r : Int32, r.toInt = dB a i k K 3 → Q (some (.int r)) h) → jB_X1_firstFor_9 X (d + 1) Q a1 a2 c2 c3 o4 o5 h y z := by
    intro j
    induction j with
    | zero =>
      intro a K c2 c3 o4 o5 y z hj la e2 e3 HK hd H'
      exact jT_X1_firstFor_9 (jif_t (by rw [ti_lt, e3]; decide) (HK _ _ _ _ _ hd))
    | succ j ih =>
      intro a K c2 c3 o4 o5 y z hj la e2 e3 HK hd H'
      have e3' : c3.toInt = ((3 - j : Nat) : Int) := by omega
      have e5 : (c3 + 1).toInt = ((4 - j : Nat) : Int) := (by simp only [Int32.toInt_add, Int32.toInt_sub, Int32.toInt_mul, Int32.toInt_neg, Int.bmod_def, tl]; omega)
      rw [dB_s j] at hd
      refine jT_X1_firstFor_9 (jif_n (by rw [ti_lt, e3, show (3 : Int32).toInt = 3 from rfl]; omega) ?_)
      refine LT 7 a (3 - j) (dB a i k K j) c2 c3 1 _ _ _ (by omega) la (by omega) e2 e3' rfl (fun r hr _ => H' r (by rw [hd]; exact hr)) trivial (fun o4 o5 y z q => ?_) rfl (fun r hr => H' r (by rw [hd]; exact hr))
      exact ih a K _ _ _ _ _ _ (by omega) la e2 e5 HK (hd.trans q) H'
  have LA : ∀ (j : Nat) (c2 : Int32) (o3 o4 o5 : Option Value) (y z : Nat), j ≤ 3 → c2.toInt = ((4 - j : Nat) : Int) → dA i k 3 = dA i k j → jB_X1_firstFor_2 X (d + 1) Q a1 a2 c2 o3 o4 o5 h y z := by
    intro j
    induction j with
    | zero =>
      intro c2 o3 o4 o5 y z hj e2 hd
      exact jT_X1_firstFor_2 (jif_t (by rw [ti_lt, e2]; decide) (H _ (by rw [hd]; rfl)))
    | succ j ih =>
      intro c2 o3 o4 o5 y z hj e2 hd
      have e2' : c2.toInt = ((3 - j : Nat) : Int) := by omega
      have e5 : (c2 + 1).toInt = ((4 - j : Nat) : Int) := (by simp only [Int32.toInt_add, Int32.toInt_sub, Int32.toInt_mul, Int32.toInt_neg, Int.bmod_def, tl]; omega)
      rw [dA_s j] at hd
      refine jT_X1_firstFor_2 (jif_n (by rw [ti_lt, e2, show (3 : Int32).toInt = 3 from rfl]; omega) ?_)
      exact LB 3 (3 - j) (dA i k j) c2 1 _ _ _ _ (by omega) (by omega) e2' rfl (fun o3 o4 o5 y z q => ih _ _ _ _ _ _ (by omega) e5 (hd.trans q)) rfl (fun r hr => H r (by rw [hd]; exact hr))
  rw [jE_X1_firstFor]
  exact jT_X1_firstFor_0 (LA 3 1 _ _ _ _ _ (by omega) rfl rfl)
theorem l_design {a1 a2 : Int32} (h1 : a1.toInt = i) (h2 : a2.toInt = k) (li : i ≤ 3) (lk : k ≤ 3) (H : ∀ r : Int32, r.toInt = dA i k 3 → Q (some (.int r)) h) (p y z : Nat) : jB_X12_design_24 X d Q p a1 a2 1 none none none h y z := by
  have LC : ∀ (j a b t : Nat) (c3 c4 c5 c6 : Int32) (y z : Nat), j ≤ 9 → a ≤ 3 → b ≤ 3 → t ≤ 7 → c3.toInt = a → c4.toInt = b → c5.toInt = t → c6.toInt = ((10 - j : Nat) : Int) → (∀ (o6 : Option Value) (y z : Nat), dC a b t i k 9 = -1 → jB_X12_design_41 X d Q p a1 a2 c3 c4 (c5 + 1) o6 h y z) → dC a b t i k 9 = dC a b t i k j → (∀ r : Int32, dC a b t i k 9 ≠ -1 → r.toInt = 1000 * (a : Int) + 100 * b + 10 * t + dC a b t i k 9 → Q (some (.int r)) h) → jB_X12_design_51 X d Q p a1 a2 c3 c4 c5 c6 h y z := by
    intro j
    induction j with
    | zero =>
      intro a b t c3 c4 c5 c6 y z hj la lb lt e3 e4 e5 e6 HK hd H'
      exact jT_X12_design_51 (jif_n (by rw [ti_lt, e6]; decide) (HK _ _ _ hd))
    | succ j ih =>
      intro a b t c3 c4 c5 c6 y z hj la lb lt e3 e4 e5 e6 HK hd H'
      have e6' : c6.toInt = ((9 - j : Nat) : Int) := by omega
      have e8 : (8 - c5).toInt = ((8 - t : Nat) : Int) := (by simp only [Int32.toInt_add, Int32.toInt_sub, Int32.toInt_mul, Int32.toInt_neg, Int.bmod_def, tl]; omega)
      have m1 : (c6 * (8 - c5)).toInt = (((9 - j) * (8 - t) : Nat) : Int) := mulI e6' e8 (by omega) (by omega)
      have m2 : (c6 * c5).toInt = (((9 - j) * t : Nat) : Int) := mulI e6' e5 (by omega) (by omega)
      have m3 : (8 * c3 * a1).toInt = ((8 * a * i : Nat) : Int) := mulI (mulI (a := 8) rfl e3 (by decide) (by omega)) h1 (by omega) (by omega)
      have m4 : (8 * c4 * a2).toInt = ((8 * b * k : Nat) : Int) := mulI (mulI (a := 8) rfl e4 (by decide) (by omega)) h2 (by omega) (by omega)
      rw [Nat.mul_assoc] at m3 m4
      have e7 : (c6 + 1).toInt = ((10 - j : Nat) : Int) := (by simp only [Int32.toInt_add, Int32.toInt_sub, Int32.toInt_mul, Int32.toInt_neg, Int.bmod_def, tl]; omega)
      refine jT_X12_design_51 (jif_t (by rw [ti_lt, e6, show (10 : Int32).toInt = 10 from rfl]; omega) ?_)
      rw [dC_s j] at hd
      simp only [ti_eq, m1, m2, m3, m4]
      refine ⟨fun c1 => ⟨fun c2 => ?_, fun c2 => ih _ _ _ _ _ _ _ _ _ (by omega) la lb lt e3 e4 e5 e7 HK ?_ H'⟩, fun c1 => ih _ _ _ _ _ _ _ _ _ (by omega) la lb lt e3 e4 e5 e7 HK ?_ H'⟩
      · rw [if_pos ⟨by omega, by omega⟩] at hd
        refine H' _ (by omega) ?_
        rw [hd]
        exact dsg_lo e3 e4 e5 la lb lt e6' (by omega) (by omega)
      · rw [hd, if_neg (fun q => c2 (by omega))]
      · rw [hd, if_neg (fun q => c1 (by omega))]
  have LT : ∀ (j a b : Nat) (K : Int) (c3 c4 c5 : Int32) (o6 : Option Value) (y z : Nat), j ≤ 7 → a ≤ 3 → b ≤ 3 → c3.toInt = a → c4.toInt = b → c5.toInt = ((8 - j : Nat) : Int) → (∀ (o5 o6 : Option Value) (y z : Nat), dT a b i k K 7 = K → jB_X12_design_32 X d Q p a1 a2 c3 (c4 + 1) o5 o6 h y z) → dT a b i k K 7 = dT a b i k K j → (∀ r : Int32, r.toInt = dT a b i k K 7 → Q (some (.int r)) h) → jB_X12_design_41 X d Q p a1 a2 c3 c4 c5 o6 h y z := by
    intro j
    induction j with
    | zero =>
      intro a b K c3 c4 c5 o6 y z hj la lb e3 e4 e5 HK hd H'
      exact jT_X12_design_41 (jif_n (by rw [ti_lt, e5]; decide) (HK _ _ _ _ hd))
    | succ j ih =>
      intro a b K c3 c4 c5 o6 y z hj la lb e3 e4 e5 HK hd H'
      have e5' : c5.toInt = ((7 - j : Nat) : Int) := by omega
      have e6 : (c5 + 1).toInt = ((8 - j : Nat) : Int) := (by simp only [Int32.toInt_add, Int32.toInt_sub, Int32.toInt_mul, Int32.toInt_neg, Int.bmod_def, tl]; omega)
      rw [dT_s j] at hd
      refine jT_X12_design_41 (jif_t (by rw [ti_lt, e5, show (8 : Int32).toInt = 8 from rfl]; omega) ?_)
      refine LC 9 a b (7 - j) c3 c4 c5 1 _ _ (by omega) la lb (by omega) e3 e4 e5' rfl (fun o6 y z q => ?_) rfl (fun r q hr => ?_)
      · rw [if_pos q] at hd
        exact ih a b K _ _ _ _ _ _ (by omega) la lb e3 e4 e6 HK hd H'
      · rw [if_neg q] at hd
        exact H' r (by rw [hd]; exact hr)
  have LB : ∀ (j a : Nat) (K : Int) (c3 c4 : Int32) (o5 o6 : Option Value) (y z : Nat), j ≤ 3 → a ≤ 3 → c3.toInt = a → c4.toInt = ((4 - j : Nat) : Int) → (∀ (o4 o5 o6 : Option Value) (y z : Nat), dB a i k K 3 = K → jB_X12_design_24 X d Q p a1 a2 (c3 + 1) o4 o5 o6 h y z) → dB a i k K 3 = dB a i k K j → (∀ r : Int32, r.toInt = dB a i k K 3 → Q (some (.int r)) h) → jB_X12_design_32 X d Q p a1 a2 c3 c4 o5 o6 h y z := by
    intro j
    induction j with
    | zero =>
      intro a K c3 c4 o5 o6 y z hj la e3 e4 HK hd H'
      exact jT_X12_design_32 (jif_n (by rw [ti_lt, e4]; decide) (HK _ _ _ _ _ hd))
    | succ j ih =>
      intro a K c3 c4 o5 o6 y z hj la e3 e4 HK hd H'
      have e4' : c4.toInt = ((3 - j : Nat) : Int) := by omega
      have e6 : (c4 + 1).toInt = ((4 - j : Nat) : Int) := (by simp only [Int32.toInt_add, Int32.toInt_sub, Int32.toInt_mul, Int32.toInt_neg, Int.bmod_def, tl]; omega)
      rw [dB_s j] at hd
      refine jT_X12_design_32 (jif_t (by rw [ti_lt, e4, show (4 : Int32).toInt = 4 from rfl]; omega) ?_)
      refine LT 7 a (3 - j) (dB a i k K j) c3 c4 1 _ _ _ (by omega) la (by omega) e3 e4' rfl (fun o5 o6 y z q => ?_) rfl (fun r hr => H' r (by rw [hd]; exact hr))
      exact ih a K _ _ _ _ _ _ (by omega) la e3 e6 HK (hd.trans q) H'
  have LA : ∀ (j : Nat) (c3 : Int32) (o4 o5 o6 : Option Value) (y z : Nat), j ≤ 3 → c3.toInt = ((4 - j : Nat) : Int) → dA i k 3 = dA i k j → jB_X12_design_24 X d Q p a1 a2 c3 o4 o5 o6 h y z := by
    intro j
    induction j with
    | zero =>
      intro c3 o4 o5 o6 y z hj e3 hd
      exact jT_X12_design_24 (jif_n (by rw [ti_lt, e3]; decide) (H _ (by rw [hd]; rfl)))
    | succ j ih =>
      intro c3 o4 o5 o6 y z hj e3 hd
      have e3' : c3.toInt = ((3 - j : Nat) : Int) := by omega
      have e5 : (c3 + 1).toInt = ((4 - j : Nat) : Int) := (by simp only [Int32.toInt_add, Int32.toInt_sub, Int32.toInt_mul, Int32.toInt_neg, Int.bmod_def, tl]; omega)
      rw [dA_s j] at hd
      refine jT_X12_design_24 (jif_t (by rw [ti_lt, e3, show (4 : Int32).toInt = 4 from rfl]; omega) ?_)
      exact LB 3 (3 - j) (dA i k j) c3 1 _ _ _ _ (by omega) (by omega) e3' rfl (fun o4 o5 o6 y z q => ih _ _ _ _ _ _ (by omega) e5 (hd.trans q)) rfl (fun r hr => H r (by rw [hd]; exact hr))
  exact LA 3 1 _ _ _ _ _ (by omega) rfl rfl
theorem a_design {X : JX} {h : JH} {a1 a2 : Int32} : AGR X 267 270 [.int a1, .int a2] h (fun h2 => fr [] [] h h2) := by
  intro Q K
  rw [jE_X11_design]
  refine jT_X11_design_0 ?_
  have bad : ¬ (1 ≤ a1.toInt ∧ a1.toInt ≤ 3 ∧ 1 ≤ a2.toInt ∧ a2.toInt ≤ 3) → Q (some (.int (-1))) h := by
    intro cc
    refine K _ _ (fun Q2 H => ?_)
    rw [jE_X12_design]
    refine jT_X12_design_0 ?_
    simp (decide := true) only [ti_lt, tl]
    have HH := H _ fr_rfl
    exact ⟨fun _ => HH, fun _ => ⟨fun _ => HH, fun _ => ⟨fun _ => HH, fun _ => ⟨fun _ => HH, fun _ => absurd (by omega) cc⟩⟩⟩⟩
  simp (decide := true) only [ti_lt, tl]
  refine ⟨fun c => bad (by omega), fun c1 => ⟨fun c => bad (by omega), fun c2 => ⟨fun c => bad (by omega), fun c3 => ⟨fun c => bad (by omega), fun c4 => ?_⟩⟩⟩⟩
  refine c_firstFor (i := a1.toInt.toNat) (k := a2.toInt.toNat) (by omega) (by omega) (by omega) (by omega) (fun r hr => ?_)
  refine K _ _ (fun Q2 H => ?_)
  rw [jE_X12_design]
  refine jT_X12_design_0 ?_
  simp (decide := true) only [ti_lt, tl]
  repeat (first | refine jif_t (by omega) ?_ | refine jif_n (by omega) ?_ | refine ⟨by omega, ?_⟩)
  refine l_design (i := a1.toInt.toNat) (k := a2.toInt.toNat) (by omega) (by omega) (by omega) (by omega) (fun r' hr' => ?_) _ _ _
  rw [show r' = r by rw [ti_eq, hr, hr']]
  exact H _ fr_rfl
end DSG
