/-! TOKENS: the model's (the rows wb_ are kit/laws' own, given for pasting) -/
theorem wb_tb (n : Nat) : (lN n).toBitVec = BitVec.ofNat 64 n := rfl
theorem wb_inj {a b : Int64} (h : a.toBitVec = b.toBitVec) : a = b := Int64.toBitVec_inj.mp h
theorem wb_c : ∀ k, k < 64 → ((nI k).toInt64 &&& 63) = lN k := by decide +kernel
theorem wb_sm : ∀ k, k < 64 → (BitVec.ofNat 64 k).smod 64 = BitVec.ofNat 64 k := by decide +kernel
theorem wb_shl (n : Nat) {k : Nat} (hk : k < 64) : lN n <<< ((nI k).toInt64 &&& 63) = lN (n * 2 ^ k) := by
  rw [wb_c k hk]
  apply wb_inj
  rw [Int64.toBitVec_shiftLeft, wb_tb, wb_tb, wb_tb, wb_sm k hk]
  apply BitVec.eq_of_toNat_eq
  rw [BitVec.shiftLeft_eq', BitVec.toNat_shiftLeft, BitVec.toNat_ofNat, BitVec.toNat_ofNat, BitVec.toNat_ofNat, Nat.mod_eq_of_lt (show k < 2 ^ 64 by omega), Nat.shiftLeft_eq, Nat.mul_mod, Nat.mod_mod, ← Nat.mul_mod]
theorem wb_or {a b : Nat} (ha : a < 2 ^ 64) (hb : b < 2 ^ 64) : lN a ||| lN b = lN (a ||| b) := by
  apply wb_inj
  rw [Int64.toBitVec_or, wb_tb, wb_tb, wb_tb]
  apply BitVec.eq_of_toNat_eq
  rw [BitVec.toNat_or, BitVec.toNat_ofNat, BitVec.toNat_ofNat, BitVec.toNat_ofNat, Nat.mod_eq_of_lt ha, Nat.mod_eq_of_lt hb, Nat.mod_eq_of_lt (Nat.or_lt_two_pow ha hb)]
theorem l8_or {a x : Nat} (ha : 2 * a < 2 ^ 56) (hx : x < 256) : (lN a <<< (Int32.toInt64 8 &&& 63)) ||| lN x = lN (256 * a + x) := by
  rw [show lN a <<< (Int32.toInt64 8 &&& 63) = lN (a * 2 ^ 8) from wb_shl a (by decide), wb_or (by omega) (by omega)]
  have := Nat.shiftLeft_add_eq_or_of_lt (a := a) (b := x) (i := 8) (by omega)
  rw [Nat.shiftLeft_eq] at this
  rw [← this, Nat.mul_comm]
/-- the model's tape -/
def TM (h : JH) (t : Nat → Int) (N : Nat) : Prop := fI h 81 1 = nI N ∧ N ≤ 2000 ∧ ∀ i, i < N → 0 ≤ t i ∧ t i ≤ 255 ∧ (aF h 82 i).toInt = sg (t i)
def byM (t : Nat → Int) (N i : Nat) : Int := if i < N then sg (t i) else 0
def MTF : List (Nat × Nat) := [(81, 19), (81, 20), (81, 21), (81, 22), (81, 23)]
def mkK (k : Nat) : Int32 := if k = 1 then 0 else if k = 2 then 1 else if k = 3 then 2 else if k = 0 then 5 else if k ≤ 14 then 4 else 3
def sgM (k : Nat) : Int32 := if k = 15 then 59 else if k = 16 then 61 else if k = 17 then 300 else if k = 18 then 60 else if k = 19 then 42 else 47
def MT (h : JH) (t : Nat → Int) (N b : Nat) : Prop := fI h 81 20 = nI b ∧ fI h 81 21 = nI (tkZ t N b) ∧ fI h 81 19 = mkK (tkK t N b) ∧ (4 ≤ tkK t N b ∧ tkK t N b ≤ 14 → fI h 81 22 = kwM (tkK t N b)) ∧ (15 ≤ tkK t N b → fI h 81 22 = sgM (tkK t N b)) ∧ (tkK t N b = 2 → fL h 81 23 = lN (c08 t b (tkE tkL t N b - b)))
theorem sg_L {x : Int} (h : 0 ≤ x) (h2 : x ≤ 255) : (97 ≤ sg x ∧ sg x ≤ 122) ↔ (97 ≤ x ∧ x ≤ 122) := by unfold sg; split <;> omega
theorem sg_D {x : Int} (h : 0 ≤ x) (h2 : x ≤ 255) : (48 ≤ sg x ∧ sg x ≤ 57) ↔ (48 ≤ x ∧ x ≤ 57) := by unfold sg; split <;> omega
theorem sg_c {x c : Int} (h : 0 ≤ x) (h2 : x ≤ 255) (c0 : 0 ≤ c) (c1 : c ≤ 127) : sg x = c ↔ x = c := by unfold sg; split <;> omega
section MTK
variable {X : JX} {d : Nat} {Q : JQ} {h : JH} {N : Nat} {t : Nat → Int}
theorem TM_fr {F : List (Nat × Nat)} {A : List Nat} {h1 : JH} (tm : TM h t N) (k : fr A F h h1) (hF : (81, 1) ∉ F) (hA : 82 ∉ A) : TM h1 t N := by
  refine ⟨?_, tm.2.1, ?_⟩
  · rw [frI k hF (by decide)]; exact tm.1
  · rw [frF k hA]; exact tm.2.2
theorem c_at (g : G h) (tm : TM h t N) {i : Nat} (hi : i < 10000) (H : ∀ x : Int32, x.toInt = byM t N i → Q (some (.int x)) h) : jex X (d + 1) 71 [.ref 81, .int (nI i)] h Q := by
  have hN := tm.2.1
  rw [jE_X12_at]
  refine jT_X12_at_0 ?_
  simp (decide := true) only [jgI_ob, jgf_ob, jgL_ob, jpI_ob, jpL_ob, jpR_ob, jpN_ob, jrc_ob, obj_sV, obj_wF, obj_wG, obj_wR, arr_sV, arr_wF, arr_wG, arr_wR, arL_sV, arL_wF, arL_wG, arL_wR, arR_sV, arR_wF, arR_wG, arR_wR, fI_sV (c := 0), fI_sV (c := 1), fI_sV (c := 2), fI_sV (c := 4), fI_sV (c := 5), fI_sV (c := 7), fI_sV (c := 8), fI_sV (c := 9), fI_sV (c := 10), fI_sV (c := 11), fI_sV (c := 12), fI_sV (c := 6), fL_sV (c := 9), fL_sV (c := 12), fI_sV_k, fL_sV_k, fV_sV_k, fI_wF, fI_wG, fI_wR, fL_wF, fL_wG, fL_wR, fV_wF, fV_wG, fV_wR, aF_sV, aG_sV, aR_sV, aF_wG, aF_wR, aG_wF, aG_wR, aR_wF, aR_wG, kC, kM, gM g, gN g, tm.1]
  by_cases c : i < N
  · refine jif_t (nI_lt c (by omega)) ⟨by rw [vp_inI, nI_toInt (by omega)]; omega, ?_⟩
    rw [nI_clamp (by omega)]
    exact H _ (by rw [(tm.2.2 i c).2.2]; exact (if_pos c).symm)
  · exact jif_n (nI_nlt (by omega) (by omega)) (H _ (if_neg c).symm)
theorem c_mLetter (g : G h) (tm : TM h t N) {i : Nat} (hi : i < 10000) (H1 : i < N → tkL (t i) = true → Q (some (.int 1)) h) (H0 : (i < N → tkL (t i) = false) → Q (some (.int 0)) h) : jex X (d + 2) 70 [.ref 81, .int (nI i)] h Q := by
  have hs := fun c : i < N => sg_L (tm.2.2 i c).1 (tm.2.2 i c).2.1
  have h1 : ∀ x : Int32, x.toInt = byM t N i → 97 ≤ x.toInt → x.toInt ≤ 122 → Q (some (.int 1)) h := by
    intro x e c1 c2
    rw [e] at c1 c2
    unfold byM at c1 c2
    by_cases c : i < N
    · rw [if_pos c] at c1 c2
      exact H1 c (decide_eq_true ((hs c).1 ⟨c1, c2⟩))
    · rw [if_neg c] at c1 c2
      omega
  have h0 : ∀ x : Int32, x.toInt = byM t N i → ¬ (97 ≤ x.toInt ∧ x.toInt ≤ 122) → Q (some (.int 0)) h := by
    intro x e c1
    refine H0 (fun c => decide_eq_false (fun q => c1 ?_))
    rw [e]
    unfold byM
    rw [if_pos c]
    exact (hs c).2 q
  rw [jE_X12_isLetter]
  refine jT_X12_isLetter_0 ?_
  rw [jrc_ob (by simp only [gM g])]
  refine c_at g tm hi (fun x hx => ?_)
  try dsimp only [jrI, jrN, jrA, jisr, jnul, jcat1]
  have e97 : (97 : Int32).toInt = 97 := rfl
  have e122 : (122 : Int32).toInt = 122 := rfl
  refine ⟨fun c => ⟨by decide, h0 x hx ?_⟩, fun c => ?_⟩
  · rw [ti_lt, e97] at c; omega
  · rw [jrc_ob (by simp only [gM g])]
    refine c_at g tm hi (fun y hy => ?_)
    try dsimp only [jrI, jrN, jrA, jisr, jnul, jcat1]
    rw [ti_lt, e97] at c
    refine ⟨fun c2 => ⟨by decide, h0 y hy ?_⟩, fun c2 => ⟨by decide, h1 y hy ?_ ?_⟩⟩
    · rw [ti_lt, e122] at c2; omega
    · rw [hy, ← hx]; omega
    · rw [ti_lt, e122] at c2; omega
theorem c_mDigit (g : G h) (tm : TM h t N) {i : Nat} (hi : i < 10000) (H1 : i < N → tkD (t i) = true → Q (some (.int 1)) h) (H0 : (i < N → tkD (t i) = false) → Q (some (.int 0)) h) : jex X (d + 2) 74 [.ref 81, .int (nI i)] h Q := by
  have hs := fun c : i < N => sg_D (tm.2.2 i c).1 (tm.2.2 i c).2.1
  have h1 : ∀ x : Int32, x.toInt = byM t N i → 48 ≤ x.toInt → x.toInt ≤ 57 → Q (some (.int 1)) h := by
    intro x e c1 c2
    rw [e] at c1 c2
    unfold byM at c1 c2
    by_cases c : i < N
    · rw [if_pos c] at c1 c2
      exact H1 c (decide_eq_true ((hs c).1 ⟨c1, c2⟩))
    · rw [if_neg c] at c1 c2
      omega
  have h0 : ∀ x : Int32, x.toInt = byM t N i → ¬ (48 ≤ x.toInt ∧ x.toInt ≤ 57) → Q (some (.int 0)) h := by
    intro x e c1
    refine H0 (fun c => decide_eq_false (fun q => c1 ?_))
    rw [e]
    unfold byM
    rw [if_pos c]
    exact (hs c).2 q
  rw [jE_X12_isDigit]
  refine jT_X12_isDigit_0 ?_
  rw [jrc_ob (by simp only [gM g])]
  refine c_at g tm hi (fun x hx => ?_)
  try dsimp only [jrI, jrN, jrA, jisr, jnul, jcat1]
  have e48 : (48 : Int32).toInt = 48 := rfl
  have e57 : (57 : Int32).toInt = 57 := rfl
  refine ⟨fun c => ⟨by decide, h0 x hx ?_⟩, fun c => ?_⟩
  · rw [ti_lt, e48] at c; omega
  · rw [jrc_ob (by simp only [gM g])]
    refine c_at g tm hi (fun y hy => ?_)
    try dsimp only [jrI, jrN, jrA, jisr, jnul, jcat1]
    rw [ti_lt, e48] at c
    refine ⟨fun c2 => ⟨by decide, h0 y hy ?_⟩, fun c2 => ⟨by decide, h1 y hy ?_ ?_⟩⟩
    · rw [ti_lt, e57] at c2; omega
    · rw [hy, ← hx]; omega
    · rw [ti_lt, e57] at c2; omega
theorem c_keyword {a : Nat} (ha : a < 9223372036854775808) (H : Q (some (.int (kw8 a))) h) : jex X (d + 1) 73 [.long (lN a)] h Q := by
  rw [jE_X12_keyword]
  refine jT_X12_keyword_0 ?_
  have e : ∀ b : Nat, b < 9223372036854775808 → (lg_cmp (lN a) (lN b) = 0 ↔ a = b) := fun b hb => by rw [lg_cmp_eq, lN_big ha hb]
  unfold kw8 at H
  refine ⟨fun c => ?_, fun c0 => ?_⟩
  · rw [if_pos ((e 7103860 (by decide)).1 c)] at H; exact H
  rw [if_neg (fun q => c0 ((e 7103860 (by decide)).2 q))] at H
  refine ⟨fun c => ?_, fun c0 => ?_⟩
  · rw [if_pos ((e 125780002955636 (by decide)).1 c)] at H; exact H
  rw [if_neg (fun q => c0 ((e 125780002955636 (by decide)).2 q))] at H
  refine ⟨fun c => ?_, fun c0 => ?_⟩
  · rw [if_pos ((e 26982 (by decide)).1 c)] at H; exact H
  rw [if_neg (fun q => c0 ((e 26982 (by decide)).2 q))] at H
  refine ⟨fun c => ?_, fun c0 => ?_⟩
  · rw [if_pos ((e 1701606245 (by decide)).1 c)] at H; exact H
  rw [if_neg (fun q => c0 ((e 1701606245 (by decide)).2 q))] at H
  refine ⟨fun c => ?_, fun c0 => ?_⟩
  · rw [if_pos ((e 6647396 (by decide)).1 c)] at H; exact H
  rw [if_neg (fun q => c0 ((e 6647396 (by decide)).2 q))] at H
  refine ⟨fun c => ?_, fun c0 => ?_⟩
  · rw [if_pos ((e 126948267617401 (by decide)).1 c)] at H; exact H
  rw [if_neg (fun q => c0 ((e 126948267617401 (by decide)).2 q))] at H
  refine ⟨fun c => ?_, fun c0 => ?_⟩
  · rw [if_pos ((e 126931137819237 (by decide)).1 c)] at H; exact H
  rw [if_neg (fun q => c0 ((e 126931137819237 (by decide)).2 q))] at H
  refine ⟨fun c => ?_, fun c0 => ?_⟩
  · rw [if_pos ((e 1668637285 (by decide)).1 c)] at H; exact H
  rw [if_neg (fun q => c0 ((e 1668637285 (by decide)).2 q))] at H
  refine ⟨fun c => ?_, fun c0 => ?_⟩
  · rw [if_pos ((e 1919905652 (by decide)).1 c)] at H; exact H
  rw [if_neg (fun q => c0 ((e 1919905652 (by decide)).2 q))] at H
  refine ⟨fun c => ?_, fun c0 => ?_⟩
  · rw [if_pos ((e 499967947364 (by decide)).1 c)] at H; exact H
  rw [if_neg (fun q => c0 ((e 499967947364 (by decide)).2 q))] at H
  refine ⟨fun c => ?_, fun c0 => ?_⟩
  · rw [if_pos ((e 1870030194 (by decide)).1 c)] at H; exact H
  rw [if_neg (fun q => c0 ((e 1870030194 (by decide)).2 q))] at H
  exact H
/-- how a token's fields stand at the end of a cutting: kind, then end -/
theorem MT_mk {h1 : JH} (g1 : G h1) {b : Nat} {w : Int32} {z : Nat} (f20 : fI h1 81 20 = nI b) (ew : w = mkK (tkK t N b)) (ez : z = tkZ t N b) (f22 : (4 ≤ tkK t N b ∧ tkK t N b ≤ 14 → fI h1 81 22 = kwM (tkK t N b)) ∧ (15 ≤ tkK t N b → fI h1 81 22 = sgM (tkK t N b)) ∧ (tkK t N b = 2 → fL h1 81 23 = lN (c08 t b (tkE tkL t N b - b)))) : MT (sV (sV h1 81 19 (.int w)) 81 21 (.int (nI z))) t N b := by
  unfold MT
  simp (decide := true) only [jgI_ob, jgf_ob, jgL_ob, jpI_ob, jpL_ob, jpR_ob, jpN_ob, jrc_ob, obj_sV, obj_wF, obj_wG, obj_wR, arr_sV, arr_wF, arr_wG, arr_wR, arL_sV, arL_wF, arL_wG, arL_wR, arR_sV, arR_wF, arR_wG, arR_wR, fI_sV (c := 0), fI_sV (c := 1), fI_sV (c := 2), fI_sV (c := 4), fI_sV (c := 5), fI_sV (c := 7), fI_sV (c := 8), fI_sV (c := 9), fI_sV (c := 10), fI_sV (c := 11), fI_sV (c := 12), fI_sV (c := 6), fL_sV (c := 9), fL_sV (c := 12), fI_sV_k, fL_sV_k, fV_sV_k, fI_wF, fI_wG, fI_wR, fL_wF, fL_wG, fL_wR, fV_wF, fV_wG, fV_wR, aF_sV, aG_sV, aR_sV, aF_wG, aF_wR, aG_wF, aG_wR, aR_wF, aR_wG, gM g1]
  exact ⟨f20, by rw [ez], ew, f22⟩
theorem c_wordToken (g : G h) (tm : TM h t N) {b : Nat} (h20 : fI h 81 20 = nI b) (hb : b < N) (hl : tkL (t b) = true) (H : ∀ h1, fr [] MTF h h1 → MT h1 t N b → Q none h1) : jex X (d + 3) 72 [.ref 81] h Q := by
  have hN := tm.2.1
  have eK : tkK t N b = if 8 < tkE tkL t N b - b then 0 else kwK (c27 t b (tkE tkL t N b - b)) := by
    unfold tkK
    rw [if_neg (by omega), if_pos hl]
  have eZ : tkZ t N b = tkE tkL t N b := by
    unfold tkZ
    rw [if_neg (by omega), if_pos hl]
  have hg : b ≤ tkE tkL t N b := tkE_ge
  have hzN : tkE tkL t N b ≤ N := tkE_le (by omega)
  have hin : ∀ i, i < tkE tkL t N b - b → 97 ≤ t (b + i) ∧ t (b + i) ≤ 122 := fun i hi => tkL_of (tkE_in (N := N) (i := b) (by omega) (by omega))
  -- behind the letters
  have V : ∀ (h1 : JH) (o : Option Value) (c z : Nat), fr [] MTF h h1 → fI h1 81 20 = nI b → (¬ 8 < tkE tkL t N b - b → fL h1 81 23 = lN (c08 t b (tkE tkL t N b - b))) → jB_X12_wordToken_72 X (d + 2) Q 81 (nI (tkE tkL t N b)) o h1 c z := by
    intro h1 o c z k f20 f23
    have g1 := G_fr g rfl k
    refine jT_X12_wordToken_72 ?_
    rw [jgI_ob (c := 12) (by simp only [gM g1]) rfl, f20, pk_sub hg]
    refine ⟨fun c8 => ?_, fun c8 => ?_⟩
    · have d8 := (nI_ltI (a := 8) (by omega) (by omega)).1 c8
      rw [if_pos d8] at eK
      rw [jpI_ob (c := 12) (by simp only [gM g1]) rfl]
      have k2 : fr [] MTF h (sV h1 81 22 (.int (-1))) := fr_sV (by decide) k
      have g2 := G_fr g rfl k2
      have f20' : fI (sV h1 81 22 (.int (-1))) 81 20 = nI b := by simp (decide := true) only [jgI_ob, jgf_ob, jgL_ob, jpI_ob, jpL_ob, jpR_ob, jpN_ob, jrc_ob, obj_sV, obj_wF, obj_wG, obj_wR, arr_sV, arr_wF, arr_wG, arr_wR, arL_sV, arL_wF, arL_wG, arL_wR, arR_sV, arR_wF, arR_wG, arR_wR, fI_sV (c := 0), fI_sV (c := 1), fI_sV (c := 2), fI_sV (c := 4), fI_sV (c := 5), fI_sV (c := 7), fI_sV (c := 8), fI_sV (c := 9), fI_sV (c := 10), fI_sV (c := 11), fI_sV (c := 12), fI_sV (c := 6), fL_sV (c := 9), fL_sV (c := 12), fI_sV_k, fL_sV_k, fV_sV_k, fI_wF, fI_wG, fI_wR, fL_wF, fL_wG, fL_wR, fV_wF, fV_wG, fV_wR, aF_sV, aG_sV, aR_sV, aF_wG, aF_wR, aG_wF, aG_wR, aR_wF, aR_wG, gM g1, f20]
      generalize sV h1 81 22 (.int (-1)) = h2 at *
      rw [jgI_ob (c := 12) (by simp only [gM g2]) rfl, f20', pk_sub hg]
      refine jif_t c8 ?_
      simp (decide := true) only [jgI_ob, jgf_ob, jgL_ob, jpI_ob, jpL_ob, jpR_ob, jpN_ob, jrc_ob, obj_sV, obj_wF, obj_wG, obj_wR, arr_sV, arr_wF, arr_wG, arr_wR, arL_sV, arL_wF, arL_wG, arL_wR, arR_sV, arR_wF, arR_wG, arR_wR, fI_sV (c := 0), fI_sV (c := 1), fI_sV (c := 2), fI_sV (c := 4), fI_sV (c := 5), fI_sV (c := 7), fI_sV (c := 8), fI_sV (c := 9), fI_sV (c := 10), fI_sV (c := 11), fI_sV (c := 12), fI_sV (c := 6), fL_sV (c := 9), fL_sV (c := 12), fI_sV_k, fL_sV_k, fV_sV_k, fI_wF, fI_wG, fI_wR, fL_wF, fL_wG, fL_wR, fV_wF, fV_wG, fV_wR, aF_sV, aG_sV, aR_sV, aF_wG, aF_wR, aG_wF, aG_wR, aR_wF, aR_wG, gM g2]
      refine H _ (fr_sV (by decide) (fr_sV (by decide) k2)) (MT_mk g2 f20' ?_ eZ.symm ?_)
      · rw [eK]; rfl
      · rw [eK]; exact ⟨fun q => by omega, fun q => by omega, fun q => by omega⟩
    · have d8 : ¬ 8 < tkE tkL t N b - b := fun q => c8 ((nI_ltI (a := 8) (by omega) (by omega)).2 q)
      rw [if_neg d8] at eK
      have w8 := c08_lt (t := t) (b := b) _ hin
      have p8 : (256 : Nat) ^ (tkE tkL t N b - b) ≤ 256 ^ 8 := Nat.pow_le_pow_right (by decide) (by omega)
      rw [jgL_ob (c := 12) (by simp only [gM g1]) rfl, f23 d8]
      refine c_keyword (by omega) ?_
      rw [kw_8 hin]
      have kr := kwK_r (c27 t b (tkE tkL t N b - b))
      rw [← eK] at kr ⊢
      try dsimp only [jrI, jrN, jrA, jisr, jnul, jcat1]
      rw [jpI_ob (c := 12) (by simp only [gM g1]) rfl]
      have k2 : fr [] MTF h (sV h1 81 22 (.int (kwM (tkK t N b)))) := fr_sV (by decide) k
      have g2 := G_fr g rfl k2
      have f20' : fI (sV h1 81 22 (.int (kwM (tkK t N b)))) 81 20 = nI b := by simp (decide := true) only [jgI_ob, jgf_ob, jgL_ob, jpI_ob, jpL_ob, jpR_ob, jpN_ob, jrc_ob, obj_sV, obj_wF, obj_wG, obj_wR, arr_sV, arr_wF, arr_wG, arr_wR, arL_sV, arL_wF, arL_wG, arL_wR, arR_sV, arR_wF, arR_wG, arR_wR, fI_sV (c := 0), fI_sV (c := 1), fI_sV (c := 2), fI_sV (c := 4), fI_sV (c := 5), fI_sV (c := 7), fI_sV (c := 8), fI_sV (c := 9), fI_sV (c := 10), fI_sV (c := 11), fI_sV (c := 12), fI_sV (c := 6), fL_sV (c := 9), fL_sV (c := 12), fI_sV_k, fL_sV_k, fV_sV_k, fI_wF, fI_wG, fI_wR, fL_wF, fL_wG, fL_wR, fV_wF, fV_wG, fV_wR, aF_sV, aG_sV, aR_sV, aF_wG, aF_wR, aG_wF, aG_wR, aR_wF, aR_wG, gM g1, f20]
      have f22' : fI (sV h1 81 22 (.int (kwM (tkK t N b)))) 81 22 = kwM (tkK t N b) := by simp (decide := true) only [jgI_ob, jgf_ob, jgL_ob, jpI_ob, jpL_ob, jpR_ob, jpN_ob, jrc_ob, obj_sV, obj_wF, obj_wG, obj_wR, arr_sV, arr_wF, arr_wG, arr_wR, arL_sV, arL_wF, arL_wG, arL_wR, arR_sV, arR_wF, arR_wG, arR_wR, fI_sV (c := 0), fI_sV (c := 1), fI_sV (c := 2), fI_sV (c := 4), fI_sV (c := 5), fI_sV (c := 7), fI_sV (c := 8), fI_sV (c := 9), fI_sV (c := 10), fI_sV (c := 11), fI_sV (c := 12), fI_sV (c := 6), fL_sV (c := 9), fL_sV (c := 12), fI_sV_k, fL_sV_k, fV_sV_k, fI_wF, fI_wG, fI_wR, fL_wF, fL_wG, fL_wR, fV_wF, fV_wG, fV_wR, aF_sV, aG_sV, aR_sV, aF_wG, aF_wR, aG_wF, aG_wR, aR_wF, aR_wG, gM g1]
      have f23' : fL (sV h1 81 22 (.int (kwM (tkK t N b)))) 81 23 = lN (c08 t b (tkE tkL t N b - b)) := by simp (decide := true) only [jgI_ob, jgf_ob, jgL_ob, jpI_ob, jpL_ob, jpR_ob, jpN_ob, jrc_ob, obj_sV, obj_wF, obj_wG, obj_wR, arr_sV, arr_wF, arr_wG, arr_wR, arL_sV, arL_wF, arL_wG, arL_wR, arR_sV, arR_wF, arR_wG, arR_wR, fI_sV (c := 0), fI_sV (c := 1), fI_sV (c := 2), fI_sV (c := 4), fI_sV (c := 5), fI_sV (c := 7), fI_sV (c := 8), fI_sV (c := 9), fI_sV (c := 10), fI_sV (c := 11), fI_sV (c := 12), fI_sV (c := 6), fL_sV (c := 9), fL_sV (c := 12), fI_sV_k, fL_sV_k, fV_sV_k, fI_wF, fI_wG, fI_wR, fL_wF, fL_wG, fL_wR, fV_wF, fV_wG, fV_wR, aF_sV, aG_sV, aR_sV, aF_wG, aF_wR, aG_wF, aG_wR, aR_wF, aR_wG, gM g1]; exact f23 d8
      generalize sV h1 81 22 (.int (kwM (tkK t N b))) = h2 at *
      rw [jgI_ob (c := 12) (by simp only [gM g2]) rfl, f20', pk_sub hg]
      refine jif_n c8 ?_
      rw [jgI_ob (c := 12) (by simp only [gM g2]) rfl, f22']
      have nn := kwM_neg kr
      refine ⟨fun cn => ?_, fun cn => ?_⟩
      · have k2' := nn.1 cn
        simp (decide := true) only [jgI_ob, jgf_ob, jgL_ob, jpI_ob, jpL_ob, jpR_ob, jpN_ob, jrc_ob, obj_sV, obj_wF, obj_wG, obj_wR, arr_sV, arr_wF, arr_wG, arr_wR, arL_sV, arL_wF, arL_wG, arL_wR, arR_sV, arR_wF, arR_wG, arR_wR, fI_sV (c := 0), fI_sV (c := 1), fI_sV (c := 2), fI_sV (c := 4), fI_sV (c := 5), fI_sV (c := 7), fI_sV (c := 8), fI_sV (c := 9), fI_sV (c := 10), fI_sV (c := 11), fI_sV (c := 12), fI_sV (c := 6), fL_sV (c := 9), fL_sV (c := 12), fI_sV_k, fL_sV_k, fV_sV_k, fI_wF, fI_wG, fI_wR, fL_wF, fL_wG, fL_wR, fV_wF, fV_wG, fV_wR, aF_sV, aG_sV, aR_sV, aF_wG, aF_wR, aG_wF, aG_wR, aR_wF, aR_wG, gM g2]
        refine H _ (fr_sV (by decide) (fr_sV (by decide) k2)) (MT_mk g2 f20' ?_ eZ.symm ⟨fun q => by omega, fun q => by omega, fun _ => f23'⟩)
        rw [k2']; rfl
      · have k2' : tkK t N b ≠ 2 := fun q => cn (nn.2 q)
        simp (decide := true) only [jgI_ob, jgf_ob, jgL_ob, jpI_ob, jpL_ob, jpR_ob, jpN_ob, jrc_ob, obj_sV, obj_wF, obj_wG, obj_wR, arr_sV, arr_wF, arr_wG, arr_wR, arL_sV, arL_wF, arL_wG, arL_wR, arR_sV, arR_wF, arR_wG, arR_wR, fI_sV (c := 0), fI_sV (c := 1), fI_sV (c := 2), fI_sV (c := 4), fI_sV (c := 5), fI_sV (c := 7), fI_sV (c := 8), fI_sV (c := 9), fI_sV (c := 10), fI_sV (c := 11), fI_sV (c := 12), fI_sV (c := 6), fL_sV (c := 9), fL_sV (c := 12), fI_sV_k, fL_sV_k, fV_sV_k, fI_wF, fI_wG, fI_wR, fL_wF, fL_wG, fL_wR, fV_wF, fV_wG, fV_wR, aF_sV, aG_sV, aR_sV, aF_wG, aF_wR, aG_wF, aG_wR, aR_wF, aR_wG, gM g2]
        refine H _ (fr_sV (by decide) (fr_sV (by decide) k2)) (MT_mk g2 f20' ?_ eZ.symm ⟨fun _ => f22', fun q => by omega, fun q => by omega⟩)
        unfold mkK
        rw [if_neg (by omega), if_neg (by omega), if_neg (by omega), if_neg (by omega), if_pos (by omega)]
  -- the letters' loop
  have L2 : ∀ (r n : Nat) (h1 : JH) (c z : Nat), b + n + r = tkE tkL t N b → fr [] MTF h h1 → fI h1 81 20 = nI b → (¬ 8 < tkE tkL t N b - b → fL h1 81 23 = lN (c08 t b n)) → jB_X12_wordToken_31 X (d + 2) Q 81 (nI (tkE tkL t N b)) (nI (b + n)) h1 c z := by
    intro r
    induction r with
    | zero =>
      intro n h1 c z hn k f20 f23
      rw [show n = tkE tkL t N b - b by omega] at f23
      exact jT_X12_wordToken_31 (jif_n (nI_nlt (by omega) (by omega)) (V h1 _ c z k f20 f23))
    | succ r ih =>
      intro n h1 c z hn k f20 f23
      have g1 := G_fr g rfl k
      refine jT_X12_wordToken_31 (jif_t (nI_lt (by omega) (by omega)) ?_)
      rw [jgI_ob (c := 12) (by simp only [gM g1]) rfl, f20, pk_sub hg]
      refine ⟨fun c9 => ?_, fun c9 => ?_⟩
      · have d9 := (nI_ltI (b := 9) (by omega) (by omega)).1 c9
        have f23 := f23 (by omega)
        have w8 := c08_lt (t := t) (b := b) n (fun i hi => hin i (by omega))
        have p8 : (256 : Nat) ^ n ≤ 256 ^ 7 := Nat.pow_le_pow_right (by decide) (by omega)
        have tt := TM_fr tm k (by decide) (by decide)
        have hn' := tt.2.2 (b + n) (by omega)
        have hi := hin n (by omega)
        have e82 : aF h1 82 (b + n) = nI (t (b + n)).toNat := by
          rw [ti_eq, hn'.2.2, nI_toInt (by omega)]
          unfold sg
          rw [if_pos (by omega)]
          omega
        simp (decide := true) only [jgI_ob, jgf_ob, jgL_ob, jpI_ob, jpL_ob, jpR_ob, jpN_ob, jrc_ob, obj_sV, obj_wF, obj_wG, obj_wR, arr_sV, arr_wF, arr_wG, arr_wR, arL_sV, arL_wF, arL_wG, arL_wR, arR_sV, arR_wF, arR_wG, arR_wR, fI_sV (c := 0), fI_sV (c := 1), fI_sV (c := 2), fI_sV (c := 4), fI_sV (c := 5), fI_sV (c := 7), fI_sV (c := 8), fI_sV (c := 9), fI_sV (c := 10), fI_sV (c := 11), fI_sV (c := 12), fI_sV (c := 6), fL_sV (c := 9), fL_sV (c := 12), fI_sV_k, fL_sV_k, fV_sV_k, fI_wF, fI_wG, fI_wR, fL_wF, fL_wG, fL_wR, fV_wF, fV_wG, fV_wR, aF_sV, aG_sV, aR_sV, aF_wG, aF_wR, aG_wF, aG_wR, aR_wF, aR_wG, kC, kM, gM g1, gN g1, f23]
        refine ⟨by rw [vp_inI, nI_toInt (by omega)]; omega, ?_⟩
        rw [nI_clamp (by omega), e82, nI_l (by omega), l8_or (by omega) (by omega), nI_1]
        refine ih (n + 1) _ _ _ (by omega) (fr_sV (by decide) k) ?_ (fun _ => ?_)
        · simp (decide := true) only [jgI_ob, jgf_ob, jgL_ob, jpI_ob, jpL_ob, jpR_ob, jpN_ob, jrc_ob, obj_sV, obj_wF, obj_wG, obj_wR, arr_sV, arr_wF, arr_wG, arr_wR, arL_sV, arL_wF, arL_wG, arL_wR, arR_sV, arR_wF, arR_wG, arR_wR, fI_sV (c := 0), fI_sV (c := 1), fI_sV (c := 2), fI_sV (c := 4), fI_sV (c := 5), fI_sV (c := 7), fI_sV (c := 8), fI_sV (c := 9), fI_sV (c := 10), fI_sV (c := 11), fI_sV (c := 12), fI_sV (c := 6), fL_sV (c := 9), fL_sV (c := 12), fI_sV_k, fL_sV_k, fV_sV_k, fI_wF, fI_wG, fI_wR, fL_wF, fL_wG, fL_wR, fV_wF, fV_wG, fV_wR, aF_sV, aG_sV, aR_sV, aF_wG, aF_wR, aG_wF, aG_wR, aR_wF, aR_wG, gM g1, f20]
        · simp (decide := true) only [jgI_ob, jgf_ob, jgL_ob, jpI_ob, jpL_ob, jpR_ob, jpN_ob, jrc_ob, obj_sV, obj_wF, obj_wG, obj_wR, arr_sV, arr_wF, arr_wG, arr_wR, arL_sV, arL_wF, arL_wG, arL_wR, arR_sV, arR_wF, arR_wG, arR_wR, fI_sV (c := 0), fI_sV (c := 1), fI_sV (c := 2), fI_sV (c := 4), fI_sV (c := 5), fI_sV (c := 7), fI_sV (c := 8), fI_sV (c := 9), fI_sV (c := 10), fI_sV (c := 11), fI_sV (c := 12), fI_sV (c := 6), fL_sV (c := 9), fL_sV (c := 12), fI_sV_k, fL_sV_k, fV_sV_k, fI_wF, fI_wG, fI_wR, fL_wF, fL_wG, fL_wR, fV_wF, fV_wG, fV_wR, aF_sV, aG_sV, aR_sV, aF_wG, aF_wR, aG_wF, aG_wR, aR_wF, aR_wG, gM g1]
          rfl
      · have d9 : 8 < tkE tkL t N b - b := by
          rcases Nat.lt_or_ge 8 (tkE tkL t N b - b) with q | q
          · exact q
          · exact absurd (nI_lt (b := 9) (by omega) (by omega)) c9
        exact V h1 _ c z k f20 (fun q => absurd d9 q)
  have L : ∀ (r e : Nat) (o : Option Value) (c z : Nat), e + r = 2001 → b ≤ e → tkE tkL t N b = tkE tkL t N e → jB_X12_wordToken_7 X (d + 2) Q 81 (nI e) o h c z := by
    intro r
    induction r with
    | zero =>
      intro e o c z he hbe ee
      rw [tkE_cap (i := e) (by omega)] at ee
      omega
    | succ r ih =>
      intro e o c z he hbe ee
      refine jT_X12_wordToken_7 ?_
      rw [jrc_ob (by simp only [gM g])]
      refine c_mLetter g tm (by omega) (fun c1 c2 => ?_) (fun c1 => ?_)
      · try dsimp only [jrI, jrN, jrA, jisr, jnul, jcat1]
        refine jif_n (by decide) ?_
        rw [nI_1]
        exact ih (e + 1) _ _ _ (by omega) (by omega) (by rw [ee, tkE_go c1 c2])
      · try dsimp only [jrI, jrN, jrA, jisr, jnul, jcat1]
        refine jif_t rfl ?_
        rw [tkE_st c1] at ee
        subst ee
        rw [jpL_ob (c := 12) (by simp only [gM g]) rfl]
        have k1 : fr [] MTF h (sV h 81 23 (.long 0)) := fr_sV (by decide) fr_rfl
        have q20 : fI (sV h 81 23 (.long 0)) 81 20 = nI b := by simp (decide := true) only [jgI_ob, jgf_ob, jgL_ob, jpI_ob, jpL_ob, jpR_ob, jpN_ob, jrc_ob, obj_sV, obj_wF, obj_wG, obj_wR, arr_sV, arr_wF, arr_wG, arr_wR, arL_sV, arL_wF, arL_wG, arL_wR, arR_sV, arR_wF, arR_wG, arR_wR, fI_sV (c := 0), fI_sV (c := 1), fI_sV (c := 2), fI_sV (c := 4), fI_sV (c := 5), fI_sV (c := 7), fI_sV (c := 8), fI_sV (c := 9), fI_sV (c := 10), fI_sV (c := 11), fI_sV (c := 12), fI_sV (c := 6), fL_sV (c := 9), fL_sV (c := 12), fI_sV_k, fL_sV_k, fV_sV_k, fI_wF, fI_wG, fI_wR, fL_wF, fL_wG, fL_wR, fV_wF, fV_wG, fV_wR, aF_sV, aG_sV, aR_sV, aF_wG, aF_wR, aG_wF, aG_wR, aR_wF, aR_wG, gM g, h20]
        have q23 : fL (sV h 81 23 (.long 0)) 81 23 = lN 0 := by simp (decide := true) only [jgI_ob, jgf_ob, jgL_ob, jpI_ob, jpL_ob, jpR_ob, jpN_ob, jrc_ob, obj_sV, obj_wF, obj_wG, obj_wR, arr_sV, arr_wF, arr_wG, arr_wR, arL_sV, arL_wF, arL_wG, arL_wR, arR_sV, arR_wF, arR_wG, arR_wR, fI_sV (c := 0), fI_sV (c := 1), fI_sV (c := 2), fI_sV (c := 4), fI_sV (c := 5), fI_sV (c := 7), fI_sV (c := 8), fI_sV (c := 9), fI_sV (c := 10), fI_sV (c := 11), fI_sV (c := 12), fI_sV (c := 6), fL_sV (c := 9), fL_sV (c := 12), fI_sV_k, fL_sV_k, fV_sV_k, fI_wF, fI_wG, fI_wR, fL_wF, fL_wG, fL_wR, fV_wF, fV_wG, fV_wR, aF_sV, aG_sV, aR_sV, aF_wG, aF_wR, aG_wF, aG_wR, aR_wF, aR_wG, gM g]
        have g1 := G_fr g rfl k1
        rw [jgI_ob (c := 12) (by simp only [gM g1]) rfl, q20]
        exact L2 (tkE tkL t N b - b) 0 _ _ _ (by omega) k1 q20 (fun _ => q23)
  rw [jE_X12_wordToken]
  refine jT_X12_wordToken_0 ?_
  rw [jgI_ob (c := 12) (by simp only [gM g]) rfl, h20, nI_1]
  exact L (2000 - b) (b + 1) _ _ _ (by omega) (by omega) (tkE_go hb hl)
theorem c_numToken (g : G h) (tm : TM h t N) {b : Nat} (h20 : fI h 81 20 = nI b) (hb : b < N) (hl : tkL (t b) = false) (hd : tkD (t b) = true) (H : ∀ h1, fr [] MTF h h1 → MT h1 t N b → Q none h1) : jex X (d + 3) 75 [.ref 81] h Q := by
  have hN := tm.2.1
  have hp : b ≤ ptE t N b := ptE_ge
  have hpN : ptE t N b ≤ N := tkE_le (by omega)
  have hz : ptE t N b ≤ nmE t N b := nmE_ge
  have hzN := nmE_le (t := t) (Nat.le_of_lt hb)
  have eK : tkK t N b = if 4 < ptE t N b - b ∨ 4 < nmE t N b - ptE t N b - 1 then 0 else 3 := by
    unfold tkK
    rw [if_neg (by omega), if_neg (by rw [hl]; decide), if_pos hd]
  have eZ : tkZ t N b = nmE t N b := by
    unfold tkZ
    rw [if_neg (by omega), if_neg (by rw [hl]; decide), if_pos hd]
  have E5 : (4 < ptE t N b - b ∨ 4 < nmE t N b - ptE t N b - 1) → ∀ z, z = nmE t N b → Q none (sV (sV h 81 19 (.int 5)) 81 21 (.int (nI z))) := by
    intro c z ez
    rw [if_pos c] at eK
    exact H _ (fr_sV (by decide) (fr_sV (by decide) fr_rfl)) (MT_mk g h20 (by rw [eK]; rfl) (by rw [eZ, ez]) (by rw [eK]; exact ⟨fun q => by omega, fun q => by omega, fun q => by omega⟩))
  have E2 : ¬ (4 < ptE t N b - b ∨ 4 < nmE t N b - ptE t N b - 1) → ∀ z, z = nmE t N b → Q none (sV (sV h 81 19 (.int 2)) 81 21 (.int (nI z))) := by
    intro c z ez
    rw [if_neg c] at eK
    exact H _ (fr_sV (by decide) (fr_sV (by decide) fr_rfl)) (MT_mk g h20 (by rw [eK]; rfl) (by rw [eZ, ez]) (by rw [eK]; exact ⟨fun q => by omega, fun q => by omega, fun q => by omega⟩))
  have L2 : ptd t N b = true → ∀ (r n : Nat) (c z : Nat), ptE t N b + 1 + n + r = 2001 → nmE t N b = tkE tkD t N (ptE t N b + 1 + n) → jB_X12_numToken_53 X (d + 2) Q 81 (nI (ptE t N b + 1 + n)) (nI (ptE t N b - b)) (nI n) h c z := by
    intro hpt r
    induction r with
    | zero =>
      intro n c z he ee
      rw [tkE_cap (i := ptE t N b + 1 + n) (by omega)] at ee
      omega
    | succ r ih =>
      intro n c z he ee
      refine jT_X12_numToken_53 ?_
      rw [jrc_ob (by simp only [gM g])]
      refine c_mDigit g tm (by omega) (fun c1 c2 => ?_) (fun c1 => ?_)
      · try dsimp only [jrI, jrN, jrA, jisr, jnul, jcat1]
        refine jif_n (by decide) ?_
        rw [nI_1, nI_1]
        exact ih (n + 1) _ _ (by omega) (by rw [ee, tkE_go c1 c2]; rfl)
      · try dsimp only [jrI, jrN, jrA, jisr, jnul, jcat1]
        refine jif_t rfl ?_
        rw [tkE_st c1] at ee
        simp (decide := true) only [jgI_ob, jgf_ob, jgL_ob, jpI_ob, jpL_ob, jpR_ob, jpN_ob, jrc_ob, obj_sV, obj_wF, obj_wG, obj_wR, arr_sV, arr_wF, arr_wG, arr_wR, arL_sV, arL_wF, arL_wG, arL_wR, arR_sV, arR_wF, arR_wG, arR_wR, fI_sV (c := 0), fI_sV (c := 1), fI_sV (c := 2), fI_sV (c := 4), fI_sV (c := 5), fI_sV (c := 7), fI_sV (c := 8), fI_sV (c := 9), fI_sV (c := 10), fI_sV (c := 11), fI_sV (c := 12), fI_sV (c := 6), fL_sV (c := 9), fL_sV (c := 12), fI_sV_k, fL_sV_k, fV_sV_k, fI_wF, fI_wG, fI_wR, fL_wF, fL_wG, fL_wR, fV_wF, fV_wG, fV_wR, aF_sV, aG_sV, aR_sV, aF_wG, aF_wR, aG_wF, aG_wR, aR_wF, aR_wG, gM g]
        refine ⟨fun c4 => E5 (Or.inl ((nI_ltI (a := 4) (by omega) (by omega)).1 c4)) _ ee.symm, fun c4 => ⟨fun c5 => E5 (Or.inr ?_) _ ee.symm, fun c5 => E2 ?_ _ ee.symm⟩⟩
        · have := (nI_ltI (a := 4) (by omega) (by omega)).1 c5
          omega
        · have n4 : ¬ 4 < ptE t N b - b := fun q => c4 (nI_lt (a := 4) q (by omega))
          have n5 : ¬ 4 < n := fun q => c5 (nI_lt (a := 4) q (by omega))
          omega
  have L : ∀ (r e : Nat) (o1 o2 : Option Value) (c z : Nat), e + r = 2001 → b ≤ e → ptE t N b = tkE tkD t N e → jB_X12_numToken_7 X (d + 2) Q 81 (nI e) o1 o2 h c z := by
    intro r
    induction r with
    | zero =>
      intro e o1 o2 c z he hbe ee
      rw [tkE_cap (i := e) (by omega)] at ee
      omega
    | succ r ih =>
      intro e o1 o2 c z he hbe ee
      refine jT_X12_numToken_7 ?_
      rw [jrc_ob (by simp only [gM g])]
      refine c_mDigit g tm (by omega) (fun c1 c2 => ?_) (fun c1 => ?_)
      · try dsimp only [jrI, jrN, jrA, jisr, jnul, jcat1]
        refine jif_n (by decide) ?_
        rw [nI_1]
        exact ih (e + 1) _ _ _ _ (by omega) (by omega) (by rw [ee, tkE_go c1 c2])
      · try dsimp only [jrI, jrN, jrA, jisr, jnul, jcat1]
        refine jif_t rfl ?_
        rw [tkE_st c1] at ee
        have P0 : ptd t N b = false → ∀ {A : Prop}, (∀ z, z = nmE t N b → Q none (sV (sV h 81 19 (.int 5)) 81 21 (.int (nI z)))) ∨ True → jifp (4 < (nI e - nI b)) (Q none (sV (sV h 81 19 (.int 5)) 81 21 (.int (nI e)))) (jifp False (Q none (sV (sV h 81 19 (.int 5)) 81 21 (.int (nI e)))) (Q none (sV (sV h 81 19 (.int 2)) 81 21 (.int (nI e))))) := by
          intro hf A _
          have ez : nmE t N b = ptE t N b := by unfold nmE; rw [hf]; rfl
          rw [pk_sub hbe]
          refine ⟨fun c4 => E5 (Or.inl ?_) _ (by rw [ez, ee]), fun c4 => jif_n id (E2 ?_ _ (by rw [ez, ee]))⟩
          · rw [ee]; exact (nI_ltI (a := 4) (by omega) (by omega)).1 c4
          · have n4 : ¬ 4 < e - b := fun q => c4 (nI_lt (a := 4) q (by omega))
            rw [ez, ee]
            omega
        rw [jgI_ob (c := 12) (by simp only [gM g]) rfl, h20, jrc_ob (by simp only [gM g])]
        change jex X (d + 1 + 1) 71 [.ref 81, .int (nI e)] h _
        refine c_at g tm (by omega) (fun x hx => ?_)
        try dsimp only [jrI, jrN, jrA, jisr, jnul, jcat1]
        have e46 : x = 46 ↔ e < N ∧ t e = 46 := by
          rw [ti_eq, hx, show (46 : Int32).toInt = 46 from rfl]
          unfold byM
          by_cases cc : e < N
          · rw [if_pos cc, sg_c (tm.2.2 e cc).1 (tm.2.2 e cc).2.1 (by decide) (by decide)]
            exact ⟨fun q => ⟨cc, q⟩, fun q => q.2⟩
          · rw [if_neg cc]; omega
        refine ⟨fun c2 => ?_, fun c2 => ?_⟩
        · have c3 := e46.1 c2
          rw [jrc_ob (by simp only [gM g]), nI_1]
          refine c_mDigit g tm (by omega) (fun q1 q2 => ?_) (fun q1 => ?_)
          · try dsimp only [jrI, jrN, jrA, jisr, jnul, jcat1]
            have hpt : ptd t N b = true := by
              unfold ptd
              rw [ee]
              exact decide_eq_true ⟨c3.1, c3.2, q1, q2⟩
            refine jif_n (by decide) ?_
            rw [pk_sub hbe, ← ee]
            exact L2 hpt (2000 - ptE t N b) 0 _ _ (by omega) (by unfold nmE; rw [if_pos hpt])
          · try dsimp only [jrI, jrN, jrA, jisr, jnul, jcat1]
            have hpt : ptd t N b = false := by
              unfold ptd
              rw [ee]
              exact decide_eq_false (fun w => by have := q1 w.2.2.1; rw [w.2.2.2] at this; cases this)
            refine jif_t rfl ?_
            simp (decide := true) only [jgI_ob, jgf_ob, jgL_ob, jpI_ob, jpL_ob, jpR_ob, jpN_ob, jrc_ob, obj_sV, obj_wF, obj_wG, obj_wR, arr_sV, arr_wF, arr_wG, arr_wR, arL_sV, arL_wF, arL_wG, arL_wR, arR_sV, arR_wF, arR_wG, arR_wR, fI_sV (c := 0), fI_sV (c := 1), fI_sV (c := 2), fI_sV (c := 4), fI_sV (c := 5), fI_sV (c := 7), fI_sV (c := 8), fI_sV (c := 9), fI_sV (c := 10), fI_sV (c := 11), fI_sV (c := 12), fI_sV (c := 6), fL_sV (c := 9), fL_sV (c := 12), fI_sV_k, fL_sV_k, fV_sV_k, fI_wF, fI_wG, fI_wR, fL_wF, fL_wG, fL_wR, fV_wF, fV_wG, fV_wR, aF_sV, aG_sV, aR_sV, aF_wG, aF_wR, aG_wF, aG_wR, aR_wF, aR_wG, gM g]
            exact P0 hpt (A := True) (Or.inr trivial)
        · have hpt : ptd t N b = false := by
            unfold ptd
            rw [ee]
            exact decide_eq_false (fun w => c2 (e46.2 ⟨w.1, w.2.1⟩))
          simp (decide := true) only [jgI_ob, jgf_ob, jgL_ob, jpI_ob, jpL_ob, jpR_ob, jpN_ob, jrc_ob, obj_sV, obj_wF, obj_wG, obj_wR, arr_sV, arr_wF, arr_wG, arr_wR, arL_sV, arL_wF, arL_wG, arL_wR, arR_sV, arR_wF, arR_wG, arR_wR, fI_sV (c := 0), fI_sV (c := 1), fI_sV (c := 2), fI_sV (c := 4), fI_sV (c := 5), fI_sV (c := 7), fI_sV (c := 8), fI_sV (c := 9), fI_sV (c := 10), fI_sV (c := 11), fI_sV (c := 12), fI_sV (c := 6), fL_sV (c := 9), fL_sV (c := 12), fI_sV_k, fL_sV_k, fV_sV_k, fI_wF, fI_wG, fI_wR, fL_wF, fL_wG, fL_wR, fV_wF, fV_wG, fV_wR, aF_sV, aG_sV, aR_sV, aF_wG, aF_wR, aG_wF, aG_wR, aR_wF, aR_wG, gM g]
          exact P0 hpt (A := True) (Or.inr trivial)
  rw [jE_X12_numToken]
  refine jT_X12_numToken_0 ?_
  rw [jgI_ob (c := 12) (by simp only [gM g]) rfl, h20, nI_1]
  exact L (2000 - b) (b + 1) _ _ _ _ (by omega) (by omega) (tkE_go hb hd)
end MTK
