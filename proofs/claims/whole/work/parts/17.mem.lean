/-! MEMORY: fields and arrays by place; what a setter leaves -/
def kd (v : Value) : Nat := match v with
  | .int _ => 0
  | .long _ => 1
  | .ref _ => 2
  | .null => 2
  | .float _ => 2
  | _ => 3
def jks (c : Nat) : List Nat := match c with
  | 0 => [2, 2, 2, 2, 2, 0, 2, 2, 2, 0, 2]
  | 1 => [0, 0, 0, 0]
  | 2 => [0, 0, 2, 0, 0, 0, 0, 0, 0, 0, 0]
  | 3 => [2, 2, 2]
  | 4 => [2, 2, 2, 0, 2, 2, 2, 2, 2, 0, 0, 0, 0]
  | 5 => [2, 2, 2, 2, 0, 2, 0, 0, 2, 0, 0, 0]
  | 6 => [2, 0]
  | 7 => [2, 2, 2, 2, 2, 2, 2, 2, 2, 2, 2, 2, 0, 2, 0, 0, 0, 0, 0, 0]
  | 8 => [0, 0, 0, 2, 2, 0, 0, 0]
  | 9 => [2, 0, 2, 0, 0, 1, 0, 0, 0, 0]
  | 10 => [0, 0, 0, 0, 0, 0, 0]
  | 11 => [2, 2, 0, 2, 2, 2, 2, 0, 2, 2, 2, 2]
  | 12 => [2, 0, 0, 0, 0, 2, 2, 2, 2, 2, 0, 0, 2, 0, 0, 0, 0, 0, 2, 0, 0, 0, 0, 1, 0, 2, 2, 2, 2, 2, 2, 2, 2, 2, 2, 2, 2, 2, 2, 2, 0, 2, 2, 2, 2, 2, 2, 2, 0, 0, 0, 0, 0, 0, 0, 0, 2, 0, 0, 2, 2, 2, 2, 2, 0, 0, 0, 0, 0, 0, 0, 0, 0, 0, 0, 2, 2, 2, 2, 2, 2, 2, 2, 0, 0]
  | _ => []
def shp (c : JC) : (FieldType × Nat × Nat) ⊕ (Nat × List Nat) := match c with
  | .inl (t, n, .inl _) => .inl (t, n, 0)
  | .inl (t, n, .inr (.inl _)) => .inl (t, n, 1)
  | .inl (t, n, .inr (.inr (.inl _))) => .inl (t, n, 2)
  | .inl (t, n, .inr (.inr (.inr (.inl _)))) => .inl (t, n, 3)
  | .inl (t, n, .inr (.inr (.inr (.inr _)))) => .inl (t, n, 4)
  | .inr q => .inr (q.1, q.2.map kd)
/-- the shape of a heap -/
def sh (h : JH) (p : Nat) : Option ((FieldType × Nat × Nat) ⊕ (Nat × List Nat)) := (h[p]?).map shp
def obj (h : JH) (p c : Nat) : Prop := sh h p = some (.inr (c, jks c))
def arr (h : JH) (p : Nat) (t : FieldType) (n : Nat) : Prop := sh h p = some (.inl (t, n, 0))
def arL (h : JH) (p n : Nat) : Prop := sh h p = some (.inl (.long, n, 1))
def arR (h : JH) (p c n : Nat) : Prop := ∃ q, vwCl[c]? = some q ∧ sh h p = some (.inl (.object q.1, n, 4))
def vI (v : Value) : Int32 := match v with
  | .int x => x
  | _ => 0
def vL (v : Value) : Int64 := match v with
  | .long x => x
  | _ => 0
def fV (h : JH) (p k : Nat) : Value := match h[p]? with
  | some (.inr q) => q.2.getD k .null
  | _ => .null
def fI (h : JH) (p k : Nat) : Int32 := vI (fV h p k)
def fL (h : JH) (p k : Nat) : Int64 := vL (fV h p k)
def aF (h : JH) (p : Nat) : Nat → Int32 := match h[p]? with
  | some (.inl (_, _, .inl f)) => f
  | _ => fun _ => 0
def aG (h : JH) (p : Nat) : Nat → Int64 := match h[p]? with
  | some (.inl (_, _, .inr (.inl f))) => f
  | _ => fun _ => 0
def aR (h : JH) (p : Nat) : Nat → Option Nat := match h[p]? with
  | some (.inl (_, _, .inr (.inr (.inr (.inr f))))) => f
  | _ => fun _ => none
def sV (h : JH) (p k : Nat) (w : Value) : JH := match h[p]? with
  | some (.inr q) => if (q.2[k]?).map kd = some (kd w) then h.set p (.inr (q.1, q.2.set k w)) else h
  | _ => h
def wF (h : JH) (p : Nat) (g : Nat → Int32) : JH := match h[p]? with
  | some (.inl (t, n, .inl _)) => h.set p (.inl (t, n, .inl g))
  | _ => h
def wG (h : JH) (p : Nat) (g : Nat → Int64) : JH := match h[p]? with
  | some (.inl (t, n, .inr (.inl _))) => h.set p (.inl (t, n, .inr (.inl g)))
  | _ => h
def wR (h : JH) (p : Nat) (g : Nat → Option Nat) : JH := match h[p]? with
  | some (.inl (t, n, .inr (.inr (.inr (.inr _))))) => h.set p (.inl (t, n, .inr (.inr (.inr (.inr g)))))
  | _ => h
theorem kd_set {fs : List Value} {k : Nat} {w : Value} (h : (fs[k]?).map kd = some (kd w)) : (fs.set k w).map kd = fs.map kd := by
  rw [List.map_set]
  apply List.ext_getElem?
  intro i
  rw [List.getElem?_set]
  split
  next e =>
    subst e
    rw [List.getElem?_map, h]
    split
    · rfl
    next hl =>
      rw [List.length_map] at hl
      rw [List.getElem?_eq_none (Nat.le_of_not_lt hl)] at h
      cases h
  next => rfl
theorem sh_set {h : JH} {p : Nat} {c0 c : JC} (h0 : h[p]? = some c0) (hs : shp c = shp c0) : sh (h.set p c) = sh h := by
  funext q
  unfold sh
  rw [List.getElem?_set]
  split
  next e =>
    subst e
    rw [h0, if_pos (List.getElem?_eq_some_iff.mp h0).1]
    show some (shp c) = some (shp c0)
    rw [hs]
  next => rfl
theorem sh_sV {h : JH} {p k : Nat} {w : Value} : sh (sV h p k w) = sh h := by
  unfold sV
  split
  next q hq =>
    split
    next hk => exact sh_set hq (by show Sum.inr (q.1, (q.2.set k w).map kd) = Sum.inr (q.1, q.2.map kd); rw [kd_set hk])
    next => rfl
  next => rfl
theorem sh_wF {h : JH} {p : Nat} {g : Nat → Int32} : sh (wF h p g) = sh h := by
  unfold wF
  split
  next hq => exact sh_set hq rfl
  next => rfl
theorem sh_wG {h : JH} {p : Nat} {g : Nat → Int64} : sh (wG h p g) = sh h := by
  unfold wG
  split
  next hq => exact sh_set hq rfl
  next => rfl
theorem sh_wR {h : JH} {p : Nat} {g : Nat → Option Nat} : sh (wR h p g) = sh h := by
  unfold wR
  split
  next hq => exact sh_set hq rfl
  next => rfl
theorem len_sV {h : JH} {p : Nat} {k : Nat} {w : Value} : (sV h p k w).length = h.length := by
  unfold sV
  split
  · split
    · exact List.length_set
    · rfl
  · rfl
theorem obj_sV {h : JH} {p : Nat} {k : Nat} {w : Value} {q c : Nat} : obj (sV h p k w) q c = obj h q c := by
  unfold obj; rw [sh_sV]
theorem arr_sV {h : JH} {p : Nat} {k : Nat} {w : Value} {q : Nat} {t : FieldType} {n : Nat} : arr (sV h p k w) q t n = arr h q t n := by
  unfold arr; rw [sh_sV]
theorem arL_sV {h : JH} {p : Nat} {k : Nat} {w : Value} {q n : Nat} : arL (sV h p k w) q n = arL h q n := by
  unfold arL; rw [sh_sV]
theorem arR_sV {h : JH} {p : Nat} {k : Nat} {w : Value} {q c n : Nat} : arR (sV h p k w) q c n = arR h q c n := by
  unfold arR; rw [sh_sV]
theorem get_sV {h : JH} {p : Nat} {k : Nat} {w : Value} {q : Nat} (hn : p ≠ q) : (sV h p k w)[q]? = h[q]? := by
  unfold sV
  split <;> (try split) <;> first | rfl | rw [List.getElem?_set_ne hn]
theorem len_wF {h : JH} {p : Nat} {g : Nat → Int32} : (wF h p g).length = h.length := by
  unfold wF
  split
  · exact List.length_set
  · rfl
theorem obj_wF {h : JH} {p : Nat} {g : Nat → Int32} {q c : Nat} : obj (wF h p g) q c = obj h q c := by
  unfold obj; rw [sh_wF]
theorem arr_wF {h : JH} {p : Nat} {g : Nat → Int32} {q : Nat} {t : FieldType} {n : Nat} : arr (wF h p g) q t n = arr h q t n := by
  unfold arr; rw [sh_wF]
theorem arL_wF {h : JH} {p : Nat} {g : Nat → Int32} {q n : Nat} : arL (wF h p g) q n = arL h q n := by
  unfold arL; rw [sh_wF]
theorem arR_wF {h : JH} {p : Nat} {g : Nat → Int32} {q c n : Nat} : arR (wF h p g) q c n = arR h q c n := by
  unfold arR; rw [sh_wF]
theorem get_wF {h : JH} {p : Nat} {g : Nat → Int32} {q : Nat} (hn : p ≠ q) : (wF h p g)[q]? = h[q]? := by
  unfold wF
  split <;> (try split) <;> first | rfl | rw [List.getElem?_set_ne hn]
theorem len_wG {h : JH} {p : Nat} {g : Nat → Int64} : (wG h p g).length = h.length := by
  unfold wG
  split
  · exact List.length_set
  · rfl
theorem obj_wG {h : JH} {p : Nat} {g : Nat → Int64} {q c : Nat} : obj (wG h p g) q c = obj h q c := by
  unfold obj; rw [sh_wG]
theorem arr_wG {h : JH} {p : Nat} {g : Nat → Int64} {q : Nat} {t : FieldType} {n : Nat} : arr (wG h p g) q t n = arr h q t n := by
  unfold arr; rw [sh_wG]
theorem arL_wG {h : JH} {p : Nat} {g : Nat → Int64} {q n : Nat} : arL (wG h p g) q n = arL h q n := by
  unfold arL; rw [sh_wG]
theorem arR_wG {h : JH} {p : Nat} {g : Nat → Int64} {q c n : Nat} : arR (wG h p g) q c n = arR h q c n := by
  unfold arR; rw [sh_wG]
theorem get_wG {h : JH} {p : Nat} {g : Nat → Int64} {q : Nat} (hn : p ≠ q) : (wG h p g)[q]? = h[q]? := by
  unfold wG
  split <;> (try split) <;> first | rfl | rw [List.getElem?_set_ne hn]
theorem len_wR {h : JH} {p : Nat} {g : Nat → Option Nat} : (wR h p g).length = h.length := by
  unfold wR
  split
  · exact List.length_set
  · rfl
theorem obj_wR {h : JH} {p : Nat} {g : Nat → Option Nat} {q c : Nat} : obj (wR h p g) q c = obj h q c := by
  unfold obj; rw [sh_wR]
theorem arr_wR {h : JH} {p : Nat} {g : Nat → Option Nat} {q : Nat} {t : FieldType} {n : Nat} : arr (wR h p g) q t n = arr h q t n := by
  unfold arr; rw [sh_wR]
theorem arL_wR {h : JH} {p : Nat} {g : Nat → Option Nat} {q n : Nat} : arL (wR h p g) q n = arL h q n := by
  unfold arL; rw [sh_wR]
theorem arR_wR {h : JH} {p : Nat} {g : Nat → Option Nat} {q c n : Nat} : arR (wR h p g) q c n = arR h q c n := by
  unfold arR; rw [sh_wR]
theorem get_wR {h : JH} {p : Nat} {g : Nat → Option Nat} {q : Nat} (hn : p ≠ q) : (wR h p g)[q]? = h[q]? := by
  unfold wR
  split <;> (try split) <;> first | rfl | rw [List.getElem?_set_ne hn]
theorem fV_sV_ne {h : JH} {p : Nat} {k : Nat} {w : Value} {q : Nat} {j : Nat} (hn : p ≠ q) : fV (sV h p k w) q j = fV h q j := by
  unfold fV; rw [get_sV hn]
theorem aF_sV_ne {h : JH} {p : Nat} {k : Nat} {w : Value} {q : Nat} (hn : p ≠ q) : aF (sV h p k w) q = aF h q := by
  unfold aF; rw [get_sV hn]
theorem aG_sV_ne {h : JH} {p : Nat} {k : Nat} {w : Value} {q : Nat} (hn : p ≠ q) : aG (sV h p k w) q = aG h q := by
  unfold aG; rw [get_sV hn]
theorem aR_sV_ne {h : JH} {p : Nat} {k : Nat} {w : Value} {q : Nat} (hn : p ≠ q) : aR (sV h p k w) q = aR h q := by
  unfold aR; rw [get_sV hn]
theorem fV_wF_ne {h : JH} {p : Nat} {g : Nat → Int32} {q : Nat} {j : Nat} (hn : p ≠ q) : fV (wF h p g) q j = fV h q j := by
  unfold fV; rw [get_wF hn]
theorem aF_wF_ne {h : JH} {p : Nat} {g : Nat → Int32} {q : Nat} (hn : p ≠ q) : aF (wF h p g) q = aF h q := by
  unfold aF; rw [get_wF hn]
theorem aG_wF_ne {h : JH} {p : Nat} {g : Nat → Int32} {q : Nat} (hn : p ≠ q) : aG (wF h p g) q = aG h q := by
  unfold aG; rw [get_wF hn]
theorem aR_wF_ne {h : JH} {p : Nat} {g : Nat → Int32} {q : Nat} (hn : p ≠ q) : aR (wF h p g) q = aR h q := by
  unfold aR; rw [get_wF hn]
theorem fV_wG_ne {h : JH} {p : Nat} {g : Nat → Int64} {q : Nat} {j : Nat} (hn : p ≠ q) : fV (wG h p g) q j = fV h q j := by
  unfold fV; rw [get_wG hn]
theorem aF_wG_ne {h : JH} {p : Nat} {g : Nat → Int64} {q : Nat} (hn : p ≠ q) : aF (wG h p g) q = aF h q := by
  unfold aF; rw [get_wG hn]
theorem aG_wG_ne {h : JH} {p : Nat} {g : Nat → Int64} {q : Nat} (hn : p ≠ q) : aG (wG h p g) q = aG h q := by
  unfold aG; rw [get_wG hn]
theorem aR_wG_ne {h : JH} {p : Nat} {g : Nat → Int64} {q : Nat} (hn : p ≠ q) : aR (wG h p g) q = aR h q := by
  unfold aR; rw [get_wG hn]
theorem fV_wR_ne {h : JH} {p : Nat} {g : Nat → Option Nat} {q : Nat} {j : Nat} (hn : p ≠ q) : fV (wR h p g) q j = fV h q j := by
  unfold fV; rw [get_wR hn]
theorem aF_wR_ne {h : JH} {p : Nat} {g : Nat → Option Nat} {q : Nat} (hn : p ≠ q) : aF (wR h p g) q = aF h q := by
  unfold aF; rw [get_wR hn]
theorem aG_wR_ne {h : JH} {p : Nat} {g : Nat → Option Nat} {q : Nat} (hn : p ≠ q) : aG (wR h p g) q = aG h q := by
  unfold aG; rw [get_wR hn]
theorem aR_wR_ne {h : JH} {p : Nat} {g : Nat → Option Nat} {q : Nat} (hn : p ≠ q) : aR (wR h p g) q = aR h q := by
  unfold aR; rw [get_wR hn]
theorem fV_sV_k {h : JH} {p k j : Nat} {w : Value} {q : Nat} (hn : k ≠ j) : fV (sV h p k w) q j = fV h q j := by
  by_cases e : p = q
  · subst e
    cases hc : h[p]? with
    | none =>
      have e1 : sV h p k w = h := by unfold sV; rw [hc]
      rw [e1]
    | some c =>
      cases c with
      | inl a =>
        have e1 : sV h p k w = h := by unfold sV; rw [hc]
        rw [e1]
      | inr q0 =>
        by_cases hk : (q0.2[k]?).map kd = some (kd w)
        · have e1 : sV h p k w = h.set p (.inr (q0.1, q0.2.set k w)) := by unfold sV; rw [hc]; exact if_pos hk
          unfold fV
          rw [e1, List.getElem?_set_self (List.getElem?_eq_some_iff.mp hc).1, hc]
          show (q0.2.set k w).getD j .null = q0.2.getD j .null
          rw [List.getD_eq_getElem?_getD, List.getD_eq_getElem?_getD, List.getElem?_set_ne hn]
        · have e1 : sV h p k w = h := by unfold sV; rw [hc]; exact if_neg hk
          rw [e1]
  · exact fV_sV_ne e
theorem obj_of {h : JH} {p c : Nat} (ho : obj h p c) : ∃ fs, h[p]? = some (.inr (c, fs)) ∧ fs.map kd = jks c := by
  unfold obj sh at ho
  cases hc : h[p]? with
  | none => rw [hc] at ho; cases ho
  | some v =>
    rw [hc] at ho
    have ho' : shp v = Sum.inr (c, jks c) := Option.some.inj ho
    rcases v with ⟨t, n, f | f | f | f | f⟩ | ⟨c0, fs⟩ <;> simp only [shp] at ho' <;> first | cases ho' | skip
    have h1 := Sum.inr.inj ho'
    have h2 := congrArg Prod.fst h1
    have h3 := congrArg Prod.snd h1
    dsimp only at h2 h3
    subst h2
    exact ⟨fs, rfl, h3⟩
theorem jks_at {fs : List Value} {c k n : Nat} (h : fs.map kd = jks c) (hk : (jks c)[k]? = some n) : ∃ v, fs[k]? = some v ∧ kd v = n := by
  rw [← h, List.getElem?_map] at hk
  cases hv : fs[k]? with
  | none => rw [hv] at hk; cases hk
  | some v => rw [hv] at hk; exact ⟨v, rfl, Option.some.inj hk⟩
theorem jgf_ob {h : JH} {p c k : Nat} {K : Value → Prop} (ho : obj h p c) (hk : (jks c)[k]?.isSome = true) : jgf h (.ref p) c k K = K (fV h p k) := by
  obtain ⟨fs, h1, h2⟩ := obj_of ho
  obtain ⟨n, hn⟩ := Option.isSome_iff_exists.mp hk
  obtain ⟨v, h3, h4⟩ := jks_at h2 hn
  unfold jgf fV
  dsimp only
  rw [h1]
  dsimp only
  rw [if_pos rfl, List.getD_eq_getElem?_getD, h3]
  rfl
theorem fV_int {h : JH} {p c k : Nat} (ho : obj h p c) (hk : (jks c)[k]? = some 0) : fV h p k = .int (fI h p k) := by
  obtain ⟨fs, h1, h2⟩ := obj_of ho
  obtain ⟨v, h3, h4⟩ := jks_at h2 hk
  unfold fI fV
  rw [h1]
  dsimp only
  rw [List.getD_eq_getElem?_getD, h3]
  cases v <;> first | rfl | cases h4
theorem fV_long {h : JH} {p c k : Nat} (ho : obj h p c) (hk : (jks c)[k]? = some 1) : fV h p k = .long (fL h p k) := by
  obtain ⟨fs, h1, h2⟩ := obj_of ho
  obtain ⟨v, h3, h4⟩ := jks_at h2 hk
  unfold fL fV
  rw [h1]
  dsimp only
  rw [List.getD_eq_getElem?_getD, h3]
  cases v <;> first | rfl | cases h4
theorem fV_isr {h : JH} {p c k : Nat} (ho : obj h p c) (hk : (jks c)[k]? = some 2) : jisk (fV h p k) = true := by
  obtain ⟨fs, h1, h2⟩ := obj_of ho
  obtain ⟨v, h3, h4⟩ := jks_at h2 hk
  unfold fV
  rw [h1]
  dsimp only
  rw [List.getD_eq_getElem?_getD, h3]
  cases v <;> first | rfl | cases h4
theorem jgI_ob {h : JH} {p c k : Nat} {K : Int32 → Prop} (ho : obj h p c) (hk : (jks c)[k]? = some 0) : jgI h (.ref p) c k K = K (fI h p k) := by
  unfold jgI
  rw [jgf_ob ho (by rw [hk]; rfl), fV_int ho hk]
theorem jgL_ob {h : JH} {p c k : Nat} {K : Int64 → Prop} (ho : obj h p c) (hk : (jks c)[k]? = some 1) : jgL h (.ref p) c k K = K (fL h p k) := by
  unfold jgL
  rw [jgf_ob ho (by rw [hk]; rfl), fV_long ho hk]
theorem jpf_ob {h : JH} {p c k : Nat} {w : Value} {K : JH → Prop} (ho : obj h p c) (hk : (jks c)[k]? = some (kd w)) : jpf h (.ref p) c k w K = K (sV h p k w) := by
  obtain ⟨fs, h1, h2⟩ := obj_of ho
  obtain ⟨v, h3, h4⟩ := jks_at h2 hk
  unfold jpf sV
  dsimp only
  rw [h1]
  dsimp only
  rw [if_pos ⟨rfl, (List.getElem?_eq_some_iff.mp h3).1⟩, if_pos (by rw [h3, Option.map_some, h4])]
theorem fV_sV {h : JH} {p c k : Nat} {w : Value} (ho : obj h p c) (hk : (jks c)[k]? = some (kd w)) : fV (sV h p k w) p k = w := by
  obtain ⟨fs, h1, h2⟩ := obj_of ho
  obtain ⟨v, h3, h4⟩ := jks_at h2 hk
  unfold fV sV
  rw [h1]
  dsimp only
  rw [if_pos (by rw [h3, Option.map_some, h4]), List.getElem?_set_self (List.getElem?_eq_some_iff.mp h1).1]
  show (fs.set k w).getD k .null = w
  rw [List.getD_eq_getElem?_getD, List.getElem?_set_self (List.getElem?_eq_some_iff.mp h3).1]
  rfl
theorem jrc_ob {h : JH} {p c : Nat} {K : Prop} (ho : obj h p c) : jrc h (.ref p) c K = K := by
  obtain ⟨fs, h1, h2⟩ := obj_of ho
  unfold jrc jcls
  dsimp only
  rw [h1]
  dsimp only
  rw [if_pos rfl]
theorem arr_of {h : JH} {p : Nat} {t : FieldType} {n : Nat} (ha : arr h p t n) : h[p]? = some (.inl (t, n, .inl (aF h p))) := by
  unfold arr sh at ha
  unfold aF
  cases hc : h[p]? with
  | none => rw [hc] at ha; cases ha
  | some v =>
    rw [hc] at ha
    have ho' : shp v = Sum.inl (t, n, 0) := Option.some.inj ha
    rcases v with ⟨t, n, f | f | f | f | f⟩ | ⟨c0, fs⟩ <;> simp only [shp] at ho' <;> first | (cases ho'; rfl) | cases ho'
theorem arL_of {h : JH} {p n : Nat} (ha : arL h p n) : h[p]? = some (.inl (.long, n, .inr (.inl (aG h p)))) := by
  unfold arL sh at ha
  unfold aG
  cases hc : h[p]? with
  | none => rw [hc] at ha; cases ha
  | some v =>
    rw [hc] at ha
    have ho' : shp v = Sum.inl (.long, n, 1) := Option.some.inj ha
    rcases v with ⟨t, n, f | f | f | f | f⟩ | ⟨c0, fs⟩ <;> simp only [shp] at ho' <;> first | (cases ho'; rfl) | cases ho'
theorem arR_of {h : JH} {p c n : Nat} (ha : arR h p c n) : ∃ q, vwCl[c]? = some q ∧ h[p]? = some (.inl (.object q.1, n, .inr (.inr (.inr (.inr (aR h p)))))) := by
  obtain ⟨q, hq, ha⟩ := ha
  refine ⟨q, hq, ?_⟩
  unfold sh at ha
  unfold aR
  cases hc : h[p]? with
  | none => rw [hc] at ha; cases ha
  | some v =>
    rw [hc] at ha
    have ho' : shp v = Sum.inl (.object q.1, n, 4) := Option.some.inj ha
    rcases v with ⟨t, n, f | f | f | f | f⟩ | ⟨c0, fs⟩ <;> simp only [shp] at ho' <;> first | (cases ho'; rfl) | cases ho'
theorem jaI_ar {X : JX} {h : JH} {p n : Nat} {i : Int32} {K : Int32 → Prop} (ha : arr h p .int n) : jaI X h (.ref p) i K = (vp_in i n ∧ K (aF h p i.toNatClampNeg)) := by
  unfold jaI
  dsimp only
  rw [arr_of ha]
theorem jaB_ar {h : JH} {p n : Nat} {i : Int32} {K : Int32 → Prop} (ha : arr h p .byte n) : jaB h (.ref p) i K = (vp_in i n ∧ K (aF h p i.toNatClampNeg)) := by
  unfold jaB
  dsimp only
  rw [arr_of ha]
theorem jaZ_ar {h : JH} {p n : Nat} {i : Int32} {K : Int32 → Prop} (ha : arr h p .boolean n) : jaB h (.ref p) i K = (vp_in i n ∧ K (aF h p i.toNatClampNeg)) := by
  unfold jaB
  dsimp only
  rw [arr_of ha]
theorem jaL_ar {h : JH} {p n : Nat} {i : Int32} {K : Int64 → Prop} (ha : arL h p n) : jaL h (.ref p) i K = (vp_in i n ∧ K (aG h p i.toNatClampNeg)) := by
  unfold jaL
  dsimp only
  rw [arL_of ha]
theorem jaA_ar {h : JH} {p c n : Nat} {i : Int32} {K : Value → Prop} (ha : arR h p c n) : jaA h (.ref p) i K = (vp_in i n ∧ K (va_rf (aR h p i.toNatClampNeg))) := by
  obtain ⟨q, _, h1⟩ := arR_of ha
  unfold jaA
  dsimp only
  rw [h1]
theorem wF_eq {h : JH} {p : Nat} {t : FieldType} {n : Nat} {g : Nat → Int32} (ha : arr h p t n) : h.set p (.inl (t, n, .inl g)) = wF h p g := by
  unfold wF
  rw [arr_of ha]
theorem jwI_ar {h : JH} {p n : Nat} {i x : Int32} {K : JH → Prop} (ha : arr h p .int n) : jwI h (.ref p) i x K = (vp_in i n ∧ K (wF h p (upd (aF h p) i.toNatClampNeg x))) := by
  unfold jwI
  dsimp only
  rw [arr_of ha]
  dsimp only
  rw [wF_eq ha]
theorem jwB_ar {h : JH} {p n : Nat} {i x : Int32} {K : JH → Prop} (ha : arr h p .byte n) : jwB h (.ref p) i x K = (vp_in i n ∧ K (wF h p (upd (aF h p) i.toNatClampNeg (vp_nar .byte x)))) := by
  unfold jwB
  dsimp only
  rw [arr_of ha]
  dsimp only
  rw [wF_eq ha]
theorem jwZ_ar {h : JH} {p n : Nat} {i x : Int32} {K : JH → Prop} (ha : arr h p .boolean n) : jwB h (.ref p) i x K = (vp_in i n ∧ K (wF h p (upd (aF h p) i.toNatClampNeg (vp_nar .boolean x)))) := by
  unfold jwB
  dsimp only
  rw [arr_of ha]
  dsimp only
  rw [wF_eq ha]
theorem jwL_ar {h : JH} {p n : Nat} {i : Int32} {x : Int64} {K : JH → Prop} (ha : arL h p n) : jwL h (.ref p) i x K = (vp_in i n ∧ K (wG h p (vp_updL (aG h p) i.toNatClampNeg x))) := by
  unfold jwL wG
  dsimp only
  rw [arL_of ha]
theorem jwA_ar {h : JH} {p c n b : Nat} {i : Int32} {K : JH → Prop} (ha : arR h p c n) (ho : obj h b c) : jwA h (.ref p) i (.ref b) K = (vp_in i n ∧ K (wR h p (va_up (aR h p) i.toNatClampNeg (some b)))) := by
  obtain ⟨q, hq, h1⟩ := arR_of ha
  obtain ⟨fs, h2, -⟩ := obj_of ho
  unfold jwA wR jcls
  dsimp only
  rw [h1]
  dsimp only
  rw [h2]
  dsimp only
  rw [hq]
  simp
theorem aF_wF {h : JH} {p : Nat} {t : FieldType} {n : Nat} {g : Nat → Int32} (ha : arr h p t n) : aF (wF h p g) p = g := by
  have h1 := arr_of ha
  unfold wF
  rw [h1]
  dsimp only
  unfold aF
  rw [List.getElem?_set_self (List.getElem?_eq_some_iff.mp h1).1]
theorem aG_wG {h : JH} {p n : Nat} {g : Nat → Int64} (ha : arL h p n) : aG (wG h p g) p = g := by
  have h1 := arL_of ha
  unfold wG
  rw [h1]
  dsimp only
  unfold aG
  rw [List.getElem?_set_self (List.getElem?_eq_some_iff.mp h1).1]
theorem aR_wR {h : JH} {p c n : Nat} {g : Nat → Option Nat} (ha : arR h p c n) : aR (wR h p g) p = g := by
  obtain ⟨q, -, h1⟩ := arR_of ha
  unfold wR
  rw [h1]
  dsimp only
  unfold aR
  rw [List.getElem?_set_self (List.getElem?_eq_some_iff.mp h1).1]
theorem jaln_arr {X : JX} {h : JH} {p : Nat} {t : FieldType} {n : Nat} {K : Int32 → Prop} (ha : arr h p t n) : jaln X h (.ref p) K = K (Int32.ofNat n) := by
  unfold jaln
  dsimp only
  rw [arr_of ha]
theorem jaln_arL {X : JX} {h : JH} {p n : Nat} {K : Int32 → Prop} (ha : arL h p n) : jaln X h (.ref p) K = K (Int32.ofNat n) := by
  unfold jaln
  dsimp only
  rw [arL_of ha]
theorem jaln_arR {X : JX} {h : JH} {p c n : Nat} {K : Int32 → Prop} (ha : arR h p c n) : jaln X h (.ref p) K = K (Int32.ofNat n) := by
  obtain ⟨q, -, h1⟩ := arR_of ha
  unfold jaln
  dsimp only
  rw [h1]
theorem fV_wF {h : JH} {p q k : Nat} {g : Nat → Int32} : fV (wF h p g) q k = fV h q k := by
  by_cases e : p = q
  · subst e
    unfold wF
    split
    next hq =>
      unfold fV
      rw [List.getElem?_set_self (List.getElem?_eq_some_iff.mp hq).1, hq]
    next => rfl
  · exact fV_wF_ne e
theorem fV_wG {h : JH} {p q k : Nat} {g : Nat → Int64} : fV (wG h p g) q k = fV h q k := by
  by_cases e : p = q
  · subst e
    unfold wG
    split
    next hq =>
      unfold fV
      rw [List.getElem?_set_self (List.getElem?_eq_some_iff.mp hq).1, hq]
    next => rfl
  · exact fV_wG_ne e
theorem fV_wR {h : JH} {p q k : Nat} {g : Nat → Option Nat} : fV (wR h p g) q k = fV h q k := by
  by_cases e : p = q
  · subst e
    unfold wR
    split
    next hq =>
      unfold fV
      rw [List.getElem?_set_self (List.getElem?_eq_some_iff.mp hq).1, hq]
    next => rfl
  · exact fV_wR_ne e
theorem aF_sV {h : JH} {p q k : Nat} {w : Value} : aF (sV h p k w) q = aF h q := by
  by_cases e : p = q
  · subst e
    unfold sV
    split
    next hq =>
      split
      next =>
        unfold aF
        rw [List.getElem?_set_self (List.getElem?_eq_some_iff.mp hq).1, hq]
      next => rfl
    next => rfl
  · exact aF_sV_ne e
theorem aG_sV {h : JH} {p q k : Nat} {w : Value} : aG (sV h p k w) q = aG h q := by
  by_cases e : p = q
  · subst e
    unfold sV
    split
    next hq =>
      split
      next =>
        unfold aG
        rw [List.getElem?_set_self (List.getElem?_eq_some_iff.mp hq).1, hq]
      next => rfl
    next => rfl
  · exact aG_sV_ne e
theorem aR_sV {h : JH} {p q k : Nat} {w : Value} : aR (sV h p k w) q = aR h q := by
  by_cases e : p = q
  · subst e
    unfold sV
    split
    next hq =>
      split
      next =>
        unfold aR
        rw [List.getElem?_set_self (List.getElem?_eq_some_iff.mp hq).1, hq]
      next => rfl
    next => rfl
  · exact aR_sV_ne e
theorem aF_wG {h : JH} {p q : Nat} {g : Nat → Int64} : aF (wG h p g) q = aF h q := by
  by_cases e : p = q
  · subst e
    unfold wG
    split
    next hq =>
      unfold aF
      rw [List.getElem?_set_self (List.getElem?_eq_some_iff.mp hq).1, hq]
    next => rfl
  · exact aF_wG_ne e
theorem aF_wR {h : JH} {p q : Nat} {g : Nat → Option Nat} : aF (wR h p g) q = aF h q := by
  by_cases e : p = q
  · subst e
    unfold wR
    split
    next hq =>
      unfold aF
      rw [List.getElem?_set_self (List.getElem?_eq_some_iff.mp hq).1, hq]
    next => rfl
  · exact aF_wR_ne e
theorem aG_wF {h : JH} {p q : Nat} {g : Nat → Int32} : aG (wF h p g) q = aG h q := by
  by_cases e : p = q
  · subst e
    unfold wF
    split
    next hq =>
      unfold aG
      rw [List.getElem?_set_self (List.getElem?_eq_some_iff.mp hq).1, hq]
    next => rfl
  · exact aG_wF_ne e
theorem aG_wR {h : JH} {p q : Nat} {g : Nat → Option Nat} : aG (wR h p g) q = aG h q := by
  by_cases e : p = q
  · subst e
    unfold wR
    split
    next hq =>
      unfold aG
      rw [List.getElem?_set_self (List.getElem?_eq_some_iff.mp hq).1, hq]
    next => rfl
  · exact aG_wR_ne e
theorem aR_wF {h : JH} {p q : Nat} {g : Nat → Int32} : aR (wF h p g) q = aR h q := by
  by_cases e : p = q
  · subst e
    unfold wF
    split
    next hq =>
      unfold aR
      rw [List.getElem?_set_self (List.getElem?_eq_some_iff.mp hq).1, hq]
    next => rfl
  · exact aR_wF_ne e
theorem aR_wG {h : JH} {p q : Nat} {g : Nat → Int64} : aR (wG h p g) q = aR h q := by
  by_cases e : p = q
  · subst e
    unfold wG
    split
    next hq =>
      unfold aR
      rw [List.getElem?_set_self (List.getElem?_eq_some_iff.mp hq).1, hq]
    next => rfl
  · exact aR_wG_ne e
theorem fI_wF {h : JH} {p q k : Nat} {g : Nat → Int32} : fI (wF h p g) q k = fI h q k := by unfold fI; rw [fV_wF]
theorem fI_wG {h : JH} {p q k : Nat} {g : Nat → Int64} : fI (wG h p g) q k = fI h q k := by unfold fI; rw [fV_wG]
theorem fI_wR {h : JH} {p q k : Nat} {g : Nat → Option Nat} : fI (wR h p g) q k = fI h q k := by unfold fI; rw [fV_wR]
theorem fI_sV_ne {h : JH} {p q k j : Nat} {w : Value} (hn : p ≠ q) : fI (sV h p k w) q j = fI h q j := by unfold fI; rw [fV_sV_ne hn]
theorem fI_sV_k {h : JH} {p q k j : Nat} {w : Value} (hn : k ≠ j) : fI (sV h p k w) q j = fI h q j := by unfold fI; rw [fV_sV_k hn]
theorem fL_wF {h : JH} {p q k : Nat} {g : Nat → Int32} : fL (wF h p g) q k = fL h q k := by unfold fL; rw [fV_wF]
theorem fL_wG {h : JH} {p q k : Nat} {g : Nat → Int64} : fL (wG h p g) q k = fL h q k := by unfold fL; rw [fV_wG]
theorem fL_wR {h : JH} {p q k : Nat} {g : Nat → Option Nat} : fL (wR h p g) q k = fL h q k := by unfold fL; rw [fV_wR]
theorem fL_sV_ne {h : JH} {p q k j : Nat} {w : Value} (hn : p ≠ q) : fL (sV h p k w) q j = fL h q j := by unfold fL; rw [fV_sV_ne hn]
theorem fL_sV_k {h : JH} {p q k j : Nat} {w : Value} (hn : k ≠ j) : fL (sV h p k w) q j = fL h q j := by unfold fL; rw [fV_sV_k hn]
theorem fI_sV {h : JH} {p c k : Nat} {x : Int32} (ho : obj h p c) (hk : (jks c)[k]? = some 0) : fI (sV h p k (.int x)) p k = x := by unfold fI; rw [fV_sV ho hk]; rfl
theorem fL_sV {h : JH} {p c k : Nat} {x : Int64} (ho : obj h p c) (hk : (jks c)[k]? = some 1) : fL (sV h p k (.long x)) p k = x := by unfold fL; rw [fV_sV ho hk]; rfl
