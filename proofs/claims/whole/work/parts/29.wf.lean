/-! THE STANDING HEAP, AS A STATEMENT THAT STAYS -/
def wf (q6 q10 : vw_C) (h : JH) : Prop := ∀ p, p < 126 → sh h p = (stb q6 q10)[p]?
theorem wf_hp0 (q6 q10 : vw_C) : wf q6 q10 (hp0 q6 q10) := fun p _ => by rw [sh_map, hp0_sh]
section WF
variable {q6 q10 : vw_C} {h : JH}
theorem wf_obj (hw : wf q6 q10 h) {p c : Nat} (hp : Nat.ble (p + 1) 126 = true) (e : (stb q6 q10)[p]? = some (.inr (c, jks c))) : obj h p c := (hw p (Nat.lt_of_succ_le (Nat.le_of_ble_eq_true hp))).trans e
theorem wf_arr (hw : wf q6 q10 h) {p n : Nat} {t : FieldType} (hp : Nat.ble (p + 1) 126 = true) (e : (stb q6 q10)[p]? = some (.inl (t, n, 0))) : arr h p t n := (hw p (Nat.lt_of_succ_le (Nat.le_of_ble_eq_true hp))).trans e
theorem wf_arL (hw : wf q6 q10 h) {p n : Nat} (hp : Nat.ble (p + 1) 126 = true) (e : (stb q6 q10)[p]? = some (.inl (.long, n, 1))) : arL h p n := (hw p (Nat.lt_of_succ_le (Nat.le_of_ble_eq_true hp))).trans e
theorem wf_sV (hw : wf q6 q10 h) {p k : Nat} {w : Value} : wf q6 q10 (sV h p k w) := fun q hq => by rw [sh_sV]; exact hw q hq
theorem wf_wF (hw : wf q6 q10 h) {p : Nat} {g : Nat → Int32} : wf q6 q10 (wF h p g) := fun q hq => by rw [sh_wF]; exact hw q hq
theorem wf_wG (hw : wf q6 q10 h) {p : Nat} {g : Nat → Int64} : wf q6 q10 (wG h p g) := fun q hq => by rw [sh_wG]; exact hw q hq
theorem wf_wR (hw : wf q6 q10 h) {p : Nat} {g : Nat → Option Nat} : wf q6 q10 (wR h p g) := fun q hq => by rw [sh_wR]; exact hw q hq
theorem wf_app (hw : wf q6 q10 h) (hl : 126 ≤ h.length) {c : JC} : wf q6 q10 (h ++ [c]) := fun q hq => by rw [sh_app (by omega)]; exact hw q hq
theorem wf_o0 (hw : wf q6 q10 h) : obj h 0 11 := wf_obj hw rfl rfl
theorem wf_o1 (hw : wf q6 q10 h) : obj h 1 3 := wf_obj hw rfl rfl
theorem wf_o6 (hw : wf q6 q10 h) : obj h 6 2 := wf_obj hw rfl rfl
theorem wf_o7 (hw : wf q6 q10 h) : obj h 7 9 := wf_obj hw rfl rfl
theorem wf_o24 (hw : wf q6 q10 h) : obj h 24 7 := wf_obj hw rfl rfl
theorem wf_o59 (hw : wf q6 q10 h) : obj h 59 4 := wf_obj hw rfl rfl
theorem wf_o70 (hw : wf q6 q10 h) : obj h 70 1 := wf_obj hw rfl rfl
theorem wf_o71 (hw : wf q6 q10 h) : obj h 71 0 := wf_obj hw rfl rfl
theorem wf_o81 (hw : wf q6 q10 h) : obj h 81 12 := wf_obj hw rfl rfl
theorem wf_a8 (hw : wf q6 q10 h) : arr h 8 .int 2000 := wf_arr hw rfl rfl
theorem wf_a82 (hw : wf q6 q10 h) : arr h 82 .byte 2000 := wf_arr hw rfl rfl
theorem wf_a88 (hw : wf q6 q10 h) : arr h 88 .int 1001 := wf_arr hw rfl rfl
theorem wf_a9 (hw : wf q6 q10 h) : arL h 9 15 := wf_arL hw rfl rfl
theorem wf_len (hw : wf q6 q10 h) : 126 ≤ h.length := by
  have := sh_lt (hw 125 (by decide) |>.trans (show (stb q6 q10)[125]? = some (.inl (.boolean, 80, 0)) from rfl))
  omega
end WF
