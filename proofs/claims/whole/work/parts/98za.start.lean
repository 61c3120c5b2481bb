/-! THE START: both stand alike -/
section STA
variable {X : JX} {q6 q10 : vw_C}
theorem q6_is (h6 : vwCl[6]? = some q6) : q6 = vwCl[6]'(by decide) := (Option.some.inj (h6.symm.trans rfl))
theorem q10_is (h10 : vwCl[10]? = some q10) : q10 = vwCl[10]'(by decide) := (Option.some.inj (h10.symm.trans rfl))
def hpc : JH := hp0 (vwCl[6]'(by decide)) (vwCl[10]'(by decide))
theorem hpc_FR : FR hpc := by
  intro t ht
  have D : ∀ t, t ∈ gtab → fV hpc t.1 t.2.1 = t.2.2 := by decide +kernel
  exact D t ht
theorem hpc_KV : KV hpc := by
  have D : ∀ i, i < 12 → aR hpc 25 i = some (27 + 2 * i) ∧ aR hpc 26 i = some (28 + 2 * i) := by decide +kernel
  exact D
theorem hpc_LT : LT hpc := ⟨rfl, rfl, rfl, rfl, fun _ => rfl, fun _ => rfl, rfl⟩
theorem hpc_G : G hpc := ⟨⟨_, _, rfl, rfl, wf_hp0 _ _⟩, hpc_FR, hpc_KV, hpc_LT⟩
theorem hpc_F : (fI hpc 0 2 = 0 ∧ fI hpc 81 4 = 0 ∧ fI hpc 81 13 = fI hpc 6 3 ∧ fI hpc 81 14 = fI hpc 6 4 ∧ fI hpc 81 15 = fI hpc 6 5 ∧ fI hpc 81 16 = fI hpc 6 6 ∧ fI hpc 81 17 = fI hpc 6 7 ∧ fI hpc 6 4 = 0 ∧ fI hpc 6 5 = 0 ∧ fI hpc 6 6 = 0 ∧ fI hpc 6 7 = 0 ∧ fI hpc 6 3 = -1 ∧ fV hpc 6 2 = .null) ∧ (fI hpc 81 74 = fI hpc 71 5 ∧ fI hpc 71 5 = 0) ∧ (fI hpc 81 10 = fI hpc 6 0 ∧ fI hpc 81 11 = fI hpc 6 1 ∧ fI hpc 6 0 = 2 ∧ fI hpc 6 1 = 10) ∧ (fI hpc 81 1 = fI hpc 7 1 ∧ fI hpc 7 1 = 0) ∧ (fI hpc 81 58 = fI hpc 59 3 ∧ fI hpc 59 3 = 0 ∧ fI hpc 59 9 = 0) ∧ CH hpc ∧ (fV hpc 0 5 = .ref 10 ∧ fV hpc 0 6 = .ref 17 ∧ fI hpc 10 4 = 0 ∧ fI hpc 10 6 = 0) ∧ (fV hpc 24 3 = .ref 25 ∧ fV hpc 24 4 = .ref 26) ∧ fI hpc 81 3 = fI hpc 0 7 ∧ fI hpc 81 54 = fI hpc 24 17 ∧ fI hpc 81 55 = fI hpc 24 18 ∧ fI hpc 81 51 = fI hpc 24 19 := by
  unfold CH
  decide +kernel
theorem hpc_V : ∀ i, i < 12 → fI hpc (kvo 25 i) 0 = 0 := by decide +kernel
theorem hpc_Iv : Iv 2000 hpc := by
  obtain ⟨⟨a1, a2, a3, a4, a5, a6, a7, a8, a9, a10, a11, a12, a13⟩, ⟨b1, b2⟩, ⟨c1, c2, c3, c4⟩, ⟨d1, d2⟩, ⟨e1, e2, e3⟩, ch, ⟨p1, p2, p3, p4⟩, ⟨v1, v2⟩, y1, y2, y3, y4⟩ := hpc_F
  have z0 : (0 : Int32).toInt = 0 := rfl
  refine ⟨hpc_G, ⟨0, fun _ => 0, fun _ => 0, fun _ => 0, fun _ => false, fun _ => 0, fun _ => false, fun _ _ => 0, ⟨by decide, by rw [a1]; rfl, by rw [a2]; rfl, fun r hr => absurd hr (Nat.not_lt_zero _), fun r s hr => absurd hr (Nat.not_lt_zero _), fun r r' hr => absurd hr (Nat.not_lt_zero _), fun r s r' s' hr => absurd hr (Nat.not_lt_zero _), fun r s j _ _ _ _ => rfl⟩, ⟨a3, a4, a5, a6, a7, ?_, ?_, ?_, ?_, ?_, ?_, ?_, ?_, Or.inl ⟨by rw [a12]; rfl, a13⟩⟩, ⟨b1, ?_, ?_, fun i hi => ?_⟩⟩, ⟨c1, c2, ?_, ?_, ?_, ?_⟩, ⟨d1, ?_, ?_, fun i hi => ?_⟩, ⟨e1, ?_, ?_, fun i hi => ?_⟩, ch, ?_, ?_, Or.inl e3, y1, y2, y3, y4⟩
  · rw [a8]; decide
  · rw [a8]; decide
  · rw [a9]; decide
  · rw [a9]; decide
  · rw [a10]; decide
  · rw [a10]; decide
  · rw [a11]; decide
  · rw [a11]; decide
  · rw [b2]; decide
  · rw [b2]; decide
  · rw [b2, z0] at hi; omega
  · rw [c3]; decide
  · rw [c3]; decide
  · rw [c4]; decide
  · rw [c4]; decide
  · rw [d2]; decide
  · rw [d2]; decide
  · rw [d2, z0] at hi; omega
  · rw [e2]; decide
  · rw [e2]; decide
  · rw [e2, z0] at hi; omega
  · refine ⟨fun _ => 0, 0, 0, by decide, ⟨fun j hj => absurd hj (Nat.not_lt_zero _), Or.inl ⟨by decide, rfl, rfl⟩⟩, ⟨by decide, rfl, rfl⟩, rfl, ⟨rfl, fun i hi => absurd hi (Nat.not_lt_zero _), rfl, fun i hi => absurd hi (Nat.not_lt_zero _), rfl⟩, Or.inl ⟨p1, p2, p3, ⟨p4, fun j hj => absurd hj (Nat.not_lt_zero _)⟩, fun i hi => absurd hi (Nat.not_lt_zero _)⟩⟩
  · exact ⟨25, Or.inl rfl, v1, v2, fun i hi => ⟨Or.inl rfl, hpc_V i hi, fun w => absurd (show (0 : Int32) = 1 from w) (by decide)⟩⟩
theorem jlaw : ∀ X : JX, X.1 ≤ 4096 → jev X (jex X 10) jm_L_law jlawQ 0 (jent jm_L_law [.float 0]) [] [] 0 0 := by
  intro X hL
  refine law_start (fun q6 q10 h6 h10 => ?_)
  have e : hp0 q6 q10 = hpc := by
    rw [q6_is h6, q10_is h10]
    rfl
  rw [e]
  have iv : Iv (2000 + 20 * ((0 : Nat) : Int)) hpc := hpc_Iv
  exact l_law hL 513 0 hpc 126 36841 rfl iv (Nat.le_refl _) (Nat.le_refl _)
end STA
