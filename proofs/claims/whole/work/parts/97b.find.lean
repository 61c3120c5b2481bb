/-! A RUN: the scales of the rule in hand -/
/-- the first slot of these that is such; as many as there are, if none is -/
def fdx (mr : Nat) (bb : Nat → Bool) (ff : Nat → Nat) (tt : Nat → Bool) (B : Bool) (F : Nat) (T : Bool) : Nat := (List.range mr).findIdx (fun s => (bb s == B) && ((ff s == F) && (tt s == T)))
theorem fI_at {P : Nat → Bool} {n i : Nat} (h : i < n) (hp : P i = true) (hn : ∀ j, j < i → P j = false) : (List.range n).findIdx P = i := by
  rw [List.findIdx_eq (by rw [List.length_range]; exact h)]
  refine ⟨by rw [List.getElem_range]; exact hp, fun j hj => ?_⟩
  rw [List.getElem_range]
  exact hn j hj
theorem fI_no {P : Nat → Bool} {n : Nat} (hn : ∀ j, j < n → P j = false) : (List.range n).findIdx P = n := by
  rw [List.findIdx_eq_length_of_false (fun x hx => hn x (List.mem_range.mp hx)), List.length_range]
section FDS
variable {X : JX} {d : Nat} {Q : JQ} {h : JH} {n : Nat} {m ρ τ f : Nat → Nat} {b t : Nat → Bool} {fl : Nat → Nat → Int} {r : Nat}
theorem c_firstLike (x : RB h n m ρ τ b f t fl) (hr : r < n) {B T : Bool} {F : Nat} (hF : F ≤ 3) (H1 : ∀ s, s < m r → fdx (m r) (fun s => b (8 * r + s)) (fun s => f (8 * r + s)) (fun s => t (8 * r + s)) B F T = s → b (8 * r + s) = B → f (8 * r + s) = F → t (8 * r + s) = T → Q (some (.ref (τ (8 * r + s)))) h) (H0 : fdx (m r) (fun s => b (8 * r + s)) (fun s => f (8 * r + s)) (fun s => t (8 * r + s)) B F T = m r → Q (some .null) h) : jex X (d + 1) 170 [.ref (ρ r), .int (bi B), .int (nI F), .int (bi T)] h Q := by
  obtain ⟨m8, aR1, r126, ob, f0, ar, f1, a83⟩ := x.2.2.2.1 r hr
  have e1 : fI h (ρ r) 1 = nI (m r) := by rw [ti_eq, nI_toInt (by omega)]; exact f1
  have beq : ∀ {u v : Bool}, bi u = bi v ↔ u = v := by intro u v; cases u <;> cases v <;> decide
  have L : ∀ (k s : Nat) (o : Option Value) (c z : Nat), s + k = m r → (∀ j, j < s → ((b (8 * r + j) == B) && ((f (8 * r + j) == F) && (t (8 * r + j) == T))) = false) → jB_X6_firstLike_3 X d Q (ρ r) (bi B) (nI F) (bi T) (nI s) o h c z := by
    intro k
    induction k with
    | zero =>
      intro s o c z hs hn
      refine jT_X6_firstLike_3 ?_
      rw [jgI_ob ob rfl, e1]
      refine jif_n (nI_nlt (by omega) (by omega)) (H0 ?_)
      exact fI_no (fun j hj => hn j (by omega))
    | succ k ih =>
      intro s o c z hs hn
      have hs' : s < m r := by omega
      obtain ⟨z1, z2, sc, sm⟩ := x.2.2.2.2.1 r s hr hs'
      obtain ⟨so, sf1, sf3, s0, s1, s2, _⟩ := sc
      have NXT : ((b (8 * r + s) == B) && ((f (8 * r + s) == F) && (t (8 * r + s) == T))) = false → ∀ (o : Option Value), jB_X6_firstLike_3 X d Q (ρ r) (bi B) (nI F) (bi T) (nI s + 1) o h c z := by
        intro no o
        rw [nI_1]
        refine ih (s + 1) _ _ _ (by omega) (fun j hj => ?_)
        by_cases e : j = s
        · rw [e]; exact no
        · exact hn j (by omega)
      refine jT_X6_firstLike_3 ?_
      rw [jgI_ob ob rfl, e1]
      refine jif_t (nI_lt hs' (by omega)) ?_
      rw [jgf_ob ob rfl, f0, jaln_arR ar]
      refine jif_t (nI_lt (b := 8) (by omega) (by omega)) ?_
      rw [jgf_ob ob rfl, f0, jaA_ar ar]
      refine ⟨by rw [vp_inI, nI_toInt (by omega)]; omega, ?_⟩
      rw [nI_clamp (by omega), z1, show va_rf (some (τ (8 * r + s))) = .ref (τ (8 * r + s)) from rfl]
      dsimp only [jisr, jnul]
      rw [jgI_ob so rfl, s0]
      refine ⟨fun c0 => ?_, fun c0 => NXT ?_ _⟩
      · have c0 := beq.1 c0
        rw [jgI_ob so rfl, s1]
        refine ⟨fun c1 => ?_, fun c1 => NXT ?_ _⟩
        · have c1 := (nI_eq (by omega) (by omega)).1 c1
          rw [jgI_ob so rfl, s2]
          refine ⟨fun c2 => ?_, fun c2 => NXT ?_ _⟩
          · have c2 := beq.1 c2
            refine H1 s hs' ?_ c0 c1 c2
            refine fI_at hs' ?_ hn
            simp only [c0, c1, c2, beq_self_eq_true, Bool.and_self]
          · have : (t (8 * r + s) == T) = false := beq_eq_false_iff_ne.mpr (fun q => c2 (by rw [q]))
            rw [this, Bool.and_false, Bool.and_false]
        · have : (f (8 * r + s) == F) = false := beq_eq_false_iff_ne.mpr (fun q => c1 (by rw [q]))
          rw [this, Bool.false_and, Bool.and_false]
      · have : (b (8 * r + s) == B) = false := beq_eq_false_iff_ne.mpr (fun q => c0 (by rw [q]))
        rw [this, Bool.false_and]
  rw [jE_X6_firstLike]
  refine jT_X6_firstLike_0 ?_
  exact L (m r) 0 _ _ _ (by omega) (fun j hj => absurd hj (Nat.not_lt_zero _))
end FDS
