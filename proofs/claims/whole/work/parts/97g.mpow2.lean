/-! A RUN: the model's powers -/
def pF : List (Nat × Nat) := (81, 48) :: mF
/-- the hand's bounds in a run -/
def BUn (x : S7) : Prop := -4096 ≤ zs x ∧ zs x ≤ 4096 ∧ 0 ≤ zh x ∧ zh x ≤ 4096 ∧ 0 ≤ zu x ∧ zu x ≤ 100000 ∧ 0 ≤ zv x ∧ zv x ≤ 100000 ∧ 0 ≤ zsl x ∧ zsl x ≤ 1000000 ∧ 0 ≤ zhm x ∧ zhm x ≤ 1000000
/-- atom i is worth o, if anything -/
def AV (h : JH) (i : Nat) (o : Option V6) : Prop := (aF h 99 i = -1 ∧ ∃ v, o = some v ∧ ∀ w, w < 6 → v w = if w % 2 = 0 then (aF h 100 i).toInt else (aF h 101 i).toInt) ∨ ∃ c, c < 12 ∧ aF h 99 i = nI c ∧ ((aF h 109 c = 1 ∧ ∃ v, o = some v ∧ ∀ w, w < 6 → v w = (aF h 110 (6 * c + w)).toInt) ∨ (aF h 109 c = 0 ∧ o = none))
noncomputable def pwT (ey pl : Int) (c : Option (Nat → Int)) (b : Bool) (f : Nat) (t : Bool) (v : V6) (y : S7) : Int × S7 × V6 := match c with
  | none => (2, y, v)
  | some fl => if lkW ey y b f t fl pl = 0 then (0, y, lkV ey y b f t fl pl) else (lkW ey y b f t fl pl, y, v)
noncomputable def pw2 (hs ey pl : Int) (c1 c2 : Option (Nat → Int)) (b1 : Bool) (f1 : Nat) (b2 : Bool) (f2 : Nat) (t2 : Bool) (v : V6) (x : S7) : Int × S7 × V6 := match c1 with
  | none => (2, x, v)
  | some fl => if (pset hs x (ct f1 false fl (vmk v f1)) b1 (lse v f1)).1 = 0 then pwT ey pl c2 b2 f2 t2 v (pset hs x (ct f1 false fl (vmk v f1)) b1 (lse v f1)).2 else ((pset hs x (ct f1 false fl (vmk v f1)) b1 (lse v f1)).1, x, v)
noncomputable def pwR (hs ey : Int) (sl : SL) (w : Int32) (v : V6) (x : S7) : Int × S7 × V6 := if w = 6 then pw2 hs ey (2 * v 1) (sl true 1 false) (sl true 2 false) true 1 true 2 false v x else if w = 7 then pw2 hs ey (3 * v 1) (sl true 1 false) (sl true 3 false) true 1 true 3 false v x else if w = 8 then pw2 hs ey (v 1 / 2) (sl true 2 false) (sl true 1 false) true 2 true 1 false v x else if w = 9 then pw2 hs ey (v 1 / 3) (sl true 3 false) (sl true 1 false) true 3 true 1 false v x else if w = 10 then pw2 hs ey (-1 - v 1) (sl false 1 false) (sl false 1 true) false 1 false 1 true v x else (0, x, v)
noncomputable def pwS (hs ey : Int) (sl : SL) (w : Int32) (s : Nat) (o : Option V6) (x : S7) : Int × S7 × V6 := if s = 200 then (1, x, fun _ => 0) else match o with
  | none => (6, x, fun _ => 0)
  | some v => pwR hs ey sl w v x
section MPO
variable {X : JX} {d : Nat} {Q : JQ} {h : JH} {n : Nat} {m ρ τ f : Nat → Nat} {b t : Nat → Bool} {fl : Nat → Nat → Int} {r : Nat} {p i s : Nat} {x : S7} {hs ey : Int} {v : V6} {o : Option V6}
theorem pset_b {C lo : Int} {bb : Bool} (c : (pset hs x C bb lo).1 = 0) : zs (pset hs x C bb lo).2 = zs x ∧ 0 ≤ zh (pset hs x C bb lo).2 ∧ zh (pset hs x C bb lo).2 ≤ 4096 ∧ zu (pset hs x C bb lo).2 = zu x ∧ zu x ≤ 999 ∧ zv (pset hs x C bb lo).2 ≤ 999 ∧ zv (pset hs x C bb lo).2 = hs + ((if bb then 0 else zu x) + lo) ∧ zsl (pset hs x C bb lo).2 = zsl x ∧ zhm (pset hs x C bb lo).2 = zhm x + 1 ∧ zpl (pset hs x C bb lo).2 = zpl x := by
  unfold pset phair at c ⊢
  by_cases q : C + (if bb then 0 else zs x) < 0 ∨ 4096 < C + (if bb then 0 else zs x)
  · rw [if_pos q] at c; exact absurd c (by show ¬ (5 : Int) = 0; decide)
  · rw [if_neg q] at c ⊢
    have c : jd (s7 (zs x) (C + (if bb then 0 else zs x)) (zu x) (hs + ((if bb then 0 else zu x) + lo)) (zsl x) (zhm x + 1) (zpl x)) = 0 := c
    have j : ¬ (999 < zu x ∨ 999 < hs + ((if bb then 0 else zu x) + lo)) := by
      intro w
      have c4 : jd (s7 (zs x) (C + (if bb then 0 else zs x)) (zu x) (hs + ((if bb then 0 else zu x) + lo)) (zsl x) (zhm x + 1) (zpl x)) = 4 := if_pos w
      exact absurd (c4.symm.trans c) (by decide)
    generalize C + (if bb then 0 else zs x) = z1 at *
    generalize hs + ((if bb then 0 else zu x) + lo) = z2 at *
    refine ⟨rfl, ?_, ?_, rfl, ?_, ?_, rfl, rfl, rfl, rfl⟩
    · show 0 ≤ z1; omega
    · show z1 ≤ 4096; omega
    · omega
    · show z2 ≤ 999; omega
theorem c_asked (g : G h) (hi : i < 210) (hp : p < 210) (av : AV h i o) (H1 : ∀ v, o = some v → ∀ h1, fr [111] [] h h1 → PW h1 p v → (∀ j, (j < 6 * p ∨ 6 * p + 6 ≤ j) → aF h1 111 j = aF h 111 j) → Q (some (.int 1)) h1) (H0 : o = none → ∀ h1, fr [] [(81, 52)] h h1 → (fI h1 81 52).toInt = 6 → Q (some (.int 0)) h1) : jex X (d + 2) 202 [.ref 81, .int (nI i), .int (nI p)] h Q := by
  rcases av with ⟨e99, v, ev, hv⟩ | ⟨c, hc, e99, w⟩
  · refine c_askedN g hi hp e99 rfl rfl (fun h1 k1 pw oj => H1 v ev h1 k1 (fun w hw => ?_) oj)
    rw [pw w hw, hv w hw]
  · refine c_askedV g hi hp hc e99 ?_ (fun e1 h1 k1 pw oj => ?_) (fun e0 h1 k1 e52 => ?_)
    · rcases w with w | w
      · exact Or.inr w.1
      · exact Or.inl w.1
    · rcases w with ⟨_, v, ev, hv⟩ | w
      · refine H1 v ev h1 k1 (fun w hw => ?_) oj
        rw [pw w hw, hv w hw]
      · exact absurd (w.1.symm.trans e1) (by decide)
    · rcases w with w | w
      · exact absurd (w.1.symm.trans e0) (by decide)
      · exact H0 w.2 h1 k1 e52
theorem c_counts (g : G h) (es : fI h 81 48 = nI s) (hs2 : s ≤ 200) (H1 : s ≠ 200 → Q (some (.int 1)) (sV h 81 48 (.int (nI (s + 1))))) (H0 : s = 200 → Q (some (.int 0)) (sV h 81 52 (.int 1))) : jex X (d + 2) 198 [.ref 81] h Q := by
  rw [jE_X12_counts]
  refine jT_X12_counts_0 ?_
  rw [jgI_ob (c := 12) (by simp only [gM g]) rfl, es]
  refine ⟨fun q => ?_, fun q => ?_⟩
  · have q := (nI_eq (b := 200) (by omega) (by omega)).1 q
    rw [jrc_ob (by simp only [gM g])]
    refine c_breaks g ?_
    try dsimp only [jrI, jrN, jrA, jisr, jnul, jcat1]
    exact ⟨by decide, H0 q⟩
  · rw [jgI_ob (c := 12) (by simp only [gM g]) rfl, es, jpI_ob (c := 12) (by simp only [gM g]) rfl, nI_1]
    exact ⟨by decide, H1 (fun z => q (by rw [z]; rfl))⟩
/-- a power's two moves: the hair, then the look -/
theorem l_pw (g : G h) (rb : RB h n m ρ τ b f t fl) (hr : r < n) (e13 : fI h 81 13 = nI r) (mx : MX h x) (be : BUn x) (e10 : (fI h 81 10).toInt = hs) (h0 : 0 ≤ hs) (h20 : hs ≤ 20) (e11 : (fI h 81 11).toInt = ey) (y0 : 0 ≤ ey) (y40 : ey ≤ 40) (hp : p < 210) (pv : PW h p v) (gv : GV v) {b1 b2 t2 : Bool} {f1 f2 : Nat} (hf1 : f1 ≤ 3) (hf2 : f2 ≤ 3) {e : Int32} {pl : Int} (epl : e.toInt = pl) (p0 : -1000000 ≤ pl) (p1 : pl ≤ 1000000) {u1 u2 u3 v1 v2 v3 : Int32} (hu1 : u1 = bi b1) (hu2 : u2 = nI f1) (hu3 : u3 = bi false) (hv1 : v1 = bi b2) (hv2 : v2 = nI f2) (hv3 : v3 = bi t2) {M : JH → (Int32 → JH → Prop) → Prop} (hM : ∀ h K, K e h → M h K) {q : Int × S7 × V6} (eq : q = pw2 hs ey pl (slf r (m r) b f t fl b1 f1 false) (slf r (m r) b f t fl b2 f2 t2) b1 f1 b2 f2 t2 v x) (H1 : q.1 = 0 → ∀ h1, fr [89, 111] mF h h1 → MX h1 q.2.1 → PW h1 p q.2.2 → (∀ j, (j < 6 * p ∨ 6 * p + 6 ≤ j) → aF h1 111 j = aF h 111 j) → Q (some (.int 1)) h1) (H0 : q.1 ≠ 0 → ∀ h1, fr [89, 111] mF h h1 → (fI h1 81 52).toInt = q.1 → Q (some (.int 0)) h1) : jrc h (.ref 81) 12 (jex X (d + 5) 203 [.ref 81, .int u1, .int u2, .int u3] h fun r66 h65 => (jrI r66 fun x67 => (jrc h65 (.ref 81) 12 (jex X (d + 5) 204 [.ref 81, .int x67, .int (nI p)] h65 fun r69 h68 => (jrI r69 fun x70 => (jifp (x70 = 0) (Q (some (.int 0)) h68) (jrc h68 (.ref 81) 12 (jex X (d + 5) 203 [.ref 81, .int v1, .int v2, .int v3] h68 fun r72 h71 => (jrI r72 fun x73 => (M h71 fun e2 h72 => (jrc h72 (.ref 81) 12 (jex X (d + 5) 209 [.ref 81, .int x73, .int (nI p), .int e2] h72 fun r75 h74 => (jrI r75 fun x76 => (jifp (x76 = 0) (Q (some (.int 0)) h74) (Q (some (.int 1)) h74))))))))))))))) := by
  obtain ⟨z1, z2, z3, z4, z5, z6, z7, z8, z9, z10, z11, z12⟩ := be
  subst hu1 hu2 hu3 hv1 hv2 hv3
  rw [jrc_ob (by simp only [gM g])]
  unfold pw2 at eq
  change jex X (d + 4 + 1) 203 _ _ _
  refine c_find g rb hr e13 hf1 (fun k flk sm es => ?_) (fun es => ?_)
  · rw [es] at eq
    try dsimp only [jrI, jrN, jrA, jisr, jnul, jcat1]
    rw [jrc_ob (by simp only [gM g])]
    refine c_hairBy g sm mx z1 z2 z5 (by omega) z11 (by omega) e10 h0 h20 pv gv hp (fun e0 h2 k2 mx2 => ?_) (fun e0 h2 k2 e52 => ?_)
    · have eq := eq.trans (if_pos e0)
      have bb := pset_b e0
      have lb := lse_b gv (F := f1) sm.2.1 hf1
      have q5 : 0 ≤ (if b1 then 0 else zu x) := by split <;> omega
      generalize (pset hs x (ct f1 false flk (vmk v f1)) b1 (lse v f1)).2 = y at *
      have g2 := G_fr g rfl k2
      try dsimp only [jrI, jrN, jrA, jisr, jnul, jcat1]
      refine jif_n (by decide) ?_
      rw [jrc_ob (by simp only [gM g2])]
      unfold pwT at eq
      change jex X (d + 4 + 1) 203 _ _ _
      refine c_find g2 (RB_fr rb k2 (by decide)) hr (by rw [frI k2 (by decide) (by decide)]; exact e13) hf2 (fun k' flk' sm' es' => ?_) (fun es' => ?_)
      · rw [es'] at eq
        try dsimp only [jrI, jrN, jrA, jisr, jnul, jcat1]
        refine hM _ _ ?_
        rw [jrc_ob (by simp only [gM g2])]
        refine c_lookBy g2 sm' mx2 (by omega) (by omega) (by omega) (by omega) (by omega) (by omega) (by omega) (by omega) (by rw [frI k2 (by decide) (by decide)]; exact e11) y0 y40 hp epl p0 p1 (fun w0 h3 k3 pw3 oj3 => ?_) (fun w0 h3 k3 e52 => ?_)
        · have eq := eq.trans (if_pos w0)
          have k3' := fr_trans (fr_mono (B := [89, 111]) (E := mF) (by decide) (by decide) k2) (fr_mono (B := [89, 111]) (E := mF) (by decide) (by decide) k3)
          rw [eq] at H1
          try dsimp only [jrI, jrN, jrA, jisr, jnul, jcat1]
          refine jif_n (by decide) (H1 rfl h3 k3' (MX_eq mx2 (frI k3 (by decide) (by decide)) (frI k3 (by decide) (by decide)) (frI k3 (by decide) (by decide)) (frI k3 (by decide) (by decide)) (frI k3 (by decide) (by decide)) (frI k3 (by decide) (by decide)) (frI k3 (by decide) (by decide))) pw3 (fun j hj => ?_))
          rw [oj3 j hj, frF k2 (by decide)]
        · have eq := eq.trans (if_neg w0)
          have k3' := fr_trans (fr_mono (B := [89, 111]) (E := mF) (by decide) (by decide) k2) (fr_mono (B := [89, 111]) (E := mF) (by decide) (by decide) k3)
          rw [eq] at H0
          try dsimp only [jrI, jrN, jrA, jisr, jnul, jcat1]
          exact jif_t rfl (H0 w0 h3 k3' e52)
      · rw [es'] at eq
        have eq : q = (2, y, v) := eq
        rw [eq] at H0
        try dsimp only [jrI, jrN, jrA, jisr, jnul, jcat1]
        refine hM _ _ ?_
        rw [jrc_ob (by simp only [gM g2])]
        refine c_lookBy0 g2 (fun h3 k3 e52 => ?_)
        try dsimp only [jrI, jrN, jrA, jisr, jnul, jcat1]
        exact jif_t rfl (H0 (show ¬ (2 : Int) = 0 by decide) h3 (fr_trans (fr_mono (by decide) (by decide) k2) (fr_mono (by decide) (by decide) k3)) e52)
    · have eq := eq.trans (if_neg e0)
      rw [eq] at H0
      try dsimp only [jrI, jrN, jrA, jisr, jnul, jcat1]
      exact jif_t rfl (H0 e0 h2 (fr_mono (by decide) (by decide) k2) e52)
  · rw [es] at eq
    have eq : q = (2, x, v) := eq
    rw [eq] at H0
    try dsimp only [jrI, jrN, jrA, jisr, jnul, jcat1]
    rw [jrc_ob (by simp only [gM g])]
    refine c_hairBy0 g (fun h3 k3 e52 => ?_)
    try dsimp only [jrI, jrN, jrA, jisr, jnul, jcat1]
    exact jif_t rfl (H0 (show ¬ (2 : Int) = 0 by decide) h3 (fr_mono (by decide) (by decide) k3) e52)
end MPO
