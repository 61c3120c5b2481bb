/-! A RUN: the class ends a let -/
def elF (w : Nat) : List (Nat × Nat) := (24, 15) :: (hF 6 ++ vO w)
/-- no field of the values that names have -/
def midF (F : List (Nat × Nat)) : Bool := F.all (fun q => decide (q.1 < 27) || decide (50 < q.1))
section CEL
variable {X : JX} {d : Nat} {Q : JQ} {h h1 : JH} {n : Nat} {m ρ τ f : Nat → Nat} {b t : Nat → Bool} {fl : Nat → Nat → Int} {r p q : Nat} {u : Nat → Int} {N Nt K k e : Nat} {x : S7} {hs ey : Int} {ov : Nat → Bool} {vs : Nat → V6} {td : Nat → Bool} {vl : Nat → V6}
theorem vO_e {a c w : Nat} (hm : (a, c) ∈ vO w) : a = w := by
  unfold vO at hm
  simp only [List.mem_cons, Prod.mk.injEq, List.not_mem_nil, or_false] at hm
  omega
theorem vO_n {a c w : Nat} (hn : a ≠ w) : (a, c) ∉ vO w := fun z => hn (vO_e z)
theorem elF_n {a c w : Nat} (hn : a ≠ w) (h2 : (a, c) ∉ ((24, 15) :: hF 6 : List (Nat × Nat))) : (a, c) ∉ elF w := by
  intro z
  unfold elF at z
  rcases List.mem_cons.mp z with z | z
  · exact h2 (by rw [z]; exact List.mem_cons_self)
  · rcases List.mem_append.mp z with z | z
    · exact h2 (List.mem_cons_of_mem _ z)
    · exact vO_n hn z
theorem mid_n {F : List (Nat × Nat)} (hF : midF F = true) {a c : Nat} (h27 : 27 ≤ a) (h50 : a ≤ 50) : (a, c) ∉ F := by
  intro z
  have := List.all_eq_true.mp hF _ z
  rw [Bool.or_eq_true] at this
  rcases this with w | w
  · have := of_decide_eq_true w; omega
  · have := of_decide_eq_true w; omega
theorem kvo_r {i : Nat} (hi : i < 12) : 27 ≤ kvo q i ∧ kvo q i ≤ 50 := by
  unfold kvo
  split <;> omega
theorem CVs_fr {A : List Nat} {F : List (Nat × Nat)} (cv : CVs h q td vl) (a : fr A F h h1) (hF : midF F = true) : CVs h1 q td vl := by
  intro i hi
  obtain ⟨v1, v2⟩ := cv i hi
  have kr := kvo_r (q := q) hi
  exact ⟨by rw [frI a (mid_n hF kr.1 kr.2) (by omega)]; exact v1, fun w => ⟨(v2 w).1, VBo_fr (v2 w).2 a (fun k => mid_n hF kr.1 kr.2) (by omega)⟩⟩
theorem c_endLet (g : G h) (rb : RB h n m ρ τ b f t fl) (hr : r < n) (e62 : fV h 6 2 = .ref (ρ r)) (hx : HS h 6 x) (be : BUn x) (x1 : zsl x ≤ 940000) (x2 : zhm x ≤ 940000) (px0 : -10000000 ≤ zpl x) (px1 : zpl x ≤ 10000000) (e0 : (fI h 6 0).toInt = hs) (h0 : 0 ≤ hs) (h20 : hs ≤ 20) (e1 : (fI h 6 1).toInt = ey) (y0 : 0 ≤ ey) (y40 : ey ≤ 40) (ei : fI h 24 12 = nI N) (N1 : 1 ≤ N) (hN : N ≤ 210) (ar : ∀ i, i < N → ARs h i (vs i) (ov i)) (gv : ∀ k, k < N → GV (vs k)) (ov0 : ov 0 = false) (px : PXs h p u Nt K) (k4 : K ≤ 400) (o : OKt u Nt K) (e2 : fV h 24 2 = .ref p) (hq : q = 25 ∨ q = 26) (e4 : fV h 24 4 = .ref q) (e16 : fI h 24 16 = nI k) (hk : k + 1 < K) (t2 : tK u Nt (k + 1) = 2) (e15 : fI h 24 15 = nI e) {z : Int × S7 × V6} {xx : S7} (ez : z = if (ltc hs (slf r (m r) b f t fl) ov vs x (N - 1)).1 = 0 then pwT ey (zpl (ltc hs (slf r (m r) b f t fl) ov vs x (N - 1)).2) (slf r (m r) b f t fl true 1 false) true 1 false (fun _ => 0) (ltc hs (slf r (m r) b f t fl) ov vs x (N - 1)).2 else ((ltc hs (slf r (m r) b f t fl) ov vs x (N - 1)).1, xx, fun _ => 0)) (H1 : z.1 = 0 → ∀ h1, fr [] (elF (kvo q (nnum u Nt (k + 1)))) h h1 → HS h1 6 z.2.1 → fI h1 24 15 = nI (e + 1) → VBo h1 (kvo q (nnum u Nt (k + 1))) z.2.2 → fI h1 (kvo q (nnum u Nt (k + 1))) 0 = 1 → Q (some (.int 0)) h1) (H0 : z.1 ≠ 0 → ∀ h1, fr [] (elF (kvo q (nnum u Nt (k + 1)))) h h1 → ∀ y : Int32, y.toInt = z.1 → Q (some (.int y)) h1) : jex X (d + 5) 167 [.ref 24] h Q := by
  have ob : obj h 24 7 := by simp only [gO g]
  have n12 := (hft_0 (o (k + 1) hk)).2.2.1 t2
  have kr := kvo_r (q := q) n12
  have kob : ∀ {h1 : JH}, G h1 → obj h1 (kvo q (nnum u Nt (k + 1))) 10 := fun g1 => kvo_obj g1 n12
  have sub : ∀ y, y ∈ hF 6 → y ∈ elF (kvo q (nnum u Nt (k + 1))) := fun y hy => List.mem_cons_of_mem _ (List.mem_append_left _ hy)
  generalize hw : kvo q (nnum u Nt (k + 1)) = w at *
  rw [jE_X7_endLet]
  refine jT_X7_endLet_0 ?_
  rw [jrc_ob ob]
  refine c_calculate (d := d) (vs := vs) (ov := ov) g rb hr e62 hx be (by omega) (by omega) px0 px1 e0 h0 h20 ei N1 hN ar gv ov0 (fun h1 y k1 hy hz => ?_)
  have LB := ltc_b (ov := ov) (sl := slf r (m r) b f t fl) gv be (by omega) (by omega) h0 hN (N - 1) (by omega)
  have kE : fr [] (elF w) h h1 := fr_mono (fun _ w => w) sub k1
  have g1 := G_fr g rfl k1
  try dsimp only [jrI, jrN, jrA, jisr, jnul, jcat1]
  refine ⟨fun c => ?_, fun c => ?_⟩
  · have w0 : (ltc hs (slf r (m r) b f t fl) ov vs x (N - 1)).1 = 0 := by rw [← hy, c]; rfl
    rw [if_pos w0] at ez
    obtain ⟨b1, b2, b3⟩ := LB w0
    have hx1 := hz w0
    generalize (ltc hs (slf r (m r) b f t fl) ov vs x (N - 1)).2 = Y at *
    have bY : BUn Y := by
      unfold LV BUn at *
      omega
    obtain ⟨z1, z2, z3, z4, z5, z6, z7, z8, z9, z10, z11, z12⟩ := bY
    obtain ⟨m1, m2, m3, m4, m5, m6, m7⟩ := id hx1
    have rb1 : RB h1 n m ρ τ b f t fl := RB_fr rb k1 (by decide)
    have ob1 : obj h1 24 7 := by simp only [gO g1]
    have o6 : obj h1 6 2 := by simp only [gO g1]
    have i1 : (fI h1 6 1).toInt = ey := by rw [frI k1 (by decide) (by decide)]; exact e1
    rw [jrc_ob ob1]
    change jex X (d + 4) 169 [.ref 24, .int (nI 1)] h1 _
    refine c_onBody (d := d + 2) g1 rb1 hr (by rw [frV k1 (by decide) (by decide)]; exact e62) (by decide) (fun kk flk p1 sc es => ?_) (fun es => ?_)
    · rw [es] at ez
      unfold pwT at ez
      have eX : lkx h1 6 true = lkX Y true := by unfold lkx lkX; rw [m1, m2]
      have eQ : lkq h1 6 true = lkQ ey Y true := by unfold lkq lkQ; rw [i1, m3, m4]
      try dsimp only [jrI, jrN, jrA, jisr, jnul, jcat1]
      rw [jgf_ob ob1 rfl, show fV h1 24 0 = .ref 6 by simp only [gF g1]]
      try dsimp only [jisr, jnul]
      rw [jrc_ob o6]
      refine c_shows (d := d + 1) g1 o6 sc p1 (by omega) (by omega) (by omega) (by omega) (by omega) (by omega) (by omega) (by omega) (by omega) (by omega) (fun c => ?_) (fun h3 a l uu k23 la lc se za zb zc => ?_)
      · rw [eX] at c
        have eW : lkW ey Y true 1 false flk (zpl Y) = 5 := if_pos c
        have ez := ez.trans (if_neg (by rw [eW]; decide))
        rw [ez] at H0
        try dsimp only [jrI, jrN, jrA, jisr, jnul, jcat1]
        exact jif_t rfl (H0 (show ¬ lkW ey Y true 1 false flk (zpl Y) = 0 by rw [eW]; decide) h1 kE 5 eW.symm)
      · rw [eX] at la lc se
        rw [eQ] at se
        have e3 := see3_eq se
        have eV : lkV ey Y true 1 false flk (zpl Y) = vsn (a, l, uu) (zpl Y) := by unfold lkV; rw [e3]
        have od := SEEN_ord se
        have aN := se.1
        have g3 := G_fr g1 rfl k23
        have ob3 : obj h3 24 7 := by simp only [gO g3]
        have k3 : fr [] (hF 6) h h3 := fr_trans k1 (fr_mono (fun _ w => w) (by decide) k23)
        have k3E : fr [] (elF w) h h3 := fr_mono (fun _ w => w) sub k3
        have hx3 : HS h3 6 Y := HS_fr hx1 k23 (by decide) (by decide) (by decide) (by decide) (by decide) (by decide) (by decide)
        have s3 : obj h3 (τ kk) 8 := (SC_fr sc p1 (lowA_of (by decide)) (lowF_of (by decide)) k23).1
        have j16 : fI h3 24 16 = nI k := by rw [frI k3 (by decide) (by decide)]; exact e16
        have px3 : PXs h3 p u Nt K := PX_fr px k3 (by decide) (by decide)
        have j2 : fV h3 24 2 = .ref p := by rw [frV k3 (by decide) (by decide)]; exact e2
        have j4 : fV h3 24 4 = .ref q := by rw [frV k3 (by decide) (by decide)]; exact e4
        try dsimp only [jrI, jrN, jrA, jisr, jnul, jcat1]
        refine jif_n (by decide) ?_
        rw [jgI_ob ob3 rfl, j16, jgf_ob ob3 rfl, show fV h3 24 5 = .ref 51 by simp only [gF g3], jrc_ob ob3]
        refine c_atomN (d := d + 1) g3 px3 k4 o j2 hq j4 (nI_1 k) hk t2 ?_
        rw [hw]
        try dsimp only [jrI, jrN, jrA, jisr, jnul, jcat1]
        rw [jgf_ob ob3 rfl, show fV h3 24 0 = .ref 6 by simp only [gF g3], jgI_ob (c := 2) (by simp only [gO g3]) rfl]
        have ow := kob g3
        rw [jrc_ob ow]
        have ep : (fI h3 6 10).toInt = zpl Y := hx3.2.2.2.2.2.2
        refine c_setSighted (d := d + 2) ow s3 za zb zc (by omega) (by omega) (by omega) ep (by omega) (by omega) (fun h4 k34 vb t1 => ?_)
        have keepV : keep [] (vO w) = true := by
          unfold keep
          rw [Bool.and_eq_true]
          refine ⟨?_, rfl⟩
          refine List.all_eq_true.mpr (fun y hy => ?_)
          have gy : ∀ y, y ∈ gtab → (y.1 < 27 ∨ 50 < y.1) ∧ y.1 < 126 := by decide
          have gy := gy y hy
          rw [Bool.and_eq_true]
          refine ⟨?_, decide_eq_true gy.2⟩
          cases hc : (vO w).contains (y.1, y.2.1) with
          | false => rfl
          | true =>
            exfalso
            have := vO_e (List.contains_iff_mem.mp hc)
            omega
        have g4 := G_fr g3 keepV k34
        have ob4 : obj h4 24 7 := by simp only [gO g4]
        have hx4 : HS h4 6 Y := HS_fr hx3 k34 (vO_n (by omega)) (vO_n (by omega)) (vO_n (by omega)) (vO_n (by omega)) (vO_n (by omega)) (vO_n (by omega)) (vO_n (by omega))
        have j15 : fI h4 24 15 = nI e := by rw [frI k34 (vO_n (by omega)) (by decide), frI k3 (by decide) (by decide)]; exact e15
        have k4E : fr [] (elF w) h h4 := fr_trans k3E (fr_mono (fun _ w => w) (fun y hy => List.mem_cons_of_mem _ (List.mem_append_right _ hy)) k34)
        try dsimp only [jrI, jrN, jrA, jisr, jnul, jcat1]
        rw [jgI_ob ob4 rfl, j15, nI_1, jpI_ob ob4 rfl]
        have k5 : fr [] [(24, 15)] h4 (sV h4 24 15 (.int (nI (e + 1)))) := fr_sV (by decide) fr_rfl
        have f15 : fI (sV h4 24 15 (.int (nI (e + 1)))) 24 15 = nI (e + 1) := fI_sV ob4 rfl
        generalize sV h4 24 15 (.int (nI (e + 1))) = h5 at *
        have k5E : fr [] (elF w) h h5 := fr_trans k4E (fr_mono (fun _ w => w) (fun y hy => by
          have := List.mem_singleton.mp hy
          rw [this]
          exact List.mem_cons_self) k5)
        have nm : ∀ k, (w, k) ∉ ([(24, 15)] : List (Nat × Nat)) := fun k z => by
          have := congrArg Prod.fst (List.mem_singleton.mp z)
          have : w = 24 := this
          omega
        have hx5 : HS h5 6 Y := HS_fr hx4 k5 (by decide) (by decide) (by decide) (by decide) (by decide) (by decide) (by decide)
        have vb5 : VBo h5 w (vsn (a, l, uu) (zpl Y)) := VBo_fr vb k5 (fun k => nm _) (by omega)
        have t5 : fI h5 w 0 = 1 := by rw [frI k5 (nm 0) (by omega)]; exact t1
        try dsimp only [jisr]
        rw [jrc_ob vb5.1]
        have n1 : vsn (a, l, uu) (zpl Y) 1 = zpl Y + ((a / 900 : Nat) : Int) := rfl
        have n3 : vsn (a, l, uu) (zpl Y) 3 = zpl Y + ((l / 900 : Nat) : Int) := rfl
        have n5 : vsn (a, l, uu) (zpl Y) 5 = zpl Y + ((uu / 900 : Nat) : Int) := rfl
        have eW0 : inP (lkV ey Y true 1 false flk (zpl Y)) → lkW ey Y true 1 false flk (zpl Y) = 0 := fun i => (if_neg (by omega)).trans (if_pos i)
        have eW3 : ¬ inP (lkV ey Y true 1 false flk (zpl Y)) → lkW ey Y true 1 false flk (zpl Y) = 3 := fun i => (if_neg (by omega)).trans (if_neg i)
        refine c_isBeyond (d := d + 2) vb5 (by omega) (by omega) (by omega) (fun c => ?_) (fun c => ?_)
        · rw [← eV] at c
          have eW := eW3 c
          have ez := ez.trans (if_neg (by rw [eW]; decide))
          rw [ez] at H0
          try dsimp only [jrI, jrN, jrA, jisr, jnul, jcat1]
          exact jif_n (by decide) (H0 (show ¬ lkW ey Y true 1 false flk (zpl Y) = 0 by rw [eW]; decide) h5 k5E 3 eW.symm)
        · rw [← eV] at c vb5
          have eW := eW0 c
          have ez := ez.trans (if_pos eW)
          rw [ez] at H1
          try dsimp only [jrI, jrN, jrA, jisr, jnul, jcat1]
          exact jif_t rfl (H1 rfl h5 k5E hx5 f15 vb5 t5)
    · rw [es] at ez
      have ez : z = (2, Y, fun _ => 0) := ez
      rw [ez] at H0
      try dsimp only [jrI, jrN, jrA, jisr, jnul, jcat1]
      exact H0 (show ¬ (2 : Int) = 0 by decide) h1 kE 2 rfl
  · have w0 : ¬ (ltc hs (slf r (m r) b f t fl) ov vs x (N - 1)).1 = 0 := by
      intro w
      refine c ?_
      rw [ti_eq, hy, w]
      rfl
    rw [if_neg w0] at ez
    rw [ez] at H0
    exact H0 w0 h1 kE y hy
end CEL
