/-! THE WHOLE STATE, AND WHAT EACH CALL LEAVES OF IT -/
def E1s (h : JH) : Prop := fI h 81 3 = fI h 0 7
def E3s (h : JH) : Prop := fI h 81 54 = fI h 24 17 ∧ fI h 81 55 = fI h 24 18 ∧ fI h 81 51 = fI h 24 19
def RHs (B : Int) (h : JH) : Prop := ∃ (n : Nat) (m ρ τ : Nat → Nat) (b : Nat → Bool) (f : Nat → Nat) (t : Nat → Bool) (fl : Nat → Nat → Int), RB h n m ρ τ b f t fl ∧ HD B h n ρ ∧ FA h n m f t
/-- class and model stand alike -/
def Iv (B : Int) (h : JH) : Prop := G h ∧ RHs B h ∧ ST h ∧ TP h ∧ FC h ∧ CH h ∧ PR h ∧ VA h ∧ SE h ∧ E1s h ∧ E3s h
section IVS
variable {X : JX} {h h1 : JH} {B : Int} {A : List Nat} {F : List (Nat × Nat)} {n n' : Nat} {m m' ρ ρ' τ : Nat → Nat} {b : Nat → Bool} {f f' : Nat → Nat} {t t' : Nat → Bool}
theorem AGR_mono {idc idm : Nat} {args : List Value} {J J' : JH → Prop} (a : AGR X idc idm args h J) (hj : ∀ h2, J h2 → J' h2) : AGR X idc idm args h J' := fun Q KK => a Q (fun y h1 mm => KK y h1 (fun Q2 H => mm Q2 (fun h2 j => H h2 (hj h2 j))))
theorem E1_fw (x : E1s h) (a : fw A F h h1) (k : offF [(81, 3), (0, 7)] F = true) : E1s h1 := by
  have e := offV a k
  unfold E1s fI at *
  rw [e (81, 3) (by decide), e (0, 7) (by decide)]
  exact x
theorem E3_fw (x : E3s h) (a : fw A F h h1) (k : offF [(81, 54), (24, 17), (81, 55), (24, 18), (81, 51), (24, 19)] F = true) : E3s h1 := by
  have e := offV a k
  unfold E3s fI at *
  rw [e (81, 54) (by decide), e (24, 17) (by decide), e (81, 55) (by decide), e (24, 18) (by decide), e (81, 51) (by decide), e (24, 19) (by decide)]
  exact x
theorem HD_ext (y : HD B h n ρ) (hn : n ≤ n') (hr : ∀ r, r < n → ρ' r = ρ r) : HD B h n' ρ' := by
  obtain ⟨d1, d2, d3, d4, d5, d6, d7, d8, d9, d10, d11, d12, d13, d⟩ := y
  refine ⟨d1, d2, d3, d4, d5, d6, d7, d8, d9, d10, d11, d12, d13, ?_⟩
  rcases d with d | ⟨r, q1, q2, q3⟩
  · exact Or.inl d
  · exact Or.inr ⟨r, by omega, q2, by rw [hr r q1]; exact q3⟩
theorem FA_ext (x : FA h n m f t) (hn : n ≤ n') (hm : ∀ r, r < n → m r ≤ m' r ∧ ∀ s, s < m r → f' (8 * r + s) = f (8 * r + s) ∧ t' (8 * r + s) = t (8 * r + s)) : FA h n' m' f' t' := by
  refine ⟨x.1, x.2.1, x.2.2.1, fun i hi => ?_⟩
  rcases x.2.2.2 i hi with c | ⟨r, o, e, x, y, x', y', q1, q2, q3, q4, rest⟩
  · exact Or.inl c
  · obtain ⟨m1, m2⟩ := hm r q1
    obtain ⟨fo, to⟩ := m2 o q2
    obtain ⟨fe, te⟩ := m2 e q3
    refine Or.inr ⟨r, o, e, x, y, x', y', by omega, by omega, by omega, q4, ?_⟩
    rw [fo, to, fe, te]
    exact rest
end IVS
section IVC
variable {X : JX} {h : JH} {B : Int} {a1 a2 a3 a4 a5 a6 a7 : Int32}
theorem t_place (iv : Iv B h) (b0 : 2000 ≤ B) (b1 : B ≤ 90000) : AGR X 92 93 [] h (Iv (B + 20)) := by
  obtain ⟨g, ⟨n, m, ρ, τ, b, f, t, fl, rb, hd, fa⟩, st, tp, fc, ch, pr, va, se, e1, e3⟩ := iv
  refine AGR_mono (a_place g e1) (fun h2 j => ?_)
  have k := j
  have kw := fw_fr k
  exact ⟨G_fr g (by decide +kernel) k, ⟨n, m, ρ, τ, b, f, t, fl, RB_fr rb k (by decide +kernel), HD_mono (HD_fw hd kw (by decide +kernel)), FA_fw fa kw (by decide +kernel) (by decide +kernel)⟩, ST_fw st kw (by decide +kernel), TP_fw tp kw (by decide +kernel) (by decide +kernel), FC_fw fc kw (by decide +kernel) (by decide +kernel), CH_fw ch kw (by decide +kernel), PR_fw pr kw (by decide +kernel) (by decide +kernel), VA_fw va kw (by decide +kernel) (by decide +kernel), SE_fw se kw (by decide +kernel) (by decide +kernel), E1_fw e1 kw (by decide +kernel), E3_fw e3 kw (by decide +kernel)⟩
theorem t_broke (iv : Iv B h) (b0 : 2000 ≤ B) (b1 : B ≤ 90000) : AGR X 217 218 [] h (Iv (B + 20)) := by
  obtain ⟨g, ⟨n, m, ρ, τ, b, f, t, fl, rb, hd, fa⟩, st, tp, fc, ch, pr, va, se, e1, e3⟩ := iv
  refine AGR_mono (a_broke g e3.1) (fun h2 j => ?_)
  have k := j
  have kw := fw_fr k
  exact ⟨G_fr g (by decide +kernel) k, ⟨n, m, ρ, τ, b, f, t, fl, RB_fr rb k (by decide +kernel), HD_mono (HD_fw hd kw (by decide +kernel)), FA_fw fa kw (by decide +kernel) (by decide +kernel)⟩, ST_fw st kw (by decide +kernel), TP_fw tp kw (by decide +kernel) (by decide +kernel), FC_fw fc kw (by decide +kernel) (by decide +kernel), CH_fw ch kw (by decide +kernel), PR_fw pr kw (by decide +kernel) (by decide +kernel), VA_fw va kw (by decide +kernel) (by decide +kernel), SE_fw se kw (by decide +kernel) (by decide +kernel), E1_fw e1 kw (by decide +kernel), E3_fw e3 kw (by decide +kernel)⟩
theorem t_where (iv : Iv B h) (b0 : 2000 ≤ B) (b1 : B ≤ 90000) : AGR X 219 220 [] h (Iv (B + 20)) := by
  obtain ⟨g, ⟨n, m, ρ, τ, b, f, t, fl, rb, hd, fa⟩, st, tp, fc, ch, pr, va, se, e1, e3⟩ := iv
  refine AGR_mono (a_where g e3.2.1) (fun h2 j => ?_)
  have k := j
  have kw := fw_fr k
  exact ⟨G_fr g (by decide +kernel) k, ⟨n, m, ρ, τ, b, f, t, fl, RB_fr rb k (by decide +kernel), HD_mono (HD_fw hd kw (by decide +kernel)), FA_fw fa kw (by decide +kernel) (by decide +kernel)⟩, ST_fw st kw (by decide +kernel), TP_fw tp kw (by decide +kernel) (by decide +kernel), FC_fw fc kw (by decide +kernel) (by decide +kernel), CH_fw ch kw (by decide +kernel), PR_fw pr kw (by decide +kernel) (by decide +kernel), VA_fw va kw (by decide +kernel) (by decide +kernel), SE_fw se kw (by decide +kernel) (by decide +kernel), E1_fw e1 kw (by decide +kernel), E3_fw e3 kw (by decide +kernel)⟩
theorem t_moves (iv : Iv B h) (b0 : 2000 ≤ B) (b1 : B ≤ 90000) : AGR X 221 222 [] h (Iv (B + 20)) := by
  obtain ⟨g, ⟨n, m, ρ, τ, b, f, t, fl, rb, hd, fa⟩, st, tp, fc, ch, pr, va, se, e1, e3⟩ := iv
  refine AGR_mono (a_moves g e3.2.2) (fun h2 j => ?_)
  have k := j
  have kw := fw_fr k
  exact ⟨G_fr g (by decide +kernel) k, ⟨n, m, ρ, τ, b, f, t, fl, RB_fr rb k (by decide +kernel), HD_mono (HD_fw hd kw (by decide +kernel)), FA_fw fa kw (by decide +kernel) (by decide +kernel)⟩, ST_fw st kw (by decide +kernel), TP_fw tp kw (by decide +kernel) (by decide +kernel), FC_fw fc kw (by decide +kernel) (by decide +kernel), CH_fw ch kw (by decide +kernel), PR_fw pr kw (by decide +kernel) (by decide +kernel), VA_fw va kw (by decide +kernel) (by decide +kernel), SE_fw se kw (by decide +kernel) (by decide +kernel), E1_fw e1 kw (by decide +kernel), E3_fw e3 kw (by decide +kernel)⟩
theorem t_units (iv : Iv B h) (b0 : 2000 ≤ B) (b1 : B ≤ 90000) : AGR X 94 96 [.int a1] h (Iv (B + 20)) := by
  obtain ⟨g, ⟨n, m, ρ, τ, b, f, t, fl, rb, hd, fa⟩, st, tp, fc, ch, pr, va, se, e1, e3⟩ := iv
  refine AGR_mono (a_units g) (fun h2 j => ?_)
  have k := j
  have kw := fw_fr k
  exact ⟨G_fr g (by decide +kernel) k, ⟨n, m, ρ, τ, b, f, t, fl, RB_fr rb k (by decide +kernel), HD_mono (HD_fw hd kw (by decide +kernel)), FA_fw fa kw (by decide +kernel) (by decide +kernel)⟩, ST_fw st kw (by decide +kernel), TP_fw tp kw (by decide +kernel) (by decide +kernel), FC_fw fc kw (by decide +kernel) (by decide +kernel), CH_fw ch kw (by decide +kernel), PR_fw pr kw (by decide +kernel) (by decide +kernel), VA_fw va kw (by decide +kernel) (by decide +kernel), SE_fw se kw (by decide +kernel) (by decide +kernel), E1_fw e1 kw (by decide +kernel), E3_fw e3 kw (by decide +kernel)⟩
theorem t_back (iv : Iv B h) (b0 : 2000 ≤ B) (b1 : B ≤ 90000) : AGR X 34 35 [.int a1] h (Iv (B + 20)) := by
  obtain ⟨g, ⟨n, m, ρ, τ, b, f, t, fl, rb, hd, fa⟩, st, tp, fc, ch, pr, va, se, e1, e3⟩ := iv
  refine AGR_mono (a_back g tp) (fun h2 j => ?_)
  obtain ⟨k, j1⟩ := j
  have kw := fw_fr k
  exact ⟨G_fr g (by decide +kernel) k, ⟨n, m, ρ, τ, b, f, t, fl, RB_fr rb k (by decide +kernel), HD_mono (HD_fw hd kw (by decide +kernel)), FA_fw fa kw (by decide +kernel) (by decide +kernel)⟩, ST_fw st kw (by decide +kernel), j1, FC_fw fc kw (by decide +kernel) (by decide +kernel), CH_fw ch kw (by decide +kernel), PR_fw pr kw (by decide +kernel) (by decide +kernel), VA_fw va kw (by decide +kernel) (by decide +kernel), SE_fw se kw (by decide +kernel) (by decide +kernel), E1_fw e1 kw (by decide +kernel), E3_fw e3 kw (by decide +kernel)⟩
theorem t_steps (iv : Iv B h) (b0 : 2000 ≤ B) (b1 : B ≤ 90000) : AGR X 112 113 [.int a1, .int a2] h (Iv (B + 20)) := by
  obtain ⟨g, ⟨n, m, ρ, τ, b, f, t, fl, rb, hd, fa⟩, st, tp, fc, ch, pr, va, se, e1, e3⟩ := iv
  refine AGR_mono (a_steps g st) (fun h2 j => ?_)
  obtain ⟨k, j1⟩ := j
  have kw := fw_fr k
  exact ⟨G_fr g (by decide +kernel) k, ⟨n, m, ρ, τ, b, f, t, fl, RB_fr rb k (by decide +kernel), HD_mono (HD_fw hd kw (by decide +kernel)), FA_fw fa kw (by decide +kernel) (by decide +kernel)⟩, j1, TP_fw tp kw (by decide +kernel) (by decide +kernel), FC_fw fc kw (by decide +kernel) (by decide +kernel), CH_fw ch kw (by decide +kernel), PR_fw pr kw (by decide +kernel) (by decide +kernel), VA_fw va kw (by decide +kernel) (by decide +kernel), SE_fw se kw (by decide +kernel) (by decide +kernel), E1_fw e1 kw (by decide +kernel), E3_fw e3 kw (by decide +kernel)⟩
theorem t_take (iv : Iv B h) (b0 : 2000 ≤ B) (b1 : B ≤ 90000) : AGR X 134 137 [.int a1] h (Iv (B + 20)) := by
  obtain ⟨g, ⟨n, m, ρ, τ, b, f, t, fl, rb, hd, fa⟩, st, tp, fc, ch, pr, va, se, e1, e3⟩ := iv
  refine AGR_mono (a_take g rb hd (by omega)) (fun h2 j => ?_)
  obtain ⟨k, j1⟩ := j
  have kw := fw_fr k
  exact ⟨G_fr g (by decide +kernel) k, ⟨n, m, ρ, τ, b, f, t, fl, RB_fr rb k (by decide +kernel), HD_mono j1, FA_fw fa kw (by decide +kernel) (by decide +kernel)⟩, ST_fw st kw (by decide +kernel), TP_fw tp kw (by decide +kernel) (by decide +kernel), FC_fw fc kw (by decide +kernel) (by decide +kernel), CH_fw ch kw (by decide +kernel), PR_fw pr kw (by decide +kernel) (by decide +kernel), VA_fw va kw (by decide +kernel) (by decide +kernel), SE_fw se kw (by decide +kernel) (by decide +kernel), E1_fw e1 kw (by decide +kernel), E3_fw e3 kw (by decide +kernel)⟩
theorem t_state (iv : Iv B h) (b0 : 2000 ≤ B) (b1 : B ≤ 90000) : AGR X 160 161 [.int a1] h (Iv (B + 20)) := by
  obtain ⟨g, ⟨n, m, ρ, τ, b, f, t, fl, rb, hd, fa⟩, st, tp, fc, ch, pr, va, se, e1, e3⟩ := iv
  refine AGR_mono (a_state g hd) (fun h2 j => ?_)
  have k := j
  have kw := fw_fr k
  exact ⟨G_fr g (by decide +kernel) k, ⟨n, m, ρ, τ, b, f, t, fl, RB_fr rb k (by decide +kernel), HD_mono (HD_fw hd kw (by decide +kernel)), FA_fw fa kw (by decide +kernel) (by decide +kernel)⟩, ST_fw st kw (by decide +kernel), TP_fw tp kw (by decide +kernel) (by decide +kernel), FC_fw fc kw (by decide +kernel) (by decide +kernel), CH_fw ch kw (by decide +kernel), PR_fw pr kw (by decide +kernel) (by decide +kernel), VA_fw va kw (by decide +kernel) (by decide +kernel), SE_fw se kw (by decide +kernel) (by decide +kernel), E1_fw e1 kw (by decide +kernel), E3_fw e3 kw (by decide +kernel)⟩
theorem t_chart (iv : Iv B h) (b0 : 2000 ≤ B) (b1 : B ≤ 90000) : AGR X 260 262 [.int a1, .int a2, .int a3, .int a4] h (Iv (B + 20)) := by
  obtain ⟨g, ⟨n, m, ρ, τ, b, f, t, fl, rb, hd, fa⟩, st, tp, fc, ch, pr, va, se, e1, e3⟩ := iv
  refine AGR_mono (a_chart g ch) (fun h2 j => ?_)
  obtain ⟨k, j1⟩ := j
  have kw := fw_fr k
  exact ⟨G_fr g (by decide +kernel) k, ⟨n, m, ρ, τ, b, f, t, fl, RB_fr rb k (by decide +kernel), HD_mono (HD_fw hd kw (by decide +kernel)), FA_fw fa kw (by decide +kernel) (by decide +kernel)⟩, ST_fw st kw (by decide +kernel), TP_fw tp kw (by decide +kernel) (by decide +kernel), FC_fw fc kw (by decide +kernel) (by decide +kernel), j1, PR_fw pr kw (by decide +kernel) (by decide +kernel), VA_fw va kw (by decide +kernel) (by decide +kernel), SE_fw se kw (by decide +kernel) (by decide +kernel), E1_fw e1 kw (by decide +kernel), E3_fw e3 kw (by decide +kernel)⟩
theorem t_cut (iv : Iv B h) (b0 : 2000 ≤ B) (b1 : B ≤ 90000) : AGR X 114 118 [.int a1, .int a2, .int a3, .int a4] h (Iv (B + 20)) := by
  obtain ⟨g, ⟨n, m, ρ, τ, b, f, t, fl, rb, hd, fa⟩, st, tp, fc, ch, pr, va, se, e1, e3⟩ := iv
  refine AGR_mono (a_cut g rb) (fun h2 j => ?_)
  have k := j
  have kw := fw_fr k
  exact ⟨G_fr g (by decide +kernel) k, ⟨n, m, ρ, τ, b, f, t, fl, RB_fr rb k (by decide +kernel), HD_mono (HD_fw hd kw (by decide +kernel)), FA_fw fa kw (by decide +kernel) (by decide +kernel)⟩, ST_fw st kw (by decide +kernel), TP_fw tp kw (by decide +kernel) (by decide +kernel), FC_fw fc kw (by decide +kernel) (by decide +kernel), CH_fw ch kw (by decide +kernel), PR_fw pr kw (by decide +kernel) (by decide +kernel), VA_fw va kw (by decide +kernel) (by decide +kernel), SE_fw se kw (by decide +kernel) (by decide +kernel), E1_fw e1 kw (by decide +kernel), E3_fw e3 kw (by decide +kernel)⟩
theorem t_seen (iv : Iv B h) (b0 : 2000 ≤ B) (b1 : B ≤ 90000) : AGR X 123 131 [.int a1, .int a2, .int a3, .int a4, .int a5] h (Iv (B + 20)) := by
  obtain ⟨g, ⟨n, m, ρ, τ, b, f, t, fl, rb, hd, fa⟩, st, tp, fc, ch, pr, va, se, e1, e3⟩ := iv
  refine AGR_mono (a_seen g rb) (fun h2 j => ?_)
  have k := j
  have kw := fw_fr k
  exact ⟨G_fr g (by decide +kernel) k, ⟨n, m, ρ, τ, b, f, t, fl, RB_fr rb k (by decide +kernel), HD_mono (HD_fw hd kw (by decide +kernel)), FA_fw fa kw (by decide +kernel) (by decide +kernel)⟩, ST_fw st kw (by decide +kernel), TP_fw tp kw (by decide +kernel) (by decide +kernel), FC_fw fc kw (by decide +kernel) (by decide +kernel), CH_fw ch kw (by decide +kernel), PR_fw pr kw (by decide +kernel) (by decide +kernel), VA_fw va kw (by decide +kernel) (by decide +kernel), SE_fw se kw (by decide +kernel) (by decide +kernel), E1_fw e1 kw (by decide +kernel), E3_fw e3 kw (by decide +kernel)⟩
theorem t_index (iv : Iv B h) (b0 : 2000 ≤ B) (b1 : B ≤ 90000) : AGR X 154 155 [.int a1] h (Iv (B + 20)) := by
  obtain ⟨g, ⟨n, m, ρ, τ, b, f, t, fl, rb, hd, fa⟩, st, tp, fc, ch, pr, va, se, e1, e3⟩ := iv
  refine AGR_mono (a_index g st hd (by omega)) (fun h2 j => ?_)
  obtain ⟨k, j1⟩ := j
  have kw := fw_fr k
  exact ⟨G_fr g (by decide +kernel) k, ⟨n, m, ρ, τ, b, f, t, fl, RB_fr rb k (by decide +kernel), j1, FA_fw fa kw (by decide +kernel) (by decide +kernel)⟩, ST_fw st kw (by decide +kernel), TP_fw tp kw (by decide +kernel) (by decide +kernel), FC_fw fc kw (by decide +kernel) (by decide +kernel), CH_fw ch kw (by decide +kernel), PR_fw pr kw (by decide +kernel) (by decide +kernel), VA_fw va kw (by decide +kernel) (by decide +kernel), SE_fw se kw (by decide +kernel) (by decide +kernel), E1_fw e1 kw (by decide +kernel), E3_fw e3 kw (by decide +kernel)⟩
theorem t_hair (iv : Iv B h) (b0 : 2000 ≤ B) (b1 : B ≤ 90000) : AGR X 138 145 [.int a1, .int a2, .int a3] h (Iv (B + 20)) := by
  obtain ⟨g, ⟨n, m, ρ, τ, b, f, t, fl, rb, hd, fa⟩, st, tp, fc, ch, pr, va, se, e1, e3⟩ := iv
  refine AGR_mono (a_hair g rb st hd (by omega)) (fun h2 j => ?_)
  obtain ⟨k, j1⟩ := j
  have kw := fw_fr k
  exact ⟨G_fr g (by decide +kernel) k, ⟨n, m, ρ, τ, b, f, t, fl, RB_fr rb k (by decide +kernel), j1, FA_fw fa kw (by decide +kernel) (by decide +kernel)⟩, ST_fw st kw (by decide +kernel), TP_fw tp kw (by decide +kernel) (by decide +kernel), FC_fw fc kw (by decide +kernel) (by decide +kernel), CH_fw ch kw (by decide +kernel), PR_fw pr kw (by decide +kernel) (by decide +kernel), VA_fw va kw (by decide +kernel) (by decide +kernel), SE_fw se kw (by decide +kernel) (by decide +kernel), E1_fw e1 kw (by decide +kernel), E3_fw e3 kw (by decide +kernel)⟩
theorem t_look (iv : Iv B h) (b0 : 2000 ≤ B) (b1 : B ≤ 90000) : AGR X 156 158 [.int a1, .int a2] h (Iv (B + 20)) := by
  obtain ⟨g, ⟨n, m, ρ, τ, b, f, t, fl, rb, hd, fa⟩, st, tp, fc, ch, pr, va, se, e1, e3⟩ := iv
  refine AGR_mono (a_look g rb st hd (by omega)) (fun h2 j => ?_)
  have k := j
  have kw := fw_fr k
  exact ⟨G_fr g (by decide +kernel) k, ⟨n, m, ρ, τ, b, f, t, fl, RB_fr rb k (by decide +kernel), HD_mono (HD_fw hd kw (by decide +kernel)), FA_fw fa kw (by decide +kernel) (by decide +kernel)⟩, ST_fw st kw (by decide +kernel), TP_fw tp kw (by decide +kernel) (by decide +kernel), FC_fw fc kw (by decide +kernel) (by decide +kernel), CH_fw ch kw (by decide +kernel), PR_fw pr kw (by decide +kernel) (by decide +kernel), VA_fw va kw (by decide +kernel) (by decide +kernel), SE_fw se kw (by decide +kernel) (by decide +kernel), E1_fw e1 kw (by decide +kernel), E3_fw e3 kw (by decide +kernel)⟩
theorem t_slide (iv : Iv B h) (b0 : 2000 ≤ B) (b1 : B ≤ 90000) : AGR X 149 152 [.int a1, .int a2, .int a3] h (Iv (B + 20)) := by
  obtain ⟨g, ⟨n, m, ρ, τ, b, f, t, fl, rb, hd, fa⟩, st, tp, fc, ch, pr, va, se, e1, e3⟩ := iv
  refine AGR_mono (a_slide g rb st hd (by omega)) (fun h2 j => ?_)
  obtain ⟨k, j1⟩ := j
  have kw := fw_fr k
  exact ⟨G_fr g (by decide +kernel) k, ⟨n, m, ρ, τ, b, f, t, fl, RB_fr rb k (by decide +kernel), j1, FA_fw fa kw (by decide +kernel) (by decide +kernel)⟩, ST_fw st kw (by decide +kernel), TP_fw tp kw (by decide +kernel) (by decide +kernel), FC_fw fc kw (by decide +kernel) (by decide +kernel), CH_fw ch kw (by decide +kernel), PR_fw pr kw (by decide +kernel) (by decide +kernel), VA_fw va kw (by decide +kernel) (by decide +kernel), SE_fw se kw (by decide +kernel) (by decide +kernel), E1_fw e1 kw (by decide +kernel), E3_fw e3 kw (by decide +kernel)⟩
theorem t_factor (iv : Iv B h) (b0 : 2000 ≤ B) (b1 : B ≤ 90000) (h3 : a3 = 0 ∨ a3 = 1) : AGR X 227 229 [.int a1, .int a2, .int a3] h (Iv (B + 20)) := by
  obtain ⟨g, ⟨n, m, ρ, τ, b, f, t, fl, rb, hd, fa⟩, st, tp, fc, ch, pr, va, se, e1, e3⟩ := iv
  refine AGR_mono (a_factor g fc h3) (fun h2 j => ?_)
  obtain ⟨k, j1, j2⟩ := j
  have kw := fw_fr k
  have se2 : SE h2 := by
    rcases j2 with e | e
    · rw [e]; exact se
    · exact Or.inl e
  exact ⟨G_fr g (by decide +kernel) k, ⟨n, m, ρ, τ, b, f, t, fl, RB_fr rb k (by decide +kernel), HD_mono (HD_fw hd kw (by decide +kernel)), FA_fw fa kw (by decide +kernel) (by decide +kernel)⟩, ST_fw st kw (by decide +kernel), TP_fw tp kw (by decide +kernel) (by decide +kernel), j1, CH_fw ch kw (by decide +kernel), PR_fw pr kw (by decide +kernel) (by decide +kernel), VA_fw va kw (by decide +kernel) (by decide +kernel), se2, E1_fw e1 kw (by decide +kernel), E3_fw e3 kw (by decide +kernel)⟩
theorem t_clear (iv : Iv B h) (b0 : 2000 ≤ B) (b1 : B ≤ 90000) : AGR X 230 232 [] h (Iv (B + 20)) := by
  obtain ⟨g, ⟨n, m, ρ, τ, b, f, t, fl, rb, hd, fa⟩, st, tp, fc, ch, pr, va, se, e1, e3⟩ := iv
  refine AGR_mono (a_clear g fc) (fun h2 j => ?_)
  obtain ⟨k, j1, j2⟩ := j
  have kw := fw_fr k
  exact ⟨G_fr g (by decide +kernel) k, ⟨n, m, ρ, τ, b, f, t, fl, RB_fr rb k (by decide +kernel), HD_mono (HD_fw hd kw (by decide +kernel)), FA_fw fa kw (by decide +kernel) (by decide +kernel)⟩, ST_fw st kw (by decide +kernel), TP_fw tp kw (by decide +kernel) (by decide +kernel), j1, CH_fw ch kw (by decide +kernel), PR_fw pr kw (by decide +kernel) (by decide +kernel), VA_fw va kw (by decide +kernel) (by decide +kernel), Or.inl j2, E1_fw e1 kw (by decide +kernel), E3_fw e3 kw (by decide +kernel)⟩
theorem t_feed (iv : Iv B h) (b0 : 2000 ≤ B) (b1 : B ≤ 90000) : AGR X 29 32 [.int a1, .int a2, .int a3, .int a4, .int a5] h (Iv (B + 20)) := by
  obtain ⟨g, ⟨n, m, ρ, τ, b, f, t, fl, rb, hd, fa⟩, st, tp, fc, ch, pr, va, se, e1, e3⟩ := iv
  refine AGR_mono (a_feed g tp) (fun h2 j => ?_)
  obtain ⟨k, j1⟩ := j
  have kw := fw_fr k
  exact ⟨G_fr g (by decide +kernel) k, ⟨n, m, ρ, τ, b, f, t, fl, RB_fr rb k (by decide +kernel), HD_mono (HD_fw hd kw (by decide +kernel)), FA_fw fa kw (by decide +kernel) (by decide +kernel)⟩, ST_fw st kw (by decide +kernel), j1, FC_fw fc kw (by decide +kernel) (by decide +kernel), CH_fw ch kw (by decide +kernel), PR_fw pr kw (by decide +kernel) (by decide +kernel), VA_fw va kw (by decide +kernel) (by decide +kernel), SE_fw se kw (by decide +kernel) (by decide +kernel), E1_fw e1 kw (by decide +kernel), E3_fw e3 kw (by decide +kernel)⟩
theorem t_rule (iv : Iv B h) (b0 : 2000 ≤ B) (b1 : B ≤ 90000) : AGR X 98 100 [] h (Iv (B + 20)) := by
  obtain ⟨g, ⟨n, m, ρ, τ, b, f, t, fl, rb, hd, fa⟩, st, tp, fc, ch, pr, va, se, e1, e3⟩ := iv
  refine AGR_mono (a_rule g rb) (fun h2 j => ?_)
  obtain ⟨gg, kw, n', m', ρ', q1, q2, rb'⟩ := j
  exact ⟨gg, ⟨n', m', ρ', τ, b, f, t, fl, rb', HD_ext (HD_mono (HD_fw hd kw (by decide +kernel))) q1 (fun r hr => (q2 r hr).2), FA_ext (FA_fw fa kw (by decide +kernel) (by decide +kernel)) q1 (fun r hr => ⟨by rw [(q2 r hr).1]; exact Nat.le_refl _, fun _ _ => ⟨rfl, rfl⟩⟩)⟩, ST_fw st kw (by decide +kernel), TP_fw tp kw (by decide +kernel) (by decide +kernel), FC_fw fc kw (by decide +kernel) (by decide +kernel), CH_fw ch kw (by decide +kernel), PR_fw pr kw (by decide +kernel) (by decide +kernel), VA_fw va kw (by decide +kernel) (by decide +kernel), SE_fw se kw (by decide +kernel) (by decide +kernel), E1_fw e1 kw (by decide +kernel), E3_fw e3 kw (by decide +kernel)⟩
theorem t_flaw (iv : Iv B h) (b0 : 2000 ≤ B) (b1 : B ≤ 90000) : AGR X 106 110 [.int a1, .int a2, .int a3, .int a4] h (Iv (B + 20)) := by
  obtain ⟨g, ⟨n, m, ρ, τ, b, f, t, fl, rb, hd, fa⟩, st, tp, fc, ch, pr, va, se, e1, e3⟩ := iv
  refine AGR_mono (a_flaw g rb) (fun h2 j => ?_)
  obtain ⟨gg, kw, fl', rb'⟩ := j
  exact ⟨gg, ⟨n, m, ρ, τ, b, f, t, fl', rb', HD_mono (HD_fw hd kw (by decide +kernel)), FA_fw fa kw (by decide +kernel) (by decide +kernel)⟩, ST_fw st kw (by decide +kernel), TP_fw tp kw (by decide +kernel) (by decide +kernel), FC_fw fc kw (by decide +kernel) (by decide +kernel), CH_fw ch kw (by decide +kernel), PR_fw pr kw (by decide +kernel) (by decide +kernel), VA_fw va kw (by decide +kernel) (by decide +kernel), SE_fw se kw (by decide +kernel) (by decide +kernel), E1_fw e1 kw (by decide +kernel), E3_fw e3 kw (by decide +kernel)⟩
theorem t_scale (iv : Iv B h) (b0 : 2000 ≤ B) (b1 : B ≤ 90000) (h2 : a2 = 0 ∨ a2 = 1) (h4 : a4 = 0 ∨ a4 = 1) : AGR X 101 104 [.int a1, .int a2, .int a3, .int a4] h (Iv (B + 20)) := by
  obtain ⟨g, ⟨n, m, ρ, τ, b, f, t, fl, rb, hd, fa⟩, st, tp, fc, ch, pr, va, se, e1, e3⟩ := iv
  refine AGR_mono (a_scale g rb h2 h4) (fun h2 j => ?_)
  obtain ⟨gg, kw, m', τ', b', f', t', fl', q2, rb'⟩ := j
  exact ⟨gg, ⟨n, m', ρ, τ', b', f', t', fl', rb', HD_mono (HD_fw hd kw (by decide +kernel)), FA_ext (FA_fw fa kw (by decide +kernel) (by decide +kernel)) (Nat.le_refl _) q2⟩, ST_fw st kw (by decide +kernel), TP_fw tp kw (by decide +kernel) (by decide +kernel), FC_fw fc kw (by decide +kernel) (by decide +kernel), CH_fw ch kw (by decide +kernel), PR_fw pr kw (by decide +kernel) (by decide +kernel), VA_fw va kw (by decide +kernel) (by decide +kernel), SE_fw se kw (by decide +kernel) (by decide +kernel), E1_fw e1 kw (by decide +kernel), E3_fw e3 kw (by decide +kernel)⟩
theorem t_step (iv : Iv B h) (b0 : 2000 ≤ B) (b1 : B ≤ 90000) : AGR X 248 253 [.int a1, .int a2, .int a3, .int a4, .int a5] h (Iv (B + 20)) := by
  obtain ⟨g, ⟨n, m, ρ, τ, b, f, t, fl, rb, hd, fa⟩, st, tp, fc, ch, pr, va, se, e1, e3⟩ := iv
  refine AGR_mono (a_step g rb) (fun h2 j => ?_)
  have k := j
  have kw := fw_fr k
  exact ⟨G_fr g (by decide +kernel) k, ⟨n, m, ρ, τ, b, f, t, fl, RB_fr rb k (by decide +kernel), HD_mono (HD_fw hd kw (by decide +kernel)), FA_fw fa kw (by decide +kernel) (by decide +kernel)⟩, ST_fw st kw (by decide +kernel), TP_fw tp kw (by decide +kernel) (by decide +kernel), FC_fw fc kw (by decide +kernel) (by decide +kernel), CH_fw ch kw (by decide +kernel), PR_fw pr kw (by decide +kernel) (by decide +kernel), VA_fw va kw (by decide +kernel) (by decide +kernel), SE_fw se kw (by decide +kernel) (by decide +kernel), E1_fw e1 kw (by decide +kernel), E3_fw e3 kw (by decide +kernel)⟩
theorem t_marks (iv : Iv B h) (b0 : 2000 ≤ B) (b1 : B ≤ 90000) : AGR X 257 259 [.int a1, .int a2, .int a3] h (Iv (B + 20)) := by
  obtain ⟨g, ⟨n, m, ρ, τ, b, f, t, fl, rb, hd, fa⟩, st, tp, fc, ch, pr, va, se, e1, e3⟩ := iv
  refine AGR_mono (a_marks g rb) (fun h2 j => ?_)
  have k := j
  have kw := fw_fr k
  exact ⟨G_fr g (by decide +kernel) k, ⟨n, m, ρ, τ, b, f, t, fl, RB_fr rb k (by decide +kernel), HD_mono (HD_fw hd kw (by decide +kernel)), FA_fw fa kw (by decide +kernel) (by decide +kernel)⟩, ST_fw st kw (by decide +kernel), TP_fw tp kw (by decide +kernel) (by decide +kernel), FC_fw fc kw (by decide +kernel) (by decide +kernel), CH_fw ch kw (by decide +kernel), PR_fw pr kw (by decide +kernel) (by decide +kernel), VA_fw va kw (by decide +kernel) (by decide +kernel), SE_fw se kw (by decide +kernel) (by decide +kernel), E1_fw e1 kw (by decide +kernel), E3_fw e3 kw (by decide +kernel)⟩
theorem t_design (iv : Iv B h) (b0 : 2000 ≤ B) (b1 : B ≤ 90000) : AGR X 267 270 [.int a1, .int a2] h (Iv (B + 20)) := by
  obtain ⟨g, ⟨n, m, ρ, τ, b, f, t, fl, rb, hd, fa⟩, st, tp, fc, ch, pr, va, se, e1, e3⟩ := iv
  refine AGR_mono (a_design) (fun h2 j => ?_)
  have k := j
  have kw := fw_fr k
  exact ⟨G_fr g (by decide +kernel) k, ⟨n, m, ρ, τ, b, f, t, fl, RB_fr rb k (by decide +kernel), HD_mono (HD_fw hd kw (by decide +kernel)), FA_fw fa kw (by decide +kernel) (by decide +kernel)⟩, ST_fw st kw (by decide +kernel), TP_fw tp kw (by decide +kernel) (by decide +kernel), FC_fw fc kw (by decide +kernel) (by decide +kernel), CH_fw ch kw (by decide +kernel), PR_fw pr kw (by decide +kernel) (by decide +kernel), VA_fw va kw (by decide +kernel) (by decide +kernel), SE_fw se kw (by decide +kernel) (by decide +kernel), E1_fw e1 kw (by decide +kernel), E3_fw e3 kw (by decide +kernel)⟩
theorem t_thread (iv : Iv B h) (b0 : 2000 ≤ B) (b1 : B ≤ 90000) : AGR X 263 266 [.int a1, .int a2, .int a3, .int a4, .int a5] h (Iv (B + 20)) := by
  obtain ⟨g, ⟨n, m, ρ, τ, b, f, t, fl, rb, hd, fa⟩, st, tp, fc, ch, pr, va, se, e1, e3⟩ := iv
  refine AGR_mono (a_thread g ch) (fun h2 j => ?_)
  have k := j
  have kw := fw_fr k
  exact ⟨G_fr g (by decide +kernel) k, ⟨n, m, ρ, τ, b, f, t, fl, RB_fr rb k (by decide +kernel), HD_mono (HD_fw hd kw (by decide +kernel)), FA_fw fa kw (by decide +kernel) (by decide +kernel)⟩, ST_fw st kw (by decide +kernel), TP_fw tp kw (by decide +kernel) (by decide +kernel), FC_fw fc kw (by decide +kernel) (by decide +kernel), CH_fw ch kw (by decide +kernel), PR_fw pr kw (by decide +kernel) (by decide +kernel), VA_fw va kw (by decide +kernel) (by decide +kernel), SE_fw se kw (by decide +kernel) (by decide +kernel), E1_fw e1 kw (by decide +kernel), E3_fw e3 kw (by decide +kernel)⟩
theorem t_shown (iv : Iv B h) (b0 : 2000 ≤ B) (b1 : B ≤ 90000) : AGR X 271 275 [.int a1, .int a2, .int a3, .int a4, .int a5, .int a6, .int a7] h (Iv (B + 20)) := by
  obtain ⟨g, ⟨n, m, ρ, τ, b, f, t, fl, rb, hd, fa⟩, st, tp, fc, ch, pr, va, se, e1, e3⟩ := iv
  refine AGR_mono (a_shown g rb fa) (fun h2 j => ?_)
  obtain ⟨k, j1⟩ := j
  have kw := fw_fr k
  exact ⟨G_fr g (by decide +kernel) k, ⟨n, m, ρ, τ, b, f, t, fl, RB_fr rb k (by decide +kernel), HD_mono (HD_fw hd kw (by decide +kernel)), j1⟩, ST_fw st kw (by decide +kernel), TP_fw tp kw (by decide +kernel) (by decide +kernel), FC_fw fc kw (by decide +kernel) (by decide +kernel), CH_fw ch kw (by decide +kernel), PR_fw pr kw (by decide +kernel) (by decide +kernel), VA_fw va kw (by decide +kernel) (by decide +kernel), SE_fw se kw (by decide +kernel) (by decide +kernel), E1_fw e1 kw (by decide +kernel), E3_fw e3 kw (by decide +kernel)⟩
theorem t_strike (iv : Iv B h) (b0 : 2000 ≤ B) (b1 : B ≤ 90000) : AGR X 276 278 [.int a1] h (Iv (B + 20)) := by
  obtain ⟨g, ⟨n, m, ρ, τ, b, f, t, fl, rb, hd, fa⟩, st, tp, fc, ch, pr, va, se, e1, e3⟩ := iv
  refine AGR_mono (a_strike g fa) (fun h2 j => ?_)
  obtain ⟨k, j1⟩ := j
  have kw := fw_fr k
  exact ⟨G_fr g (by decide +kernel) k, ⟨n, m, ρ, τ, b, f, t, fl, RB_fr rb k (by decide +kernel), HD_mono (HD_fw hd kw (by decide +kernel)), j1⟩, ST_fw st kw (by decide +kernel), TP_fw tp kw (by decide +kernel) (by decide +kernel), FC_fw fc kw (by decide +kernel) (by decide +kernel), CH_fw ch kw (by decide +kernel), PR_fw pr kw (by decide +kernel) (by decide +kernel), VA_fw va kw (by decide +kernel) (by decide +kernel), SE_fw se kw (by decide +kernel) (by decide +kernel), E1_fw e1 kw (by decide +kernel), E3_fw e3 kw (by decide +kernel)⟩
theorem t_guesses (iv : Iv B h) (b0 : 2000 ≤ B) (b1 : B ≤ 90000) : AGR X 279 286 [.int a1, .int a2] h (Iv (B + 20)) := by
  obtain ⟨g, ⟨n, m, ρ, τ, b, f, t, fl, rb, hd, fa⟩, st, tp, fc, ch, pr, va, se, e1, e3⟩ := iv
  refine AGR_mono (a_guesses g rb fa st) (fun h2 j => ?_)
  have k := j
  have kw := fw_fr k
  exact ⟨G_fr g (by decide +kernel) k, ⟨n, m, ρ, τ, b, f, t, fl, RB_fr rb k (by decide +kernel), HD_mono (HD_fw hd kw (by decide +kernel)), FA_fw fa kw (by decide +kernel) (by decide +kernel)⟩, ST_fw st kw (by decide +kernel), TP_fw tp kw (by decide +kernel) (by decide +kernel), FC_fw fc kw (by decide +kernel) (by decide +kernel), CH_fw ch kw (by decide +kernel), PR_fw pr kw (by decide +kernel) (by decide +kernel), VA_fw va kw (by decide +kernel) (by decide +kernel), SE_fw se kw (by decide +kernel) (by decide +kernel), E1_fw e1 kw (by decide +kernel), E3_fw e3 kw (by decide +kernel)⟩
theorem t_guess (iv : Iv B h) (b0 : 2000 ≤ B) (b1 : B ≤ 90000) : AGR X 292 295 [.int a1, .int a2, .int a3, .int a4] h (Iv (B + 20)) := by
  obtain ⟨g, ⟨n, m, ρ, τ, b, f, t, fl, rb, hd, fa⟩, st, tp, fc, ch, pr, va, se, e1, e3⟩ := iv
  refine AGR_mono (a_guess g rb fa st) (fun h2 j => ?_)
  have k := j
  have kw := fw_fr k
  exact ⟨G_fr g (by decide +kernel) k, ⟨n, m, ρ, τ, b, f, t, fl, RB_fr rb k (by decide +kernel), HD_mono (HD_fw hd kw (by decide +kernel)), FA_fw fa kw (by decide +kernel) (by decide +kernel)⟩, ST_fw st kw (by decide +kernel), TP_fw tp kw (by decide +kernel) (by decide +kernel), FC_fw fc kw (by decide +kernel) (by decide +kernel), CH_fw ch kw (by decide +kernel), PR_fw pr kw (by decide +kernel) (by decide +kernel), VA_fw va kw (by decide +kernel) (by decide +kernel), SE_fw se kw (by decide +kernel) (by decide +kernel), E1_fw e1 kw (by decide +kernel), E3_fw e3 kw (by decide +kernel)⟩
theorem t_sure (iv : Iv B h) (b0 : 2000 ≤ B) (b1 : B ≤ 90000) : AGR X 296 298 [.int a1, .int a2] h (Iv (B + 20)) := by
  obtain ⟨g, ⟨n, m, ρ, τ, b, f, t, fl, rb, hd, fa⟩, st, tp, fc, ch, pr, va, se, e1, e3⟩ := iv
  refine AGR_mono (a_sure g rb fa st) (fun h2 j => ?_)
  have k := j
  have kw := fw_fr k
  exact ⟨G_fr g (by decide +kernel) k, ⟨n, m, ρ, τ, b, f, t, fl, RB_fr rb k (by decide +kernel), HD_mono (HD_fw hd kw (by decide +kernel)), FA_fw fa kw (by decide +kernel) (by decide +kernel)⟩, ST_fw st kw (by decide +kernel), TP_fw tp kw (by decide +kernel) (by decide +kernel), FC_fw fc kw (by decide +kernel) (by decide +kernel), CH_fw ch kw (by decide +kernel), PR_fw pr kw (by decide +kernel) (by decide +kernel), VA_fw va kw (by decide +kernel) (by decide +kernel), SE_fw se kw (by decide +kernel) (by decide +kernel), E1_fw e1 kw (by decide +kernel), E3_fw e3 kw (by decide +kernel)⟩
theorem t_odd (iv : Iv B h) (b0 : 2000 ≤ B) (b1 : B ≤ 90000) : AGR X 299 301 [.int a1, .int a2] h (Iv (B + 20)) := by
  obtain ⟨g, ⟨n, m, ρ, τ, b, f, t, fl, rb, hd, fa⟩, st, tp, fc, ch, pr, va, se, e1, e3⟩ := iv
  refine AGR_mono (a_odd g rb fa st) (fun h2 j => ?_)
  have k := j
  have kw := fw_fr k
  exact ⟨G_fr g (by decide +kernel) k, ⟨n, m, ρ, τ, b, f, t, fl, RB_fr rb k (by decide +kernel), HD_mono (HD_fw hd kw (by decide +kernel)), FA_fw fa kw (by decide +kernel) (by decide +kernel)⟩, ST_fw st kw (by decide +kernel), TP_fw tp kw (by decide +kernel) (by decide +kernel), FC_fw fc kw (by decide +kernel) (by decide +kernel), CH_fw ch kw (by decide +kernel), PR_fw pr kw (by decide +kernel) (by decide +kernel), VA_fw va kw (by decide +kernel) (by decide +kernel), SE_fw se kw (by decide +kernel) (by decide +kernel), E1_fw e1 kw (by decide +kernel), E3_fw e3 kw (by decide +kernel)⟩
theorem t_fewest (iv : Iv B h) (b0 : 2000 ≤ B) (b1 : B ≤ 90000) : AGR X 233 240 [.int a1] h (Iv (B + 20)) := by
  obtain ⟨g, ⟨n, m, ρ, τ, b, f, t, fl, rb, hd, fa⟩, st, tp, fc, ch, pr, va, se, e1, e3⟩ := iv
  refine AGR_mono (a_fewest g fc se) (fun h2 j => ?_)
  obtain ⟨k, j1⟩ := j
  have kw := fw_fr k
  exact ⟨G_fr g (by decide +kernel) k, ⟨n, m, ρ, τ, b, f, t, fl, RB_fr rb k (by decide +kernel), HD_mono (HD_fw hd kw (by decide +kernel)), FA_fw fa kw (by decide +kernel) (by decide +kernel)⟩, ST_fw st kw (by decide +kernel), TP_fw tp kw (by decide +kernel) (by decide +kernel), FC_fw fc kw (by decide +kernel) (by decide +kernel), CH_fw ch kw (by decide +kernel), PR_fw pr kw (by decide +kernel) (by decide +kernel), VA_fw va kw (by decide +kernel) (by decide +kernel), j1, E1_fw e1 kw (by decide +kernel), E3_fw e3 kw (by decide +kernel)⟩
theorem t_order (iv : Iv B h) (b0 : 2000 ≤ B) (b1 : B ≤ 90000) : AGR X 245 247 [.int a1] h (Iv (B + 20)) := by
  obtain ⟨g, ⟨n, m, ρ, τ, b, f, t, fl, rb, hd, fa⟩, st, tp, fc, ch, pr, va, se, e1, e3⟩ := iv
  refine AGR_mono (a_order g fc se) (fun h2 j => ?_)
  obtain ⟨k, j1⟩ := j
  have kw := fw_fr k
  exact ⟨G_fr g (by decide +kernel) k, ⟨n, m, ρ, τ, b, f, t, fl, RB_fr rb k (by decide +kernel), HD_mono (HD_fw hd kw (by decide +kernel)), FA_fw fa kw (by decide +kernel) (by decide +kernel)⟩, ST_fw st kw (by decide +kernel), TP_fw tp kw (by decide +kernel) (by decide +kernel), FC_fw fc kw (by decide +kernel) (by decide +kernel), CH_fw ch kw (by decide +kernel), PR_fw pr kw (by decide +kernel) (by decide +kernel), VA_fw va kw (by decide +kernel) (by decide +kernel), j1, E1_fw e1 kw (by decide +kernel), E3_fw e3 kw (by decide +kernel)⟩
theorem t_read (iv : Iv B h) (b0 : 2000 ≤ B) (b1 : B ≤ 90000) : AGR X 36 68 [] h (Iv (B + 20)) := by
  obtain ⟨g, ⟨n, m, ρ, τ, b, f, t, fl, rb, hd, fa⟩, st, tp, fc, ch, pr, va, se, e1, e3⟩ := iv
  refine AGR_mono (a_read g tp pr va) (fun h2 j => ?_)
  obtain ⟨k, j1, j2, j3, j4⟩ := j
  have kw := fw_fr k
  exact ⟨G_fr g (by decide +kernel) k, ⟨n, m, ρ, τ, b, f, t, fl, RB_fr rb k (by decide +kernel), HD_mono (HD_fw hd kw (by decide +kernel)), FA_fw fa kw (by decide +kernel) (by decide +kernel)⟩, ST_fw st kw (by decide +kernel), j3, FC_fw fc kw (by decide +kernel) (by decide +kernel), CH_fw ch kw (by decide +kernel), j1, j2, SE_fw se kw (by decide +kernel) (by decide +kernel), j4, E3_fw e3 kw (by decide +kernel)⟩
theorem t_count (iv : Iv B h) (b0 : 2000 ≤ B) (b1 : B ≤ 90000) : AGR X 302 303 [.int a1] h (Iv (B + 20)) := by
  obtain ⟨g, ⟨n, m, ρ, τ, b, f, t, fl, rb, hd, fa⟩, st, tp, fc, ch, pr, va, se, e1, e3⟩ := iv
  refine AGR_mono (a_count g rb fc fa pr tp st) (fun h2 j => ?_)
  have k := j
  have kw := fw_fr k
  exact ⟨G_fr g (by decide +kernel) k, ⟨n, m, ρ, τ, b, f, t, fl, RB_fr rb k (by decide +kernel), HD_mono (HD_fw hd kw (by decide +kernel)), FA_fw fa kw (by decide +kernel) (by decide +kernel)⟩, ST_fw st kw (by decide +kernel), TP_fw tp kw (by decide +kernel) (by decide +kernel), FC_fw fc kw (by decide +kernel) (by decide +kernel), CH_fw ch kw (by decide +kernel), PR_fw pr kw (by decide +kernel) (by decide +kernel), VA_fw va kw (by decide +kernel) (by decide +kernel), SE_fw se kw (by decide +kernel) (by decide +kernel), E1_fw e1 kw (by decide +kernel), E3_fw e3 kw (by decide +kernel)⟩
theorem t_value (iv : Iv B h) (b0 : 2000 ≤ B) (b1 : B ≤ 90000) : AGR X 223 226 [.int a1, .int a2] h (Iv (B + 20)) := by
  obtain ⟨g, ⟨n, m, ρ, τ, b, f, t, fl, rb, hd, fa⟩, st, tp, fc, ch, pr, va, se, e1, e3⟩ := iv
  refine AGR_mono (a_value g pr va) (fun h2 j => ?_)
  have k := j
  have kw := fw_fr k
  exact ⟨G_fr g (by decide +kernel) k, ⟨n, m, ρ, τ, b, f, t, fl, RB_fr rb k (by decide +kernel), HD_mono (HD_fw hd kw (by decide +kernel)), FA_fw fa kw (by decide +kernel) (by decide +kernel)⟩, ST_fw st kw (by decide +kernel), TP_fw tp kw (by decide +kernel) (by decide +kernel), FC_fw fc kw (by decide +kernel) (by decide +kernel), CH_fw ch kw (by decide +kernel), PR_fw pr kw (by decide +kernel) (by decide +kernel), VA_fw va kw (by decide +kernel) (by decide +kernel), SE_fw se kw (by decide +kernel) (by decide +kernel), E1_fw e1 kw (by decide +kernel), E3_fw e3 kw (by decide +kernel)⟩
theorem t_run (iv : Iv B h) (b0 : 2000 ≤ B) (b1 : B ≤ 90000) : AGR X 162 196 [] h (Iv (B + 20)) := by
  obtain ⟨g, ⟨n, m, ρ, τ, b, f, t, fl, rb, hd, fa⟩, st, tp, fc, ch, pr, va, se, e1, e3⟩ := iv
  refine AGR_mono (a_run g rb st hd pr va (by omega) (by omega) e3.1 e3.2.1 e3.2.2) (fun h2 j => ?_)
  obtain ⟨k, j1, j2, j3, j4, j5⟩ := j
  have kw := fw_fr k
  exact ⟨G_fr g (by decide +kernel) k, ⟨n, m, ρ, τ, b, f, t, fl, RB_fr rb k (by decide +kernel), HD_mono j1, FA_fw fa kw (by decide +kernel) (by decide +kernel)⟩, ST_fw st kw (by decide +kernel), TP_fw tp kw (by decide +kernel) (by decide +kernel), FC_fw fc kw (by decide +kernel) (by decide +kernel), CH_fw ch kw (by decide +kernel), PR_fw pr kw (by decide +kernel) (by decide +kernel), j2, SE_fw se kw (by decide +kernel) (by decide +kernel), E1_fw e1 kw (by decide +kernel), ⟨j3, j4, j5⟩⟩
end IVC
