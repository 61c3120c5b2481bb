/-- a choice -/
def jifp (c A B : Prop) : Prop := (c → A) ∧ (¬ c → B)
theorem j_if {c A B : Prop} {i : Decidable c} (H : jifp c A B) : @ite Prop c i A B := by
  by_cases hc : c
  · rw [if_pos hc]; exact H.1 hc
  · rw [if_neg hc]; exact H.2 hc
/-- the kind of a field: 0 an int's, 1 a long's, 2 a reference's -/
def jkd (t : FieldType) : Nat := match t with
  | .long => 1
  | .double => 3
  | .object _ => 2
  | .array _ => 2
  | .float => 3
  | _ => 0
/-! STEPS: what a step asks, for the trees -/
section ST
variable {X : JX} {d : Nat} {M : JM} {Q : JQ} {pc : Nat} {ls : JL} {st : List Value} {h : JH} {c s ln tg kk : Nat}
theorem s0 {ins : Instr} (hr : jtw M.code pc = some (ins, ln, tg, kk)) (H : jins X (jex X d) M Q (jev X (jex X d) M Q) ins pc ls st h c s tg kk) : jev X (jex X d) M Q pc ls st h c s := by
  refine jev_step ?_
  unfold jst
  rw [hr]
  exact H
theorem s_aload_n {n : Fin 4} {v : Value} (hr : jtw M.code pc = some (.aload_n n, ln, tg, kk)) (hl : ls[(n : Nat)]? = some (some v)) (H : jisr v (jev X (jex X d) M Q (pc + 1) ls (v :: st) h c s)) : jev X (jex X d) M Q pc ls st h c s := s0 hr (by
  show jldA ls n _
  unfold jldA
  rw [hl]
  exact H)
theorem s_aload {n : Nat} {v : Value} (hr : jtw M.code pc = some (.aload n, ln, tg, kk)) (hl : ls[(n : Nat)]? = some (some v)) (H : jisr v (jev X (jex X d) M Q (pc + 2) ls (v :: st) h c s)) : jev X (jex X d) M Q pc ls st h c s := s0 hr (by
  show jldA ls n _
  unfold jldA
  rw [hl]
  exact H)
theorem s_iload_n {n : Fin 4} {x : Int32} (hr : jtw M.code pc = some (.iload_n n, ln, tg, kk)) (hl : ls[(n : Nat)]? = some (some (.int x))) (H : jev X (jex X d) M Q (pc + 1) ls (.int x :: st) h c s) : jev X (jex X d) M Q pc ls st h c s := s0 hr (by
  show jldI ls n _
  unfold jldI
  rw [hl]
  exact H)
theorem s_iload {n : Nat} {x : Int32} (hr : jtw M.code pc = some (.iload n, ln, tg, kk)) (hl : ls[(n : Nat)]? = some (some (.int x))) (H : jev X (jex X d) M Q (pc + 2) ls (.int x :: st) h c s) : jev X (jex X d) M Q pc ls st h c s := s0 hr (by
  show jldI ls n _
  unfold jldI
  rw [hl]
  exact H)
theorem s_lload_n {n : Fin 4} {x : Int64} (hr : jtw M.code pc = some (.lload_n n, ln, tg, kk)) (hl : ls[(n : Nat)]? = some (some (.long x))) (hl2 : ls[(n : Nat) + 1]? = some none) (H : jev X (jex X d) M Q (pc + 1) ls (.long x :: st) h c s) : jev X (jex X d) M Q pc ls st h c s := s0 hr (by
  show jldL ls n _
  unfold jldL
  rw [hl]
  dsimp only
  rw [hl2]
  exact H)
theorem s_iconst {n : Int} {x : Int32} (hr : jtw M.code pc = some (.iconst n, ln, tg, kk)) (hk : jcon n kk = x) (H : jev X (jex X d) M Q (pc + 1) ls (.int x :: st) h c s) : jev X (jex X d) M Q pc ls st h c s := s0 hr (by
  show jev X (jex X d) M Q (pc + 1) ls (.int (jcon n kk) :: st) h c s
  rw [hk]
  exact H)
theorem s_bipush {n : Int} {x : Int32} (hr : jtw M.code pc = some (.bipush n, ln, tg, kk)) (hk : jcon n kk = x) (H : jev X (jex X d) M Q (pc + 2) ls (.int x :: st) h c s) : jev X (jex X d) M Q pc ls st h c s := s0 hr (by
  show jev X (jex X d) M Q (pc + 2) ls (.int (jcon n kk) :: st) h c s
  rw [hk]
  exact H)
theorem s_sipush {n : Int} {x : Int32} (hr : jtw M.code pc = some (.sipush n, ln, tg, kk)) (hk : jcon n kk = x) (H : jev X (jex X d) M Q (pc + 3) ls (.int x :: st) h c s) : jev X (jex X d) M Q pc ls st h c s := s0 hr (by
  show jev X (jex X d) M Q (pc + 3) ls (.int (jcon n kk) :: st) h c s
  rw [hk]
  exact H)
theorem s_lconst {n : Fin 2} {x : Int64} (hr : jtw M.code pc = some (.lconst n, ln, tg, kk)) (hk : Int64.ofNat n = x) (H : jev X (jex X d) M Q (pc + 1) ls (.long x :: st) h c s) : jev X (jex X d) M Q pc ls st h c s := s0 hr (by
  subst hk
  exact H)
theorem s_aconst_null  (hr : jtw M.code pc = some (.aconst_null, ln, tg, kk))  (H : jev X (jex X d) M Q (pc + 1) ls (.null :: st) h c s) : jev X (jex X d) M Q pc ls st h c s := s0 hr (H)
theorem s_ldc {i : Nat} {e : JE} {v : Value} (hr : jtw M.code pc = some (.ldc i, ln, tg, kk)) (he : jcp M.own i = some e) (hv : jldc e = fun K => K v) (H : jev X (jex X d) M Q (pc + 2) ls (v :: st) h c s) : jev X (jex X d) M Q pc ls st h c s := s0 hr (by
  show (match jcp M.own i with | some e => jldc e fun v => jev X (jex X d) M Q (pc + 2) ls (v :: st) h c s | none => False)
  rw [he]
  dsimp only
  rw [hv]
  exact H)
theorem s_ldc2_w {i : Nat} {e : JE} {x : Int64} (hr : jtw M.code pc = some (.ldc2_w i, ln, tg, kk)) (he : jcp M.own i = some e) (h8 : e.1 = 8) (hv : Int64.ofInt e.2.2.2 = x) (H : jev X (jex X d) M Q (pc + 3) ls (.long x :: st) h c s) : jev X (jex X d) M Q pc ls st h c s := s0 hr (by
  show (match jcp M.own i with | some e => (if e.1 = 8 then jev X (jex X d) M Q (pc + 3) ls (.long (Int64.ofInt e.2.2.2) :: st) h c s else False) | none => False)
  rw [he]
  dsimp only
  rw [if_pos h8, hv]
  exact H)
theorem s_istore_n {n : Fin 4} {x : Int32} (hr : jtw M.code pc = some (.istore_n n, ln, tg, kk)) (hl : Nat.ble ((n : Nat) + 1) ls.length = true) (H : jev X (jex X d) M Q (pc + 1) (ls.set n (some (.int x))) st h c s) : jev X (jex X d) M Q pc ls (.int x :: st) h c s := s0 hr (by
  show jst1 ls n (.int x) fun l2 => jev X (jex X d) M Q (pc + 1) l2 st h c s
  unfold jst1
  rw [if_pos (Nat.lt_of_succ_le (Nat.le_of_ble_eq_true hl))]
  exact H)
theorem s_istore {n : Nat} {x : Int32} (hr : jtw M.code pc = some (.istore n, ln, tg, kk)) (hl : Nat.ble ((n : Nat) + 1) ls.length = true) (H : jev X (jex X d) M Q (pc + 2) (ls.set n (some (.int x))) st h c s) : jev X (jex X d) M Q pc ls (.int x :: st) h c s := s0 hr (by
  show jst1 ls n (.int x) fun l2 => jev X (jex X d) M Q (pc + 2) l2 st h c s
  unfold jst1
  rw [if_pos (Nat.lt_of_succ_le (Nat.le_of_ble_eq_true hl))]
  exact H)
theorem s_astore_n {n : Fin 4} {v : Value} (hr : jtw M.code pc = some (.astore_n n, ln, tg, kk)) (hl : Nat.ble ((n : Nat) + 1) ls.length = true) (H : jisr v (jev X (jex X d) M Q (pc + 1) (ls.set n (some v)) st h c s)) : jev X (jex X d) M Q pc ls (v :: st) h c s := s0 hr (by
  show jisr v (jst1 ls n v fun l2 => jev X (jex X d) M Q (pc + 1) l2 st h c s)
  unfold jst1
  rw [if_pos (Nat.lt_of_succ_le (Nat.le_of_ble_eq_true hl))]
  exact H)
theorem s_astore {n : Nat} {v : Value} (hr : jtw M.code pc = some (.astore n, ln, tg, kk)) (hl : Nat.ble ((n : Nat) + 1) ls.length = true) (H : jisr v (jev X (jex X d) M Q (pc + 2) (ls.set n (some v)) st h c s)) : jev X (jex X d) M Q pc ls (v :: st) h c s := s0 hr (by
  show jisr v (jst1 ls n v fun l2 => jev X (jex X d) M Q (pc + 2) l2 st h c s)
  unfold jst1
  rw [if_pos (Nat.lt_of_succ_le (Nat.le_of_ble_eq_true hl))]
  exact H)
theorem s_lstore_n {n : Fin 4} {x : Int64} (hr : jtw M.code pc = some (.lstore_n n, ln, tg, kk)) (hl : Nat.ble ((n : Nat) + 2) ls.length = true) (H : jev X (jex X d) M Q (pc + 1) ((ls.set n (some (.long x))).set (n + 1) none) st h c s) : jev X (jex X d) M Q pc ls (.long x :: st) h c s := s0 hr (by
  show jst2 ls n (.long x) fun l2 => jev X (jex X d) M Q (pc + 1) l2 st h c s
  unfold jst2
  rw [if_pos (Nat.lt_of_succ_le (Nat.le_of_ble_eq_true hl))]
  exact H)
theorem s_iinc {n : Nat} {z : Int} {k x : Int32} (hr : jtw M.code pc = some (.iinc n z, ln, tg, kk)) (hl : ls[n]? = some (some (.int x))) (hb : Nat.ble (n + 1) ls.length = true) (hk : jcon z kk = k) (H : jev X (jex X d) M Q tg (ls.set n (some (.int (x + k)))) st h c s) : jev X (jex X d) M Q pc ls st h c s := s0 hr (by
  show jldI ls n fun x => jst1 ls n (.int (x + jcon z kk)) fun l2 => jev X (jex X d) M Q tg l2 st h c s
  unfold jldI jst1
  rw [hl]
  dsimp only
  rw [hk, if_pos (Nat.lt_of_succ_le (Nat.le_of_ble_eq_true hb))]
  exact H)
theorem s_iadd {x y : Int32} (hr : jtw M.code pc = some (.iadd, ln, tg, kk))  (H : jev X (jex X d) M Q (pc + 1) ls (.int (x + y) :: st) h c s) : jev X (jex X d) M Q pc ls (.int y :: .int x :: st) h c s := s0 hr (H)
theorem s_isub {x y : Int32} (hr : jtw M.code pc = some (.isub, ln, tg, kk))  (H : jev X (jex X d) M Q (pc + 1) ls (.int (x - y) :: st) h c s) : jev X (jex X d) M Q pc ls (.int y :: .int x :: st) h c s := s0 hr (H)
theorem s_imul {x y : Int32} (hr : jtw M.code pc = some (.imul, ln, tg, kk))  (H : jev X (jex X d) M Q (pc + 1) ls (.int (x * y) :: st) h c s) : jev X (jex X d) M Q pc ls (.int y :: .int x :: st) h c s := s0 hr (H)
theorem s_iand {x y : Int32} (hr : jtw M.code pc = some (.iand, ln, tg, kk))  (H : jev X (jex X d) M Q (pc + 1) ls (.int (x &&& y) :: st) h c s) : jev X (jex X d) M Q pc ls (.int y :: .int x :: st) h c s := s0 hr (H)
theorem s_ior {x y : Int32} (hr : jtw M.code pc = some (.ior, ln, tg, kk))  (H : jev X (jex X d) M Q (pc + 1) ls (.int (x ||| y) :: st) h c s) : jev X (jex X d) M Q pc ls (.int y :: .int x :: st) h c s := s0 hr (H)
theorem s_ixor {x y : Int32} (hr : jtw M.code pc = some (.ixor, ln, tg, kk))  (H : jev X (jex X d) M Q (pc + 1) ls (.int (x ^^^ y) :: st) h c s) : jev X (jex X d) M Q pc ls (.int y :: .int x :: st) h c s := s0 hr (H)
theorem s_ishl {x y : Int32} (hr : jtw M.code pc = some (.ishl, ln, tg, kk))  (H : jev X (jex X d) M Q (pc + 1) ls (.int (x <<< (y &&& 31)) :: st) h c s) : jev X (jex X d) M Q pc ls (.int y :: .int x :: st) h c s := s0 hr (H)
theorem s_ishr {x y : Int32} (hr : jtw M.code pc = some (.ishr, ln, tg, kk))  (H : jev X (jex X d) M Q (pc + 1) ls (.int (x >>> (y &&& 31)) :: st) h c s) : jev X (jex X d) M Q pc ls (.int y :: .int x :: st) h c s := s0 hr (H)
theorem s_iushr {x y : Int32} (hr : jtw M.code pc = some (.iushr, ln, tg, kk))  (H : jev X (jex X d) M Q (pc + 1) ls (.int ((x.toUInt32 >>> (y.toUInt32 &&& Int32.toUInt32 31)).toInt32) :: st) h c s) : jev X (jex X d) M Q pc ls (.int y :: .int x :: st) h c s := s0 hr (H)
theorem s_ladd {x y : Int64} (hr : jtw M.code pc = some (.ladd, ln, tg, kk))  (H : jev X (jex X d) M Q (pc + 1) ls (.long (x + y) :: st) h c s) : jev X (jex X d) M Q pc ls (.long y :: .long x :: st) h c s := s0 hr (H)
theorem s_lmul {x y : Int64} (hr : jtw M.code pc = some (.lmul, ln, tg, kk))  (H : jev X (jex X d) M Q (pc + 1) ls (.long (x * y) :: st) h c s) : jev X (jex X d) M Q pc ls (.long y :: .long x :: st) h c s := s0 hr (H)
theorem s_lor {x y : Int64} (hr : jtw M.code pc = some (.lor, ln, tg, kk))  (H : jev X (jex X d) M Q (pc + 1) ls (.long (x ||| y) :: st) h c s) : jev X (jex X d) M Q pc ls (.long y :: .long x :: st) h c s := s0 hr (H)
theorem s_idiv {x y : Int32} (hr : jtw M.code pc = some (.idiv, ln, tg, kk))  (H : ¬ y = 0 ∧ jev X (jex X d) M Q (pc + 1) ls (.int (x / y) :: st) h c s) : jev X (jex X d) M Q pc ls (.int y :: .int x :: st) h c s := s0 hr (H)
theorem s_irem {x y : Int32} (hr : jtw M.code pc = some (.irem, ln, tg, kk))  (H : ¬ y = 0 ∧ jev X (jex X d) M Q (pc + 1) ls (.int (x - x / y * y) :: st) h c s) : jev X (jex X d) M Q pc ls (.int y :: .int x :: st) h c s := s0 hr (H)
theorem s_ldiv {x y : Int64} (hr : jtw M.code pc = some (.ldiv, ln, tg, kk))  (H : ¬ y = 0 ∧ jev X (jex X d) M Q (pc + 1) ls (.long (x / y) :: st) h c s) : jev X (jex X d) M Q pc ls (.long y :: .long x :: st) h c s := s0 hr (H)
theorem s_ineg {x : Int32} (hr : jtw M.code pc = some (.ineg, ln, tg, kk))  (H : jev X (jex X d) M Q (pc + 1) ls (.int (-x) :: st) h c s) : jev X (jex X d) M Q pc ls (.int x :: st) h c s := s0 hr (H)
theorem s_lshl {y : Int32} {x : Int64} (hr : jtw M.code pc = some (.lshl, ln, tg, kk))  (H : jev X (jex X d) M Q (pc + 1) ls (.long (x <<< (y.toInt64 &&& 63)) :: st) h c s) : jev X (jex X d) M Q pc ls (.int y :: .long x :: st) h c s := s0 hr (H)
theorem s_lcmp {x y : Int64} (hr : jtw M.code pc = some (.lcmp, ln, tg, kk))  (H : jev X (jex X d) M Q (pc + 1) ls (.int (lg_cmp x y) :: st) h c s) : jev X (jex X d) M Q pc ls (.long y :: .long x :: st) h c s := s0 hr (H)
theorem s_i2l {x : Int32} (hr : jtw M.code pc = some (.i2l, ln, tg, kk))  (H : jev X (jex X d) M Q (pc + 1) ls (.long x.toInt64 :: st) h c s) : jev X (jex X d) M Q pc ls (.int x :: st) h c s := s0 hr (H)
theorem s_i2b {x : Int32} (hr : jtw M.code pc = some (.i2b, ln, tg, kk))  (H : jev X (jex X d) M Q (pc + 1) ls (.int x.toInt8.toInt32 :: st) h c s) : jev X (jex X d) M Q pc ls (.int x :: st) h c s := s0 hr (H)
theorem s_i2c {x : Int32} (hr : jtw M.code pc = some (.i2c, ln, tg, kk))  (H : jev X (jex X d) M Q (pc + 1) ls (.int (x.toUInt32 % 65536).toInt32 :: st) h c s) : jev X (jex X d) M Q pc ls (.int x :: st) h c s := s0 hr (H)
theorem s_dup {v : Value} (hr : jtw M.code pc = some (.dup, ln, tg, kk))  (H : jcat1 v (jev X (jex X d) M Q (pc + 1) ls (v :: v :: st) h c s)) : jev X (jex X d) M Q pc ls (v :: st) h c s := s0 hr (H)
theorem s_pop {v : Value} (hr : jtw M.code pc = some (.pop, ln, tg, kk))  (H : jcat1 v (jev X (jex X d) M Q (pc + 1) ls st h c s)) : jev X (jex X d) M Q pc ls (v :: st) h c s := s0 hr (H)
theorem s_dup2 {v w : Value} (hr : jtw M.code pc = some (.dup2, ln, tg, kk))  (H : jcat1 v (jcat1 w (jev X (jex X d) M Q (pc + 1) ls (v :: w :: v :: w :: st) h c s))) : jev X (jex X d) M Q pc ls (v :: w :: st) h c s := s0 hr (H)
theorem s_goto {z : Int} (hr : jtw M.code pc = some (.goto z, ln, tg, kk))  (H : jev X (jex X d) M Q tg ls st h c s) : jev X (jex X d) M Q pc ls st h c s := s0 hr (H)
theorem s_icmp_eq {x y : Int32} {z : Int} (hr : jtw M.code pc = some (.if_icmp .eq z, ln, tg, kk))  (H : jifp (x = y) (jev X (jex X d) M Q tg ls st h c s) (jev X (jex X d) M Q (pc + 3) ls st h c s)) : jev X (jex X d) M Q pc ls (.int y :: .int x :: st) h c s := s0 hr (j_if H)
theorem s_ifc_eq {x : Int32} {z : Int} (hr : jtw M.code pc = some (.ifCond .eq z, ln, tg, kk))  (H : jifp (x = 0) (jev X (jex X d) M Q tg ls st h c s) (jev X (jex X d) M Q (pc + 3) ls st h c s)) : jev X (jex X d) M Q pc ls (.int x :: st) h c s := s0 hr (j_if H)
theorem s_icmp_ne {x y : Int32} {z : Int} (hr : jtw M.code pc = some (.if_icmp .ne z, ln, tg, kk))  (H : jifp (x = y) (jev X (jex X d) M Q (pc + 3) ls st h c s) (jev X (jex X d) M Q tg ls st h c s)) : jev X (jex X d) M Q pc ls (.int y :: .int x :: st) h c s := s0 hr (j_if H)
theorem s_ifc_ne {x : Int32} {z : Int} (hr : jtw M.code pc = some (.ifCond .ne z, ln, tg, kk))  (H : jifp (x = 0) (jev X (jex X d) M Q (pc + 3) ls st h c s) (jev X (jex X d) M Q tg ls st h c s)) : jev X (jex X d) M Q pc ls (.int x :: st) h c s := s0 hr (j_if H)
theorem s_icmp_lt {x y : Int32} {z : Int} (hr : jtw M.code pc = some (.if_icmp .lt z, ln, tg, kk))  (H : jifp (x < y) (jev X (jex X d) M Q tg ls st h c s) (jev X (jex X d) M Q (pc + 3) ls st h c s)) : jev X (jex X d) M Q pc ls (.int y :: .int x :: st) h c s := s0 hr (j_if H)
theorem s_ifc_lt {x : Int32} {z : Int} (hr : jtw M.code pc = some (.ifCond .lt z, ln, tg, kk))  (H : jifp (x < 0) (jev X (jex X d) M Q tg ls st h c s) (jev X (jex X d) M Q (pc + 3) ls st h c s)) : jev X (jex X d) M Q pc ls (.int x :: st) h c s := s0 hr (j_if H)
theorem s_icmp_ge {x y : Int32} {z : Int} (hr : jtw M.code pc = some (.if_icmp .ge z, ln, tg, kk))  (H : jifp (x < y) (jev X (jex X d) M Q (pc + 3) ls st h c s) (jev X (jex X d) M Q tg ls st h c s)) : jev X (jex X d) M Q pc ls (.int y :: .int x :: st) h c s := s0 hr (j_if H)
theorem s_ifc_ge {x : Int32} {z : Int} (hr : jtw M.code pc = some (.ifCond .ge z, ln, tg, kk))  (H : jifp (x < 0) (jev X (jex X d) M Q (pc + 3) ls st h c s) (jev X (jex X d) M Q tg ls st h c s)) : jev X (jex X d) M Q pc ls (.int x :: st) h c s := s0 hr (j_if H)
theorem s_icmp_gt {x y : Int32} {z : Int} (hr : jtw M.code pc = some (.if_icmp .gt z, ln, tg, kk))  (H : jifp (y < x) (jev X (jex X d) M Q tg ls st h c s) (jev X (jex X d) M Q (pc + 3) ls st h c s)) : jev X (jex X d) M Q pc ls (.int y :: .int x :: st) h c s := s0 hr (j_if H)
theorem s_ifc_gt {x : Int32} {z : Int} (hr : jtw M.code pc = some (.ifCond .gt z, ln, tg, kk))  (H : jifp (0 < x) (jev X (jex X d) M Q tg ls st h c s) (jev X (jex X d) M Q (pc + 3) ls st h c s)) : jev X (jex X d) M Q pc ls (.int x :: st) h c s := s0 hr (j_if H)
theorem s_icmp_le {x y : Int32} {z : Int} (hr : jtw M.code pc = some (.if_icmp .le z, ln, tg, kk))  (H : jifp (y < x) (jev X (jex X d) M Q (pc + 3) ls st h c s) (jev X (jex X d) M Q tg ls st h c s)) : jev X (jex X d) M Q pc ls (.int y :: .int x :: st) h c s := s0 hr (j_if H)
theorem s_ifc_le {x : Int32} {z : Int} (hr : jtw M.code pc = some (.ifCond .le z, ln, tg, kk))  (H : jifp (0 < x) (jev X (jex X d) M Q (pc + 3) ls st h c s) (jev X (jex X d) M Q tg ls st h c s)) : jev X (jex X d) M Q pc ls (.int x :: st) h c s := s0 hr (j_if H)
theorem s_ifnull {v : Value} {z : Int} (hr : jtw M.code pc = some (.ifnull z, ln, tg, kk))  (H : jnul v (jev X (jex X d) M Q tg ls st h c s) (jev X (jex X d) M Q (pc + 3) ls st h c s)) : jev X (jex X d) M Q pc ls (v :: st) h c s := s0 hr (H)
theorem s_ifnonnull {v : Value} {z : Int} (hr : jtw M.code pc = some (.ifnonnull z, ln, tg, kk))  (H : jnul v (jev X (jex X d) M Q (pc + 3) ls st h c s) (jev X (jex X d) M Q tg ls st h c s)) : jev X (jex X d) M Q pc ls (v :: st) h c s := s0 hr (H)
theorem s_tsw {df lo hi : Int} {os : Array Int} {x : Int32} (hr : jtw M.code pc = some (.tableswitch df lo hi os, ln, tg, kk)) (hc : (decide (hi = lo + os.size - 1) && (decide (0 ≤ (pc : Int) + df) && os.toList.all (fun o => decide (0 ≤ (pc : Int) + o))) && (decide (-2147483648 ≤ lo) && decide (hi < 2147483648))) = true) (H : jtsw pc lo os.toList x (jev X (jex X d) M Q ((pc : Int) + df).toNat ls st h c s) (fun t => jev X (jex X d) M Q t ls st h c s)) : jev X (jex X d) M Q pc ls (.int x :: st) h c s := by
  refine s0 hr ?_
  show (if hi = lo + os.size - 1 ∧ (0 ≤ (pc : Int) + df ∧ os.toList.all (fun o => decide (0 ≤ (pc : Int) + o)) = true) ∧ (-2147483648 ≤ lo ∧ hi < 2147483648) then jtsw pc lo os.toList x (jev X (jex X d) M Q ((pc : Int) + df).toNat ls st h c s) (fun t => jev X (jex X d) M Q t ls st h c s) else False)
  rw [if_pos]
  · exact H
  · simp only [Bool.and_eq_true, decide_eq_true_eq] at hc
    exact ⟨hc.1.1, hc.1.2, hc.2⟩
theorem s_lsw {df : Int} {ps : Array (Int × Int)} {x : Int32} (hr : jtw M.code pc = some (.lookupswitch df ps, ln, tg, kk)) (hc : ((ps.toList.zip (ps.toList.drop 1)).all (fun (a, next) => a.1 < next.1) && (decide (0 ≤ (pc : Int) + df) && ps.toList.all (fun q => decide (0 ≤ (pc : Int) + q.2 ∧ -2147483648 ≤ q.1 ∧ q.1 < 2147483648)))) = true) (H : jlsw pc ps.toList x (jev X (jex X d) M Q ((pc : Int) + df).toNat ls st h c s) (fun t => jev X (jex X d) M Q t ls st h c s)) : jev X (jex X d) M Q pc ls (.int x :: st) h c s := by
  refine s0 hr ?_
  show (if (ps.toList.zip (ps.toList.drop 1)).all (fun (a, next) => a.1 < next.1) = true ∧ (0 ≤ (pc : Int) + df ∧ ps.toList.all (fun q => decide (0 ≤ (pc : Int) + q.2 ∧ -2147483648 ≤ q.1 ∧ q.1 < 2147483648)) = true) then jlsw pc ps.toList x (jev X (jex X d) M Q ((pc : Int) + df).toNat ls st h c s) (fun t => jev X (jex X d) M Q t ls st h c s) else False)
  rw [if_pos]
  · exact H
  · simp only [Bool.and_eq_true, decide_eq_true_eq] at hc
    exact ⟨hc.1, hc.2.1, hc.2.2⟩
theorem j_tsw {pc : Nat} {x : Int32} {D : Prop} {K : Nat → Prop} {lo y : Int} {o : Int} {r : List Int} {k : Int32} {t : Nat} (hk : Int32.ofInt lo = k) (hl : lo + 1 = y) (ht : ((pc : Int) + o).toNat = t) (H : jifp (x = k) (K t) (jtsw pc y r x D K)) : jtsw pc lo (o :: r) x D K := by
  subst hk; subst hl; subst ht
  exact j_if H
theorem j_lsw {pc : Nat} {x : Int32} {D : Prop} {K : Nat → Prop} {lo o : Int} {r : List (Int × Int)} {k : Int32} {t : Nat} (hk : Int32.ofInt lo = k) (ht : ((pc : Int) + o).toNat = t) (H : jifp (x = k) (K t) (jlsw pc r x D K)) : jlsw pc ((lo, o) :: r) x D K := by
  subst hk; subst ht
  exact j_if H
theorem s_getI {i ci k : Nat} {z : Int} {v : Value} (hr : jtw M.code pc = some (.getfield i, ln, tg, kk)) (he : jcp M.own i = some (0, ci, k, z)) (ht : jkd (jty ci k) = 0) (H : jgI h v ci k fun x => jev X (jex X d) M Q (pc + 3) ls (.int x :: st) h c s) : jev X (jex X d) M Q pc ls (v :: st) h c s := by
  refine s0 hr ?_
  show (match jcp M.own i with | some e => jpV (v :: st) fun v r => jgt h v e fun w => jev X (jex X d) M Q (pc + 3) ls (w :: r) h c s | none => False)
  rw [he]
  show jgt h v (0, ci, k, z) fun w => jev X (jex X d) M Q (pc + 3) ls (w :: st) h c s
  unfold jgt
  dsimp only
  revert ht
  cases jty ci k <;> intro ht <;> first | exact H | exact (by cases ht)
theorem s_getL {i ci k : Nat} {z : Int} {v : Value} (hr : jtw M.code pc = some (.getfield i, ln, tg, kk)) (he : jcp M.own i = some (0, ci, k, z)) (ht : jkd (jty ci k) = 1) (H : jgL h v ci k fun x => jev X (jex X d) M Q (pc + 3) ls (.long x :: st) h c s) : jev X (jex X d) M Q pc ls (v :: st) h c s := by
  refine s0 hr ?_
  show (match jcp M.own i with | some e => jpV (v :: st) fun v r => jgt h v e fun w => jev X (jex X d) M Q (pc + 3) ls (w :: r) h c s | none => False)
  rw [he]
  show jgt h v (0, ci, k, z) fun w => jev X (jex X d) M Q (pc + 3) ls (w :: st) h c s
  unfold jgt
  dsimp only
  revert ht
  cases jty ci k <;> intro ht <;> first | exact H | exact (by cases ht)
theorem s_getA {i ci k : Nat} {z : Int} {v : Value} (hr : jtw M.code pc = some (.getfield i, ln, tg, kk)) (he : jcp M.own i = some (0, ci, k, z)) (ht : jkd (jty ci k) = 2) (H : jgf h v ci k fun x => jev X (jex X d) M Q (pc + 3) ls (x :: st) h c s) : jev X (jex X d) M Q pc ls (v :: st) h c s := by
  refine s0 hr ?_
  show (match jcp M.own i with | some e => jpV (v :: st) fun v r => jgt h v e fun w => jev X (jex X d) M Q (pc + 3) ls (w :: r) h c s | none => False)
  rw [he]
  show jgt h v (0, ci, k, z) fun w => jev X (jex X d) M Q (pc + 3) ls (w :: st) h c s
  unfold jgt
  dsimp only
  revert ht
  cases jty ci k <;> intro ht <;> first | exact H | exact (by cases ht)
theorem s_getT0 {i e3 : Nat} {z : Int} {b : UInt32} (hr : jtw M.code pc = some (.getfield i, ln, tg, kk)) (he : jcp M.own i = some (12, 0, e3, z)) (H : jifp (2 ≤ b.toNat ∧ b.toNat < 13) (jev X (jex X d) M Q (pc + 3) ls ((.float (UInt32.ofNat (18 + b.toNat))) :: st) h c s) False) : jev X (jex X d) M Q pc ls (.float b :: st) h c s := by
  refine s0 hr ?_
  show (match jcp M.own i with | some e => jpV (.float b :: st) fun v r => jgt h v e fun w => jev X (jex X d) M Q (pc + 3) ls (w :: r) h c s | none => False)
  rw [he]
  exact j_if H
theorem s_getT1 {i e3 : Nat} {z : Int} {b : UInt32} (hr : jtw M.code pc = some (.getfield i, ln, tg, kk)) (he : jcp M.own i = some (12, 1, e3, z)) (H : jifp (2 ≤ b.toNat ∧ b.toNat < 13) (jev X (jex X d) M Q (pc + 3) ls ((.int 0) :: st) h c s) False) : jev X (jex X d) M Q pc ls (.float b :: st) h c s := by
  refine s0 hr ?_
  show (match jcp M.own i with | some e => jpV (.float b :: st) fun v r => jgt h v e fun w => jev X (jex X d) M Q (pc + 3) ls (w :: r) h c s | none => False)
  rw [he]
  exact j_if H
theorem j_ptI {ci k : Nat} {v : Value} {z : Int} {x : Int32} {K : JH → Prop} (hf : (!(jtT ci k).2.2.2 || (M.ini == 1 && M.own == ci)) = true) (ht : (jty ci k matches .int) = true) (H : jpf h v ci k (.int x) K) : jpt M h v (.int x) (0, ci, k, z) K := by
  unfold jpt
  dsimp only
  have hz : jpz (jty ci k) (.int x) (jpf h v ci k (.int x) K) := by
    revert ht
    cases jty ci k <;> intro ht <;> first | exact H | exact (by cases ht)
  by_cases hq : (jtT ci k).2.2.2 = true
  · rw [if_pos hq]
    rw [hq] at hf
    simp at hf
    rw [if_pos hf]
    exact hz
  · rw [if_neg hq]
    exact hz
theorem j_ptB {ci k : Nat} {v : Value} {z : Int} {x : Int32} {K : JH → Prop} (hf : (!(jtT ci k).2.2.2 || (M.ini == 1 && M.own == ci)) = true) (ht : (jty ci k matches .boolean) = true) (H : (x = 0 ∨ x = 1) ∧ jpf h v ci k (.int x) K) : jpt M h v (.int x) (0, ci, k, z) K := by
  unfold jpt
  dsimp only
  have hz : jpz (jty ci k) (.int x) (jpf h v ci k (.int x) K) := by
    revert ht
    cases jty ci k <;> intro ht <;> first | exact H | exact (by cases ht)
  by_cases hq : (jtT ci k).2.2.2 = true
  · rw [if_pos hq]
    rw [hq] at hf
    simp at hf
    rw [if_pos hf]
    exact hz
  · rw [if_neg hq]
    exact hz
theorem j_ptL {ci k : Nat} {v : Value} {z : Int} {x : Int64} {K : JH → Prop} (hf : (!(jtT ci k).2.2.2 || (M.ini == 1 && M.own == ci)) = true) (ht : (jty ci k matches .long) = true) (H : jpf h v ci k (.long x) K) : jpt M h v (.long x) (0, ci, k, z) K := by
  unfold jpt
  dsimp only
  have hz : jpz (jty ci k) (.long x) (jpf h v ci k (.long x) K) := by
    revert ht
    cases jty ci k <;> intro ht <;> first | exact H | exact (by cases ht)
  by_cases hq : (jtT ci k).2.2.2 = true
  · rw [if_pos hq]
    rw [hq] at hf
    simp at hf
    rw [if_pos hf]
    exact hz
  · rw [if_neg hq]
    exact hz
theorem j_ptA {ci k : Nat} {v w : Value} {z : Int} {K : JH → Prop} (hf : (!(jtT ci k).2.2.2 || (M.ini == 1 && M.own == ci)) = true) (ht : jkd (jty ci k) = 2) (H : jisr w (jpf h v ci k w K)) : jpt M h v w (0, ci, k, z) K := by
  unfold jpt
  dsimp only
  have hz : jpz (jty ci k) w (jpf h v ci k w K) := by
    revert ht
    cases jty ci k <;> intro ht <;> first | exact H | exact (by cases ht)
  by_cases hq : (jtT ci k).2.2.2 = true
  · rw [if_pos hq]
    rw [hq] at hf
    simp at hf
    rw [if_pos hf]
    exact hz
  · rw [if_neg hq]
    exact hz
theorem s_put {i ci k : Nat} {z : Int} {v w : Value} (hr : jtw M.code pc = some (.putfield i, ln, tg, kk)) (he : jcp M.own i = some (0, ci, k, z)) (H : jpt M h v w (0, ci, k, z) fun h2 => jev X (jex X d) M Q (pc + 3) ls st h2 c s) : jev X (jex X d) M Q pc ls (w :: v :: st) h c s := by
  refine s0 hr ?_
  show (match jcp M.own i with | some e => jpV (w :: v :: st) fun w r => jpV r fun v r => jpt M h v w e fun h2 => jev X (jex X d) M Q (pc + 3) ls r h2 c s | none => False)
  rw [he]
  exact H
theorem s_getstatic {i : Nat} {e : JE} {v : Value} (hr : jtw M.code pc = some (.getstatic i, ln, tg, kk)) (he : jcp M.own i = some e) (hv : jgs e = fun K => K v) (H : jev X (jex X d) M Q (pc + 3) ls (v :: st) h c s) : jev X (jex X d) M Q pc ls st h c s := by
  refine s0 hr ?_
  show (match jcp M.own i with | some e => jgs e fun w => jev X (jex X d) M Q (pc + 3) ls (w :: st) h c s | none => False)
  rw [he]
  dsimp only
  rw [hv]
  exact H
theorem s_iaload {i : Int32} {v : Value} (hr : jtw M.code pc = some (.iaload, ln, tg, kk))  (H : jaI X h v i fun x => jev X (jex X d) M Q (pc + 1) ls (.int x :: st) h c s) : jev X (jex X d) M Q pc ls (.int i :: v :: st) h c s := s0 hr (H)
theorem s_baload {i : Int32} {v : Value} (hr : jtw M.code pc = some (.baload, ln, tg, kk))  (H : jaB h v i fun x => jev X (jex X d) M Q (pc + 1) ls (.int x :: st) h c s) : jev X (jex X d) M Q pc ls (.int i :: v :: st) h c s := s0 hr (H)
theorem s_laload {i : Int32} {v : Value} (hr : jtw M.code pc = some (.laload, ln, tg, kk))  (H : jaL h v i fun x => jev X (jex X d) M Q (pc + 1) ls (.long x :: st) h c s) : jev X (jex X d) M Q pc ls (.int i :: v :: st) h c s := s0 hr (H)
theorem s_aaload {i : Int32} {v : Value} (hr : jtw M.code pc = some (.aaload, ln, tg, kk))  (H : jaA h v i fun x => jev X (jex X d) M Q (pc + 1) ls (x :: st) h c s) : jev X (jex X d) M Q pc ls (.int i :: v :: st) h c s := s0 hr (H)
theorem s_iastore {i x : Int32} {v : Value} (hr : jtw M.code pc = some (.iastore, ln, tg, kk))  (H : jwI h v i x fun h2 => jev X (jex X d) M Q (pc + 1) ls st h2 c s) : jev X (jex X d) M Q pc ls (.int x :: .int i :: v :: st) h c s := s0 hr (H)
theorem s_bastore {i x : Int32} {v : Value} (hr : jtw M.code pc = some (.bastore, ln, tg, kk))  (H : jwB h v i x fun h2 => jev X (jex X d) M Q (pc + 1) ls st h2 c s) : jev X (jex X d) M Q pc ls (.int x :: .int i :: v :: st) h c s := s0 hr (H)
theorem s_lastore {i : Int32} {x : Int64} {v : Value} (hr : jtw M.code pc = some (.lastore, ln, tg, kk))  (H : jwL h v i x fun h2 => jev X (jex X d) M Q (pc + 1) ls st h2 c s) : jev X (jex X d) M Q pc ls (.long x :: .int i :: v :: st) h c s := s0 hr (H)
theorem s_aastore {i : Int32} {x : Value} {v : Value} (hr : jtw M.code pc = some (.aastore, ln, tg, kk))  (H : jwA h v i x fun h2 => jev X (jex X d) M Q (pc + 1) ls st h2 c s) : jev X (jex X d) M Q pc ls (x :: .int i :: v :: st) h c s := s0 hr (H)
theorem s_arraylength {v : Value} (hr : jtw M.code pc = some (.arraylength, ln, tg, kk))  (H : jaln X h v fun x => jev X (jex X d) M Q (pc + 1) ls (.int x :: st) h c s) : jev X (jex X d) M Q pc ls (v :: st) h c s := s0 hr (H)
theorem s_newarray {t : ArrayType} {n : Int32} (hr : jtw M.code pc = some (.newarray t, ln, tg, kk))  (H : jna M t n h c s fun h2 c2 s2 => jev X (jex X d) M Q (pc + 2) ls (.ref h.length :: st) h2 c2 s2) : jev X (jex X d) M Q pc ls (.int n :: st) h c s := s0 hr (H)
theorem s_anewarray {i ci e3 : Nat} {z : Int} {n : Int32} (hr : jtw M.code pc = some (.anewarray i, ln, tg, kk)) (he : jcp M.own i = some (10, ci, e3, z)) (H : jnr M ci n h c s fun h2 c2 s2 => jev X (jex X d) M Q (pc + 3) ls (.ref h.length :: st) h2 c2 s2) : jev X (jex X d) M Q pc ls (.int n :: st) h c s := by
  refine s0 hr ?_
  show (match jcp M.own i with | some e => (if e.1 = 10 then jpI (.int n :: st) fun n r => jnr M e.2.1 n h c s fun h2 c2 s2 => jev X (jex X d) M Q (pc + 3) ls (.ref h.length :: r) h2 c2 s2 else False) | none => False)
  rw [he]
  exact H
theorem s_new {i ci e3 : Nat} {z : Int} (hr : jtw M.code pc = some (.new i, ln, tg, kk)) (he : jcp M.own i = some (10, ci, e3, z)) (H : jno M ci h c s fun h2 c2 s2 => jev X (jex X d) M Q (pc + 3) ls (.ref h.length :: st) h2 c2 s2) : jev X (jex X d) M Q pc ls st h c s := by
  refine s0 hr ?_
  show (match jcp M.own i with | some e => (if e.1 = 10 then jno M e.2.1 h c s fun h2 c2 s2 => jev X (jex X d) M Q (pc + 3) ls (.ref h.length :: st) h2 c2 s2 else False) | none => False)
  rw [he]
  exact H
theorem jm_if {c A A' B B' : Prop} (f : A → A') (g : B → B') (h : jifp c A B) : jifp c A' B' := ⟨fun hc => f (h.1 hc), fun hc => g (h.2 hc)⟩
def jisk (v : Value) : Bool := match v with
  | .ref _ => true
  | .null => true
  | .float _ => true
  | _ => false
def jc1k (v : Value) : Bool := match v with
  | .ref _ => true
  | .null => true
  | .float _ => true
  | .int _ => true
  | _ => false
theorem jisr_k {v : Value} {K : Prop} (hk : jisk v = true) (H : K) : jisr v K := by
  cases v <;> first | exact H | cases hk
theorem jcat1_k {v : Value} {K : Prop} (hk : jc1k v = true) (H : K) : jcat1 v K := by
  cases v <;> first | exact H | cases hk
theorem jnul_n {A B : Prop} (H : A) : jnul .null A B := H
theorem jnul_r {a : Nat} {A B : Prop} (H : B) : jnul (.ref a) A B := H
theorem j_tsw0 {x : Int32} {lo : Int} {D : Prop} {K : Nat → Prop} (H : D) : jtsw pc lo [] x D K := H
theorem j_lsw0 {x : Int32} {D : Prop} {K : Nat → Prop} (H : D) : jlsw pc [] x D K := H
def jkI (t : Option FieldType) : Bool := match t with
  | none => false
  | some t => jkd t == 0
theorem j_rvN {t : Option FieldType} {r : Option Value} {K : List Value → Prop} (ht : t = none) (H : jrN r (K [])) : jrv t r K := by
  subst ht; exact H
theorem j_rvI {t : Option FieldType} {r : Option Value} {K : List Value → Prop} (ht : jkI t = true) (H : jrI r fun x => K [.int x]) : jrv t r K := by
  cases t with
  | none => cases ht
  | some t => cases t <;> first | exact H | cases ht | skip
theorem j_rvL {t : Option FieldType} {r : Option Value} {K : List Value → Prop} (ht : t = some .long) (H : jrL r fun x => K [.long x]) : jrv t r K := by
  subst ht; exact H
theorem j_rvA {t : FieldType} {t' : Option FieldType} {r : Option Value} {K : List Value → Prop} (ht : t' = some t) (hk : jkd t = 2) (H : jrA r fun v => K [v]) : jrv t' r K := by
  subst ht
  cases t <;> first | exact H | cases hk
theorem jsum_le2 : ∀ l : List Value, jsum l ≤ 2 * l.length
  | [] => Nat.le_refl _
  | v :: r => by
    have := jsum_le2 r
    rw [List.length_cons]
    cases v <;> (simp only [jsum]; omega)
theorem j_cl0 {M2 : JM} {i : Nat} {as rest : List Value} {K : List Value → JH → Nat → Nat → Prop} (hs : Nat.ble rest.length 4 = true ∨ jsum rest ≤ 8) (hz : M2.mc = 0 ∧ M2.ms = 0) (H : jex X d i as h fun r h2 => jrv M2.ret r fun ws => K (ws ++ rest) h2 c s) : jcl (jex X d) M M2 i as rest h c s K := by
  unfold jcl jrm
  rw [if_pos, if_pos hz]
  · exact H
  · rcases hs with hs | hs
    · have := jsum_le2 rest
      have := Nat.le_of_ble_eq_true hs
      omega
    · exact hs
theorem j_cl1 {M2 : JM} {i : Nat} {as rest : List Value} {K : List Value → JH → Nat → Nat → Prop} (hs : Nat.ble rest.length 4 = true ∨ jsum rest ≤ 8) (hz : ¬ (M2.mc = 0 ∧ M2.ms = 0)) (H : c + M2.mc ≤ M.mc ∧ s + M2.ms ≤ M.ms ∧ jex X d i as h fun r h2 => jrv M2.ret r fun ws => K (ws ++ rest) h2 (c + M2.mc) (s + M2.ms)) : jcl (jex X d) M M2 i as rest h c s K := by
  unfold jcl jrm
  rw [if_pos, if_neg hz]
  · exact H
  · rcases hs with hs | hs
    · have := jsum_le2 rest
      have := Nat.le_of_ble_eq_true hs
      omega
    · exact hs
theorem s_callv0 {i id e3 : Nat} {z : Int} {M2 : JM} {v : Value} {vs rest : List Value} (hr : jtw M.code pc = some (.invokevirtual i, ln, tg, kk)) (he : jcp M.own i = some (1, id, e3, z)) (hM : jM id = some M2) (hd : st.drop M2.np = v :: rest) (ht : (st.take M2.np).reverse = vs) (hs : Nat.ble rest.length 4 = true ∨ jsum rest ≤ 8) (hz : M2.mc = 0 ∧ M2.ms = 0) (H : jrc h v M2.own (jex X d id (v :: vs) h fun r h2 => jrv M2.ret r fun ws => jev X (jex X d) M Q (pc + 3) ls (ws ++ rest) h2 c s)) : jev X (jex X d) M Q pc ls st h c s := by
  refine s0 hr ?_
  rw [jins_invokevirtual, he]
  dsimp only
  rw [if_pos rfl, hM]
  dsimp only
  unfold jcv
  rw [hd]
  dsimp only
  rw [ht]
  exact jm_rc (j_cl0 hs hz) H
theorem s_callv1 {i id e3 : Nat} {z : Int} {M2 : JM} {v : Value} {vs rest : List Value} (hr : jtw M.code pc = some (.invokevirtual i, ln, tg, kk)) (he : jcp M.own i = some (1, id, e3, z)) (hM : jM id = some M2) (hd : st.drop M2.np = v :: rest) (ht : (st.take M2.np).reverse = vs) (hs : Nat.ble rest.length 4 = true ∨ jsum rest ≤ 8) (hz : ¬ (M2.mc = 0 ∧ M2.ms = 0)) (H : jrc h v M2.own (c + M2.mc ≤ M.mc ∧ s + M2.ms ≤ M.ms ∧ jex X d id (v :: vs) h fun r h2 => jrv M2.ret r fun ws => jev X (jex X d) M Q (pc + 3) ls (ws ++ rest) h2 (c + M2.mc) (s + M2.ms))) : jev X (jex X d) M Q pc ls st h c s := by
  refine s0 hr ?_
  rw [jins_invokevirtual, he]
  dsimp only
  rw [if_pos rfl, hM]
  dsimp only
  unfold jcv
  rw [hd]
  dsimp only
  rw [ht]
  exact jm_rc (j_cl1 hs hz) H
theorem s_calli0 {i id e3 : Nat} {e1 : Nat} {z : Int} {M2 : JM} {v : Value} {vs rest : List Value} (hr : jtw M.code pc = some (.invokespecial i, ln, tg, kk)) (he : jcp M.own i = some (e1, id, e3, z)) (h1 : e1 = 3 ∨ e1 = 4) (h5 : ¬ e1 = 5) (hM : jM id = some M2) (hd : st.drop M2.np = v :: rest) (ht : (st.take M2.np).reverse = vs) (hs : Nat.ble rest.length 4 = true ∨ jsum rest ≤ 8) (hz : M2.mc = 0 ∧ M2.ms = 0) (H : jrc h v M2.own (jex X d id (v :: vs) h fun r h2 => jrv M2.ret r fun ws => jev X (jex X d) M Q (pc + 3) ls (ws ++ rest) h2 c s)) : jev X (jex X d) M Q pc ls st h c s := by
  refine s0 hr ?_
  rw [jins_invokespecial, he]
  dsimp only
  rw [if_neg h5, if_pos h1, hM]
  dsimp only
  unfold jcv
  rw [hd]
  dsimp only
  rw [ht]
  exact jm_rc (j_cl0 hs hz) H
theorem s_calli1 {i id e3 : Nat} {e1 : Nat} {z : Int} {M2 : JM} {v : Value} {vs rest : List Value} (hr : jtw M.code pc = some (.invokespecial i, ln, tg, kk)) (he : jcp M.own i = some (e1, id, e3, z)) (h1 : e1 = 3 ∨ e1 = 4) (h5 : ¬ e1 = 5) (hM : jM id = some M2) (hd : st.drop M2.np = v :: rest) (ht : (st.take M2.np).reverse = vs) (hs : Nat.ble rest.length 4 = true ∨ jsum rest ≤ 8) (hz : ¬ (M2.mc = 0 ∧ M2.ms = 0)) (H : jrc h v M2.own (c + M2.mc ≤ M.mc ∧ s + M2.ms ≤ M.ms ∧ jex X d id (v :: vs) h fun r h2 => jrv M2.ret r fun ws => jev X (jex X d) M Q (pc + 3) ls (ws ++ rest) h2 (c + M2.mc) (s + M2.ms))) : jev X (jex X d) M Q pc ls st h c s := by
  refine s0 hr ?_
  rw [jins_invokespecial, he]
  dsimp only
  rw [if_neg h5, if_pos h1, hM]
  dsimp only
  unfold jcv
  rw [hd]
  dsimp only
  rw [ht]
  exact jm_rc (j_cl1 hs hz) H
theorem s_calls0 {i id e3 : Nat} {z : Int} {M2 : JM} {v : Value} {vs rest : List Value} (hr : jtw M.code pc = some (.invokestatic i, ln, tg, kk)) (he : jcp M.own i = some (2, id, e3, z)) (hM : jM id = some M2) (hn : Nat.ble M2.np st.length = true) (hd : st.drop M2.np = rest) (ht : (st.take M2.np).reverse = vs) (hs : Nat.ble rest.length 4 = true ∨ jsum rest ≤ 8) (hz : M2.mc = 0 ∧ M2.ms = 0) (H : jex X d id (vs) h fun r h2 => jrv M2.ret r fun ws => jev X (jex X d) M Q (pc + 3) ls (ws ++ rest) h2 c s) : jev X (jex X d) M Q pc ls st h c s := by
  refine s0 hr ?_
  rw [jins_invokestatic, he]
  dsimp only
  rw [if_pos rfl, hM]
  dsimp only
  unfold jcs
  rw [if_pos (Nat.le_of_ble_eq_true hn), hd, ht]
  exact j_cl0 hs hz H
theorem s_calls1 {i id e3 : Nat} {z : Int} {M2 : JM} {v : Value} {vs rest : List Value} (hr : jtw M.code pc = some (.invokestatic i, ln, tg, kk)) (he : jcp M.own i = some (2, id, e3, z)) (hM : jM id = some M2) (hn : Nat.ble M2.np st.length = true) (hd : st.drop M2.np = rest) (ht : (st.take M2.np).reverse = vs) (hs : Nat.ble rest.length 4 = true ∨ jsum rest ≤ 8) (hz : ¬ (M2.mc = 0 ∧ M2.ms = 0)) (H : c + M2.mc ≤ M.mc ∧ s + M2.ms ≤ M.ms ∧ jex X d id (vs) h fun r h2 => jrv M2.ret r fun ws => jev X (jex X d) M Q (pc + 3) ls (ws ++ rest) h2 (c + M2.mc) (s + M2.ms)) : jev X (jex X d) M Q pc ls st h c s := by
  refine s0 hr ?_
  rw [jins_invokestatic, he]
  dsimp only
  rw [if_pos rfl, hM]
  dsimp only
  unfold jcs
  rw [if_pos (Nat.le_of_ble_eq_true hn), hd, ht]
  exact j_cl1 hs hz H
theorem s_super {i e2 e3 a : Nat} {z : Int} (hr : jtw M.code pc = some (.invokespecial i, ln, tg, kk)) (he : jcp M.own i = some (5, e2, e3, z)) (hs : Nat.ble st.length 4 = true) (H : jev X (jex X d) M Q (pc + 3) ls st h c s) : jev X (jex X d) M Q pc ls (.ref a :: st) h c s := by
  refine s0 hr ?_
  rw [jins_invokespecial, he]
  dsimp only
  rw [if_pos rfl]
  show (if jsum st ≤ 8 then jev X (jex X d) M Q (pc + 3) ls st h c s else False)
  rw [if_pos]
  · exact H
  · have := jsum_le2 st
    have := Nat.le_of_ble_eq_true hs
    omega
theorem s_copy {i e2 e3 : Nat} {z : Int} {w v : Value} {sp dp n : Int32} (hr : jtw M.code pc = some (.invokestatic i, ln, tg, kk)) (he : jcp M.own i = some (6, e2, e3, z)) (hs : Nat.ble st.length 4 = true) (H : jcpy h w sp v dp n fun h2 => jev X (jex X d) M Q (pc + 3) ls st h2 c s) : jev X (jex X d) M Q pc ls (.int n :: .int dp :: v :: .int sp :: w :: st) h c s := by
  refine s0 hr ?_
  rw [jins_invokestatic, he]
  dsimp only
  rw [if_neg (by decide), if_pos rfl]
  show (if jsum st ≤ 8 then jcpy h w sp v dp n fun h2 => jev X (jex X d) M Q (pc + 3) ls st h2 c s else False)
  rw [if_pos]
  · exact H
  · have := jsum_le2 st
    have := Nat.le_of_ble_eq_true hs
    omega
theorem s_ireturn {v : Value} (hr : jtw M.code pc = some (.ireturn, ln, tg, kk)) (H : jrt M.ret v (Q (some v) h)) : jev X (jex X d) M Q pc ls [v] h c s := s0 hr H
theorem s_lreturn {x : Int64} (hr : jtw M.code pc = some (.lreturn, ln, tg, kk)) (ht : M.ret = some .long) (H : Q (some (.long x)) h) : jev X (jex X d) M Q pc ls [.long x] h c s := s0 hr (by
  show (if M.ret = some .long then Q (some (.long x)) h else False)
  rw [if_pos ht]
  exact H)
theorem s_areturn {v : Value} {t : FieldType} (hr : jtw M.code pc = some (.areturn, ln, tg, kk)) (ht : M.ret = some t) (hk : jkd t = 2) (H : jisr v (Q (some v) h)) : jev X (jex X d) M Q pc ls [v] h c s := s0 hr (by
  show (match M.ret with | some (.object _) => jisr v (Q (some v) h) | some (.array _) => jisr v (Q (some v) h) | _ => False)
  rw [ht]
  revert hk
  cases t <;> intro hk <;> first | exact H | exact absurd hk (by decide))
theorem s_return (hr : jtw M.code pc = some (.return_, ln, tg, kk)) (ht : M.ret = none) (H : Q none h) : jev X (jex X d) M Q pc ls [] h c s := s0 hr (by
  show (if M.ret = none then Q none h else False)
  rw [if_pos ht]
  exact H)
end ST
