/-! THE SMALL MACHINE: a heap is a list of cells, a reference the place of a cell; what stands outside (script, table, texts) is a float's bits -/
abbrev JC : Type := (FieldType × vp_A) ⊕ (Nat × List Value)
abbrev JH : Type := List JC
abbrev JL : Type := List (Option Value)
abbrev JP : Type := Nat → JL → List Value → JH → Nat → Nat → Prop
abbrev JQ : Type := Option Value → JH → Prop
abbrev JCall : Type := Nat → List Value → JH → JQ → Prop
abbrev JX : Type := Nat × (Nat → Int32)
def jsteps : Nat → Int32 := fun k => match k with
  | 0 => 1
  | 1 => 2
  | 2 => 5
  | 3 => 10
  | 4 => 20
  | 5 => 50
  | _ => 100
def jtxt : List (List Int32) := [[108, 101, 116], [114, 101, 112, 101, 97, 116], [101, 110, 100], [105, 102], [115, 117, 114, 101, 108, 121], [101, 108, 115, 101], [115, 113, 117, 97, 114, 101], [99, 117, 98, 101], [114, 111, 111, 116], [116, 104, 105, 114, 100], [111, 118, 101, 114]]
def jtxtB (b : Nat) : Nat → Int32 := fun j => (jtxt.getD b []).getD j 0
def jtxtL (b : Nat) : Nat := (jtxt.getD b []).length
/-- the int arrays outside: 0 the script, 1 the table -/
def jextI (X : JX) (b : UInt32) : Option (Nat × (Nat → Int32)) := if b = 0 then some X else if b = 1 then some (7, jsteps) else none
/-- the byte arrays of the texts: 20 .. 30 -/
def jextB (b : UInt32) : Option (Nat × (Nat → Int32)) := if 20 ≤ b.toNat ∧ b.toNat < 31 then some (jtxtL (b.toNat - 20), jtxtB (b.toNat - 20)) else none
def jty (ci k : Nat) : FieldType := match ci with
  | 0 => tyX0 k
  | 1 => tyX1 k
  | 2 => tyX2 k
  | 3 => tyX3 k
  | 4 => tyX4 k
  | 5 => tyX5 k
  | 6 => tyX6 k
  | 7 => tyX7 k
  | 8 => tyX8 k
  | 9 => tyX9 k
  | 10 => tyX10 k
  | 11 => tyX11 k
  | _ => tyX12 k
def jtT (ci : Nat) : u_T := match ci with
  | 0 => TX0
  | 1 => TX1
  | 2 => TX2
  | 3 => TX3
  | 4 => TX4
  | 5 => TX5
  | 6 => TX6
  | 7 => TX7
  | 8 => TX8
  | 9 => TX9
  | 10 => TX10
  | 11 => TX11
  | _ => TX12
def jnf (ci : Nat) : Nat := match ci with
  | 0 => 11
  | 1 => 4
  | 2 => 11
  | 3 => 3
  | 4 => 13
  | 5 => 12
  | 6 => 2
  | 7 => 20
  | 8 => 8
  | 9 => 10
  | 10 => 7
  | 11 => 12
  | _ => 85
/-- what a reference may be -/
def jisr (v : Value) (K : Prop) : Prop := match v with
  | .ref _ => K
  | .null => K
  | .float _ => K
  | _ => False
def jldI (ls : JL) (i : Nat) (K : Int32 → Prop) : Prop := match ls[i]? with
  | some (some (.int x)) => K x
  | _ => False
def jldL (ls : JL) (i : Nat) (K : Int64 → Prop) : Prop := match ls[i]? with
  | some (some (.long x)) => match ls[i + 1]? with
    | some none => K x
    | _ => False
  | _ => False
def jldA (ls : JL) (i : Nat) (K : Value → Prop) : Prop := match ls[i]? with
  | some (some v) => jisr v (K v)
  | _ => False
def jst1 (ls : JL) (i : Nat) (v : Value) (K : JL → Prop) : Prop := if i < ls.length then K (ls.set i (some v)) else False
def jst2 (ls : JL) (i : Nat) (v : Value) (K : JL → Prop) : Prop := if i + 1 < ls.length then K ((ls.set i (some v)).set (i + 1) none) else False
def jpI (st : List Value) (K : Int32 → List Value → Prop) : Prop := match st with
  | .int x :: r => K x r
  | _ => False
def jpL (st : List Value) (K : Int64 → List Value → Prop) : Prop := match st with
  | .long x :: r => K x r
  | _ => False
def jpV (st : List Value) (K : Value → List Value → Prop) : Prop := match st with
  | v :: r => K v r
  | [] => False
def jcat1 (v : Value) (K : Prop) : Prop := match v with
  | .int _ => K
  | .ref _ => K
  | .null => K
  | .float _ => K
  | _ => False
/-- a branch on two ints -/
def jbr (k : Jvm.ClassFile.Cond) (x y : Int32) (A B : Prop) : Prop := match k with
  | .eq => if x = y then A else B
  | .ne => if x = y then B else A
  | .lt => if x < y then A else B
  | .ge => if x < y then B else A
  | .gt => if y < x then A else B
  | .le => if y < x then B else A
def jnul (v : Value) (A B : Prop) : Prop := match v with
  | .null => A
  | .ref _ => B
  | _ => False
/-- a field of an object -/
def jgf (h : JH) (v : Value) (ci k : Nat) (K : Value → Prop) : Prop := match v with
  | .ref a => match h[a]? with
    | some (.inr q) => if q.1 = ci then match q.2[k]? with
        | some w => K w
        | none => False
      else False
    | _ => False
  | _ => False
def jgI (h : JH) (v : Value) (ci k : Nat) (K : Int32 → Prop) : Prop := jgf h v ci k fun w => match w with
  | .int x => K x
  | _ => False
def jgL (h : JH) (v : Value) (ci k : Nat) (K : Int64 → Prop) : Prop := jgf h v ci k fun w => match w with
  | .long x => K x
  | _ => False
def jpf (h : JH) (v : Value) (ci k : Nat) (w : Value) (K : JH → Prop) : Prop := match v with
  | .ref a => match h[a]? with
    | some (.inr q) => if q.1 = ci ∧ k < q.2.length then K (h.set a (.inr (ci, q.2.set k w))) else False
    | _ => False
  | _ => False
/-- arrays -/
def jaI (X : JX) (h : JH) (v : Value) (i : Int32) (K : Int32 → Prop) : Prop := match v with
  | .ref a => match h[a]? with
    | some (.inl (.int, n, .inl f)) => vp_in i n ∧ K (f i.toNatClampNeg)
    | _ => False
  | .float b => match jextI X b with
    | some q => vp_in i q.1 ∧ K (q.2 i.toNatClampNeg)
    | none => False
  | _ => False
def jaB (h : JH) (v : Value) (i : Int32) (K : Int32 → Prop) : Prop := match v with
  | .ref a => match h[a]? with
    | some (.inl (.byte, n, .inl f)) => vp_in i n ∧ K (f i.toNatClampNeg)
    | some (.inl (.boolean, n, .inl f)) => vp_in i n ∧ K (f i.toNatClampNeg)
    | _ => False
  | .float b => match jextB b with
    | some q => vp_in i q.1 ∧ K (q.2 i.toNatClampNeg)
    | none => False
  | _ => False
def jaL (h : JH) (v : Value) (i : Int32) (K : Int64 → Prop) : Prop := match v with
  | .ref a => match h[a]? with
    | some (.inl (.long, n, .inr (.inl f))) => vp_in i n ∧ K (f i.toNatClampNeg)
    | _ => False
  | _ => False
def jaA (h : JH) (v : Value) (i : Int32) (K : Value → Prop) : Prop := match v with
  | .ref a => match h[a]? with
    | some (.inl (.object _, n, .inr (.inr (.inr (.inr f))))) => vp_in i n ∧ K (va_rf (f i.toNatClampNeg))
    | _ => False
  | _ => False
def jwI (h : JH) (v : Value) (i x : Int32) (K : JH → Prop) : Prop := match v with
  | .ref a => match h[a]? with
    | some (.inl (.int, n, .inl f)) => vp_in i n ∧ K (h.set a (.inl (.int, n, .inl (upd f i.toNatClampNeg x))))
    | _ => False
  | _ => False
def jwB (h : JH) (v : Value) (i x : Int32) (K : JH → Prop) : Prop := match v with
  | .ref a => match h[a]? with
    | some (.inl (.byte, n, .inl f)) => vp_in i n ∧ K (h.set a (.inl (.byte, n, .inl (upd f i.toNatClampNeg (vp_nar .byte x)))))
    | some (.inl (.boolean, n, .inl f)) => vp_in i n ∧ K (h.set a (.inl (.boolean, n, .inl (upd f i.toNatClampNeg (vp_nar .boolean x)))))
    | _ => False
  | _ => False
def jwL (h : JH) (v : Value) (i : Int32) (x : Int64) (K : JH → Prop) : Prop := match v with
  | .ref a => match h[a]? with
    | some (.inl (.long, n, .inr (.inl f))) => vp_in i n ∧ K (h.set a (.inl (.long, n, .inr (.inl (vp_updL f i.toNatClampNeg x)))))
    | _ => False
  | _ => False
/-- the class of an object, by its place -/
def jcls (h : JH) (a : Nat) : Option Nat := match h[a]? with
  | some (.inr q) => some q.1
  | _ => none
def jwA (h : JH) (v : Value) (i : Int32) (w : Value) (K : JH → Prop) : Prop := match v with
  | .ref a => match h[a]? with
    | some (.inl (.object C, n, .inr (.inr (.inr (.inr f))))) => match w with
      | .ref b => match jcls h b with
        | some ci => vp_in i n ∧ (vwCl[ci]?.map (·.1)) = some C ∧ K (h.set a (.inl (.object C, n, .inr (.inr (.inr (.inr (va_up f i.toNatClampNeg (some b))))))))
        | none => False
      | _ => False
    | _ => False
  | _ => False
def jaln (X : JX) (h : JH) (v : Value) (K : Int32 → Prop) : Prop := match v with
  | .ref a => match h[a]? with
    | some (.inl q) => K (Int32.ofNat q.2.1)
    | _ => False
  | .float b => match jextI X b with
    | some q => K (Int32.ofNat q.1)
    | none => match jextB b with
      | some q => K (Int32.ofNat q.1)
      | none => False
  | _ => False
/-- a new array of numbers -/
def jdef (t : ArrayType) (n : Nat) : Option JC := match t with
  | .int => some (.inl (.int, n, .inl fun _ => 0))
  | .byte => some (.inl (.byte, n, .inl fun _ => 0))
  | .boolean => some (.inl (.boolean, n, .inl fun _ => 0))
  | .long => some (.inl (.long, n, .inr (.inl fun _ => 0)))
  | _ => none
def jna (M : JM) (t : ArrayType) (n : Int32) (h : JH) (c s : Nat) (K : JH → Nat → Nat → Prop) : Prop := match jdef t n.toNatClampNeg with
  | some q => ¬ n < 0 ∧ n.toNatClampNeg ≤ 60000000 ∧ c + 1 ≤ M.mc ∧ s + n.toNatClampNeg ≤ M.ms ∧ K (h ++ [q]) (c + 1) (s + n.toNatClampNeg)
  | none => False
def jnr (M : JM) (ci : Nat) (n : Int32) (h : JH) (c s : Nat) (K : JH → Nat → Nat → Prop) : Prop := match vwCl[ci]? with
  | some q => ¬ n < 0 ∧ n.toNatClampNeg ≤ 60000000 ∧ c + 1 ≤ M.mc ∧ s + n.toNatClampNeg ≤ M.ms ∧ (ci = 6 ∨ ci = 8 ∨ ci = 10) ∧ K (h ++ [.inl (.object q.1, n.toNatClampNeg, .inr (.inr (.inr (.inr fun _ => none))))]) (c + 1) (s + n.toNatClampNeg)
  | none => False
def jdv (t : FieldType) : Value := match t with
  | .long => .long 0
  | .object _ => .null
  | .array _ => .null
  | _ => .int 0
def jfs0 (ci : Nat) : List Value := (List.range (jnf ci)).map fun k => jdv (jty ci k)
def jno (M : JM) (ci : Nat) (h : JH) (c s : Nat) (K : JH → Nat → Nat → Prop) : Prop := c + 1 ≤ M.mc ∧ s + jnf ci ≤ M.ms ∧ ci < 13 ∧ K (h ++ [.inr (ci, jfs0 ci)]) (c + 1) (s + jnf ci)
/-- calls: what comes back -/
def jrI (r : Option Value) (K : Int32 → Prop) : Prop := match r with
  | some (.int x) => K x
  | _ => False
def jrL (r : Option Value) (K : Int64 → Prop) : Prop := match r with
  | some (.long x) => K x
  | _ => False
def jrA (r : Option Value) (K : Value → Prop) : Prop := match r with
  | some v => jisr v (K v)
  | none => False
def jrN (r : Option Value) (K : Prop) : Prop := match r with
  | none => K
  | some _ => False
def jrv (t : Option FieldType) (r : Option Value) (K : List Value → Prop) : Prop := match t with
  | none => jrN r (K [])
  | some .long => jrL r fun x => K [.long x]
  | some (.object _) => jrA r fun v => K [v]
  | some (.array _) => jrA r fun v => K [v]
  | some _ => jrI r fun x => K [.int x]
def jsum : List Value → Nat
  | [] => 0
  | .long _ :: r => jsum r + 2
  | .double _ :: r => jsum r + 2
  | _ :: r => jsum r + 1
def jrm (M : JM) (M2 : JM) (c s : Nat) (K : Nat → Nat → Prop) : Prop := if M2.mc = 0 ∧ M2.ms = 0 then K c s else c + M2.mc ≤ M.mc ∧ s + M2.ms ≤ M.ms ∧ K (c + M2.mc) (s + M2.ms)
def jcl (call : JCall) (M M2 : JM) (i : Nat) (as : List Value) (rest : List Value) (h : JH) (c s : Nat) (K : List Value → JH → Nat → Nat → Prop) : Prop :=
  if jsum rest ≤ 8 then jrm M M2 c s fun c2 s2 => call i as h fun r h2 => jrv M2.ret r fun vs => K (vs ++ rest) h2 c2 s2 else False
/-- the receiver of a call is an object of the method's class -/
def jrc (h : JH) (v : Value) (ci : Nat) (K : Prop) : Prop := match v with
  | .ref a => match jcls h a with
    | some cj => if cj = ci then K else False
    | none => False
  | .float b => if ci = 13 ∧ 2 ≤ b.toNat ∧ b.toNat < 13 then K else False
  | _ => False
def jcv (call : JCall) (M M2 : JM) (i : Nat) (st : List Value) (h : JH) (c s : Nat) (K : List Value → JH → Nat → Nat → Prop) : Prop :=
  match st.drop M2.np with
  | v :: rest => jrc h v M2.own (jcl call M M2 i (v :: (st.take M2.np).reverse) rest h c s K)
  | [] => False
def jcs (call : JCall) (M M2 : JM) (i : Nat) (st : List Value) (h : JH) (c s : Nat) (K : List Value → JH → Nat → Nat → Prop) : Prop :=
  if M2.np ≤ st.length then jcl call M M2 i (st.take M2.np).reverse (st.drop M2.np) h c s K else False
def jldc (e : JE) (K : Value → Prop) : Prop := match e.1 with
  | 7 => K (.int (Int32.ofInt e.2.2.2))
  | 9 => K (.float (UInt32.ofNat (2 + e.2.1)))
  | _ => False
def jgs (e : JE) (K : Value → Prop) : Prop := match e.1 with
  | 11 => match e.2.1 with
    | 0 => K (.float 1)
    | 1 => K (.int 1)
    | 2 => K (.float 50)
    | _ => False
  | _ => False
def jgt (h : JH) (v : Value) (e : JE) (K : Value → Prop) : Prop := match e.1 with
  | 0 => match jty e.2.1 e.2.2.1 with
    | .long => jgL h v e.2.1 e.2.2.1 fun x => K (.long x)
    | .object _ => jgf h v e.2.1 e.2.2.1 K
    | .array _ => jgf h v e.2.1 e.2.2.1 K
    | _ => jgI h v e.2.1 e.2.2.1 fun x => K (.int x)
  | 12 => match v with
    | .float b => if 2 ≤ b.toNat ∧ b.toNat < 13 then (if e.2.1 = 0 then K (.float (UInt32.ofNat (18 + b.toNat))) else K (.int 0)) else False
    | _ => False
  | _ => False
def jpz (t : FieldType) (w : Value) (K : Prop) : Prop := match t with
  | .int => match w with
    | .int _ => K
    | _ => False
  | .boolean => match w with
    | .int x => (x = 0 ∨ x = 1) ∧ K
    | _ => False
  | .long => match w with
    | .long _ => K
    | _ => False
  | .object _ => jisr w K
  | .array _ => jisr w K
  | _ => False
def jpt (M : JM) (h : JH) (v w : Value) (e : JE) (K : JH → Prop) : Prop := match e.1 with
  | 0 => if (jtT e.2.1 e.2.2.1).2.2.2 = true then (if M.ini = 1 ∧ M.own = e.2.1 then jpz (jty e.2.1 e.2.2.1) w (jpf h v e.2.1 e.2.2.1 w K) else False) else jpz (jty e.2.1 e.2.2.1) w (jpf h v e.2.1 e.2.2.1 w K)
  | _ => False
/-- a table of targets -/
def jtsw (pc : Nat) : Int → List Int → Int32 → Prop → (Nat → Prop) → Prop
  | _, [], _, D, _ => D
  | lo, o :: r, x, D, K => if x = Int32.ofInt lo then K ((pc : Int) + o).toNat else jtsw pc (lo + 1) r x D K
def jlsw (pc : Nat) : List (Int × Int) → Int32 → Prop → (Nat → Prop) → Prop
  | [], _, D, _ => D
  | q :: r, x, D, K => if x = Int32.ofInt q.1 then K ((pc : Int) + q.2).toNat else jlsw pc r x D K
/-- System.arraycopy of ints -/
def jcpy (h : JH) (w : Value) (sp : Int32) (v : Value) (dp n : Int32) (K : JH → Prop) : Prop := match w with
  | .ref a0 => match v with
    | .ref a => match h[a0]? with
      | some (.inl (.int, n0, .inl f)) => match h[a]? with
        | some (.inl (.int, n1, .inl g)) => ¬ sp < 0 ∧ ¬ dp < 0 ∧ ¬ n < 0 ∧ sp.toNatClampNeg + n.toNatClampNeg ≤ n0 ∧ dp.toNatClampNeg + n.toNatClampNeg ≤ n1 ∧ K (h.set a (.inl (.int, n1, .inl (va_cpy f g sp.toNatClampNeg dp.toNatClampNeg n.toNatClampNeg))))
        | _ => False
      | _ => False
    | _ => False
  | _ => False
def jac (h : JH) (st : List Value) (K : List Value → JH → Prop) : Prop := match st with
  | .int n :: .int dp :: v :: .int sp :: w :: rest => if jsum rest ≤ 8 then jcpy h w sp v dp n fun h2 => K rest h2 else False
  | _ => False
/-- what a return asks -/
def jrt (t : Option FieldType) (v : Value) (K : Prop) : Prop := match t with
  | some .boolean => match v with
    | .int x => x &&& 1 = x ∧ K
    | _ => False
  | some .byte => match v with
    | .int x => x.toInt8.toInt32 = x ∧ K
    | _ => False
  | some .char => match v with
    | .int x => x.toUInt32.toUInt16.toUInt32.toInt32 = x ∧ K
    | _ => False
  | some .int => match v with
    | .int _ => K
    | _ => False
  | _ => False
def jins (X : JX) (call : JCall) (M : JM) (Q : JQ) (P : JP) (ins : Instr) (pc : Nat) (ls : JL) (st : List Value) (h : JH) (c s : Nat) (tg kk : Nat) : Prop :=
  match ins with
  | .aload_n n => jldA ls n fun v => P (pc + 1) ls (v :: st) h c s
  | .aload i => jldA ls i fun v => P (pc + 2) ls (v :: st) h c s
  | .iload_n n => jldI ls n fun x => P (pc + 1) ls (.int x :: st) h c s
  | .iload i => jldI ls i fun x => P (pc + 2) ls (.int x :: st) h c s
  | .lload_n n => jldL ls n fun x => P (pc + 1) ls (.long x :: st) h c s
  | .iconst n => P (pc + 1) ls (.int (jcon n kk) :: st) h c s
  | .bipush n => P (pc + 2) ls (.int (jcon n kk) :: st) h c s
  | .sipush n => P (pc + 3) ls (.int (jcon n kk) :: st) h c s
  | .lconst n => P (pc + 1) ls (.long (Int64.ofNat n) :: st) h c s
  | .aconst_null => P (pc + 1) ls (.null :: st) h c s
  | .ldc i => match jcp M.own i with
    | some e => jldc e fun v => P (pc + 2) ls (v :: st) h c s
    | none => False
  | .ldc2_w i => match jcp M.own i with
    | some e => if e.1 = 8 then P (pc + 3) ls (.long (Int64.ofInt e.2.2.2) :: st) h c s else False
    | none => False
  | .istore_n n => jpI st fun x r => jst1 ls n (.int x) fun l2 => P (pc + 1) l2 r h c s
  | .istore i => jpI st fun x r => jst1 ls i (.int x) fun l2 => P (pc + 2) l2 r h c s
  | .lstore_n n => jpL st fun x r => jst2 ls n (.long x) fun l2 => P (pc + 1) l2 r h c s
  | .astore_n n => jpV st fun v r => jisr v (jst1 ls n v fun l2 => P (pc + 1) l2 r h c s)
  | .astore i => jpV st fun v r => jisr v (jst1 ls i v fun l2 => P (pc + 2) l2 r h c s)
  | .iinc i k => jldI ls i fun x => jst1 ls i (.int (x + jcon k kk)) fun l2 => P tg l2 st h c s
  | .iadd => jpI st fun y r => jpI r fun x r => P (pc + 1) ls (.int (x + y) :: r) h c s
  | .isub => jpI st fun y r => jpI r fun x r => P (pc + 1) ls (.int (x - y) :: r) h c s
  | .imul => jpI st fun y r => jpI r fun x r => P (pc + 1) ls (.int (x * y) :: r) h c s
  | .iand => jpI st fun y r => jpI r fun x r => P (pc + 1) ls (.int (x &&& y) :: r) h c s
  | .ior => jpI st fun y r => jpI r fun x r => P (pc + 1) ls (.int (x ||| y) :: r) h c s
  | .ixor => jpI st fun y r => jpI r fun x r => P (pc + 1) ls (.int (x ^^^ y) :: r) h c s
  | .idiv => jpI st fun y r => jpI r fun x r => ¬ y = 0 ∧ P (pc + 1) ls (.int (x / y) :: r) h c s
  | .irem => jpI st fun y r => jpI r fun x r => ¬ y = 0 ∧ P (pc + 1) ls (.int (x - x / y * y) :: r) h c s
  | .ineg => jpI st fun x r => P (pc + 1) ls (.int (-x) :: r) h c s
  | .ishl => jpI st fun y r => jpI r fun x r => P (pc + 1) ls (.int (x <<< (y &&& 31)) :: r) h c s
  | .ishr => jpI st fun y r => jpI r fun x r => P (pc + 1) ls (.int (x >>> (y &&& 31)) :: r) h c s
  | .iushr => jpI st fun y r => jpI r fun x r => P (pc + 1) ls (.int (x.toUInt32 >>> (y.toUInt32 &&& Int32.toUInt32 31)).toInt32 :: r) h c s
  | .ladd => jpL st fun y r => jpL r fun x r => P (pc + 1) ls (.long (x + y) :: r) h c s
  | .lmul => jpL st fun y r => jpL r fun x r => P (pc + 1) ls (.long (x * y) :: r) h c s
  | .lor => jpL st fun y r => jpL r fun x r => P (pc + 1) ls (.long (x ||| y) :: r) h c s
  | .ldiv => jpL st fun y r => jpL r fun x r => ¬ y = 0 ∧ P (pc + 1) ls (.long (x / y) :: r) h c s
  | .lshl => jpI st fun y r => jpL r fun x r => P (pc + 1) ls (.long (x <<< (y.toInt64 &&& 63)) :: r) h c s
  | .lcmp => jpL st fun y r => jpL r fun x r => P (pc + 1) ls (.int (lg_cmp x y) :: r) h c s
  | .i2l => jpI st fun x r => P (pc + 1) ls (.long x.toInt64 :: r) h c s
  | .i2b => jpI st fun x r => P (pc + 1) ls (.int x.toInt8.toInt32 :: r) h c s
  | .i2c => jpI st fun x r => P (pc + 1) ls (.int (x.toUInt32 % 65536).toInt32 :: r) h c s
  | .dup => jpV st fun v r => jcat1 v (P (pc + 1) ls (v :: v :: r) h c s)
  | .dup2 => jpV st fun v r => jpV r fun w r => jcat1 v (jcat1 w (P (pc + 1) ls (v :: w :: v :: w :: r) h c s))
  | .pop => jpV st fun v r => jcat1 v (P (pc + 1) ls r h c s)
  | .goto _ => P tg ls st h c s
  | .if_icmp k _ => jpI st fun y r => jpI r fun x r => jbr k x y (P tg ls r h c s) (P (pc + 3) ls r h c s)
  | .ifCond k _ => jpI st fun x r => jbr k x 0 (P tg ls r h c s) (P (pc + 3) ls r h c s)
  | .ifnull _ => jpV st fun v r => jnul v (P tg ls r h c s) (P (pc + 3) ls r h c s)
  | .ifnonnull _ => jpV st fun v r => jnul v (P (pc + 3) ls r h c s) (P tg ls r h c s)
  | .tableswitch d lo hi os => jpI st fun x r => if hi = lo + os.size - 1 ∧ (0 ≤ (pc : Int) + d ∧ os.toList.all (fun o => decide (0 ≤ (pc : Int) + o)) = true) ∧ (-2147483648 ≤ lo ∧ hi < 2147483648) then jtsw pc lo os.toList x (P ((pc : Int) + d).toNat ls r h c s) (fun t => P t ls r h c s) else False
  | .lookupswitch d ps => jpI st fun x r => if (ps.toList.zip (ps.toList.drop 1)).all (fun (a, next) => a.1 < next.1) = true ∧ (0 ≤ (pc : Int) + d ∧ ps.toList.all (fun q => decide (0 ≤ (pc : Int) + q.2 ∧ -2147483648 ≤ q.1 ∧ q.1 < 2147483648)) = true) then jlsw pc ps.toList x (P ((pc : Int) + d).toNat ls r h c s) (fun t => P t ls r h c s) else False
  | .getfield i => match jcp M.own i with
    | some e => jpV st fun v r => jgt h v e fun w => P (pc + 3) ls (w :: r) h c s
    | none => False
  | .putfield i => match jcp M.own i with
    | some e => jpV st fun w r => jpV r fun v r => jpt M h v w e fun h2 => P (pc + 3) ls r h2 c s
    | none => False
  | .getstatic i => match jcp M.own i with
    | some e => jgs e fun w => P (pc + 3) ls (w :: st) h c s
    | none => False
  | .iaload => jpI st fun i r => jpV r fun v r => jaI X h v i fun x => P (pc + 1) ls (.int x :: r) h c s
  | .baload => jpI st fun i r => jpV r fun v r => jaB h v i fun x => P (pc + 1) ls (.int x :: r) h c s
  | .laload => jpI st fun i r => jpV r fun v r => jaL h v i fun x => P (pc + 1) ls (.long x :: r) h c s
  | .aaload => jpI st fun i r => jpV r fun v r => jaA h v i fun x => P (pc + 1) ls (x :: r) h c s
  | .iastore => jpI st fun x r => jpI r fun i r => jpV r fun v r => jwI h v i x fun h2 => P (pc + 1) ls r h2 c s
  | .bastore => jpI st fun x r => jpI r fun i r => jpV r fun v r => jwB h v i x fun h2 => P (pc + 1) ls r h2 c s
  | .lastore => jpL st fun x r => jpI r fun i r => jpV r fun v r => jwL h v i x fun h2 => P (pc + 1) ls r h2 c s
  | .aastore => jpV st fun w r => jpI r fun i r => jpV r fun v r => jwA h v i w fun h2 => P (pc + 1) ls r h2 c s
  | .arraylength => jpV st fun v r => jaln X h v fun x => P (pc + 1) ls (.int x :: r) h c s
  | .newarray t => jpI st fun n r => jna M t n h c s fun h2 c2 s2 => P (pc + 2) ls (.ref h.length :: r) h2 c2 s2
  | .anewarray i => match jcp M.own i with
    | some e => if e.1 = 10 then jpI st fun n r => jnr M e.2.1 n h c s fun h2 c2 s2 => P (pc + 3) ls (.ref h.length :: r) h2 c2 s2 else False
    | none => False
  | .new i => match jcp M.own i with
    | some e => if e.1 = 10 then jno M e.2.1 h c s fun h2 c2 s2 => P (pc + 3) ls (.ref h.length :: st) h2 c2 s2 else False
    | none => False
  | .invokevirtual i => match jcp M.own i with
    | some e => if e.1 = 1 then match jM e.2.1 with
        | some M2 => jcv call M M2 e.2.1 st h c s fun st2 h2 c2 s2 => P (pc + 3) ls st2 h2 c2 s2
        | none => False
      else False
    | none => False
  | .invokestatic i => match jcp M.own i with
    | some e => if e.1 = 2 then match jM e.2.1 with
        | some M2 => jcs call M M2 e.2.1 st h c s fun st2 h2 c2 s2 => P (pc + 3) ls st2 h2 c2 s2
        | none => False
      else if e.1 = 6 then jac h st fun st2 h2 => P (pc + 3) ls st2 h2 c s else False
    | none => False
  | .invokespecial i => match jcp M.own i with
    | some e => if e.1 = 5 then jpV st fun v r => match v with
        | .ref _ => if jsum r ≤ 8 then P (pc + 3) ls r h c s else False
        | _ => False
      else if e.1 = 3 ∨ e.1 = 4 then match jM e.2.1 with
        | some M2 => jcv call M M2 e.2.1 st h c s fun st2 h2 c2 s2 => P (pc + 3) ls st2 h2 c2 s2
        | none => False
      else False
    | none => False
  | .ireturn => jpV st fun v r => match r with
    | [] => jrt M.ret v (Q (some v) h)
    | _ => False
  | .lreturn => jpL st fun x r => match r with
    | [] => if M.ret = some .long then Q (some (.long x)) h else False
    | _ => False
  | .areturn => jpV st fun v r => match r with
    | [] => match M.ret with
      | some (.object _) => jisr v (Q (some v) h)
      | some (.array _) => jisr v (Q (some v) h)
      | _ => False
    | _ => False
  | .return_ => match st with
    | [] => if M.ret = none then Q none h else False
    | _ => False
  | _ => False
/-- one step -/
def jst (X : JX) (call : JCall) (M : JM) (Q : JQ) (P : JP) : JP := fun pc ls st h c s => match jtw M.code pc with
  | some q => jins X call M Q P q.1 pc ls st h c s q.2.2.1 q.2.2.2
  | none => False
def jsl : List Value → JL
  | [] => []
  | .long x :: r => some (.long x) :: none :: jsl r
  | .double x :: r => some (.double x) :: none :: jsl r
  | v :: r => some v :: jsl r
def jent (M : JM) (as : List Value) : JL := jsl as ++ List.replicate (M.maxL - (jsl as).length) none
/-- to come to an end from here, with Q -/
def jev (X : JX) (call : JCall) (M : JM) (Q : JQ) : JP := fun pc ls st h c s => ∀ P : JP, (∀ pc ls st h c s, jst X call M Q P pc ls st h c s → P pc ls st h c s) → P pc ls st h c s
def jex (X : JX) : Nat → JCall
  | 0 => fun _ _ _ _ => False
  | d + 1 => fun i as h Q => match jM i with
    | some M => if (jsl as).length ≤ M.maxL then jev X (jex X d) M Q 0 (jent M as) [] h 0 0 else False
    | none => False
/-- some steps, with halts -/
def jsg (X : JX) (call : JCall) (M : JM) (Q : JQ) (E : JP) (stops : List Nat) : Nat → JP
  | 0 => E
  | k + 1 => jst X call M Q fun pc ls st h c s => if stops.contains pc then E pc ls st h c s else jsg X call M Q E stops k pc ls st h c s
