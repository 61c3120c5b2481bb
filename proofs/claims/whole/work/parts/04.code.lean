abbrev JR : Type := Option (Instr × Nat × Nat)
abbrev JM : Type := List (List JR) × Nat × Nat × Nat × Nat × Nat × MethodName × ByteArray × Nat × Option FieldType
abbrev JM.code (M : JM) : List (List JR) := M.1
abbrev JM.own (M : JM) : Nat := M.2.1
abbrev JM.mc (M : JM) : Nat := M.2.2.1
abbrev JM.ms (M : JM) : Nat := M.2.2.2.1
abbrev JM.np (M : JM) : Nat := M.2.2.2.2.1
abbrev JM.ini (M : JM) : Nat := M.2.2.2.2.2.1
abbrev JM.y (M : JM) : MethodName := M.2.2.2.2.2.2.1
abbrev JM.bytes (M : JM) : ByteArray := M.2.2.2.2.2.2.2.1
abbrev JM.maxL (M : JM) : Nat := M.2.2.2.2.2.2.2.2.1
abbrev JM.ret (M : JM) : Option FieldType := M.2.2.2.2.2.2.2.2.2
/-- the target of a branch -/
def jtg (pc : Nat) (i : Instr) (t : Nat) : Bool := match i with
  | .goto o => decide ((pc : Int) + o = (t : Int))
  | .if_icmp _ o => decide ((pc : Int) + o = (t : Int))
  | .ifCond _ o => decide ((pc : Int) + o = (t : Int))
  | .ifnull o => decide ((pc : Int) + o = (t : Int))
  | .ifnonnull o => decide ((pc : Int) + o = (t : Int))
  | _ => true
/-- how long an instruction is -/
def jln (i : Instr) (n pc t : Nat) : Bool := match i with
  | .iinc _ _ => (n == 3 || n == 6) && t == pc + n
  | .aload _ | .iload _ | .istore _ | .astore _ | .bipush _ | .ldc _ | .newarray _ => n == 2
  | .sipush _ | .ldc2_w _ | .goto _ | .if_icmp _ _ | .ifCond _ _ | .ifnull _ | .ifnonnull _ | .getfield _ | .putfield _ | .getstatic _ | .anewarray _ | .new _ | .invokevirtual _ | .invokestatic _ | .invokespecial _ => n == 3
  | .tableswitch .. | .lookupswitch .. => true
  | _ => n == 1
def jdRow (b : ByteArray) : Nat → List JR → Bool
  | _, [] => true
  | pc, none :: r => jdRow b (pc + 1) r
  | pc, some q :: r => (decide (decode b pc = .ok (q.1, q.2.1)) && (jtg pc q.1 q.2.2 && jln q.1 q.2.1 pc q.2.2)) && jdRow b (pc + 1) r
def jdOK (b : ByteArray) : Nat → List (List JR) → Bool
  | _, [] => true
  | pc, l :: r => jdRow b pc l && jdOK b (pc + 16) r
theorem jdcons {b : ByteArray} {pc : Nat} {l : List JR} {r : List (List JR)} (h : jdRow b pc l = true) (g : jdOK b (pc + 16) r = true) : jdOK b pc (l :: r) = true := by
  show (jdRow b pc l && jdOK b (pc + 16) r) = true
  rw [h, g]
  rfl
/-- a place of a table of two storeys -/
def jtw {α : Type} (t : List (List (Option α))) (i : Nat) : Option α := match t[i / 16]? with
  | some l => match l[i % 16]? with
    | some r => r
    | none => none
  | none => none

def jc_X11_init : List (List JR) := [[some (.aload_n 0, 1, 0), some (.invokespecial 1, 3, 0), none, none, some (.aload_n 0, 1, 0), some (.new 7, 3, 0), none, none, some (.dup, 1, 0), some (.invokespecial 9, 3, 0), none, none, some (.putfield 10, 3, 0), none, none, some (.aload_n 0, 1, 0)],
  [some (.iconst 4, 1, 0), some (.anewarray 16, 3, 0), none, none, some (.putfield 18, 3, 0), none, none, some (.aload_n 0, 1, 0), some (.new 22, 3, 0), none, none, some (.dup, 1, 0), some (.iconst 2, 1, 0), some (.bipush 10, 2, 0), none, some (.invokespecial 24, 3, 0)],
  [none, none, some (.putfield 27, 3, 0), none, none, some (.aload_n 0, 1, 0), some (.new 31, 3, 0), none, none, some (.dup, 1, 0), some (.invokespecial 33, 3, 0), none, none, some (.putfield 34, 3, 0), none, none],
  [some (.aload_n 0, 1, 0), some (.new 38, 3, 0), none, none, some (.dup, 1, 0), some (.invokespecial 40, 3, 0), none, none, some (.putfield 41, 3, 0), none, none, some (.aload_n 0, 1, 0), some (.new 38, 3, 0), none, none, some (.dup, 1, 0)],
  [some (.invokespecial 40, 3, 0), none, none, some (.putfield 45, 3, 0), none, none, some (.aload_n 0, 1, 0), some (.iconst (-1), 1, 0), some (.putfield 48, 3, 0), none, none, some (.aload_n 0, 1, 0), some (.new 52, 3, 0), none, none, some (.dup, 1, 0)],
  [some (.aload_n 0, 1, 0), some (.getfield 27, 3, 0), none, none, some (.aload_n 0, 1, 0), some (.getfield 10, 3, 0), none, none, some (.invokespecial 54, 3, 0), none, none, some (.putfield 57, 3, 0), none, none, some (.aload_n 0, 1, 0), some (.new 61, 3, 0)],
  [none, none, some (.dup, 1, 0), some (.aload_n 0, 1, 0), some (.getfield 10, 3, 0), none, none, some (.invokespecial 63, 3, 0), none, none, some (.putfield 66, 3, 0), none, none, some (.aload_n 0, 1, 0), some (.new 70, 3, 0), none],
  [none, some (.dup, 1, 0), some (.invokespecial 72, 3, 0), none, none, some (.putfield 73, 3, 0), none, none, some (.aload_n 0, 1, 0), some (.new 77, 3, 0), none, none, some (.dup, 1, 0), some (.invokespecial 79, 3, 0), none, none],
  [some (.putfield 80, 3, 0), none, none, some (.return_, 1, 0)]]
def jm_X11_init : JM := (jc_X11_init, 11, 80, 24767, 0, 1, yX11_init, cX11_init, 1, none)
theorem jd_X11_init : jdOK cX11_init 0 jc_X11_init = true := by decide +kernel
def jc_X3_init : List (List JR) := [[some (.aload_n 0, 1, 0), some (.invokespecial 3, 3, 0), none, none, some (.aload_n 0, 1, 0), some (.sipush 901, 3, 0), none, none, some (.newarray .int, 2, 0), none, some (.putfield 11, 3, 0), none, none, some (.iconst 0, 1, 0), some (.istore_n 1, 1, 0), some (.iload_n 1, 1, 0)],
  [some (.sipush 900, 3, 0), none, none, some (.if_icmp .ge 22, 3, 41), none, none, some (.aload_n 0, 1, 0), some (.getfield 11, 3, 0), none, none, some (.iload_n 1, 1, 0), some (.iload_n 1, 1, 0), some (.bipush 100, 2, 0), none, some (.iadd, 1, 0), some (.invokestatic 15, 3, 0)],
  [none, none, some (.iastore, 1, 0), some (.iinc 1 1, 3, 38), none, none, some (.goto (-23), 3, 15), none, none, some (.aload_n 0, 1, 0), some (.getfield 11, 3, 0), none, none, some (.sipush 900, 3, 0), none, none],
  [some (.sipush 4096, 3, 0), none, none, some (.iastore, 1, 0), some (.aload_n 0, 1, 0), some (.aload_n 0, 1, 0), some (.getfield 11, 3, 0), none, none, some (.iconst 2, 1, 0), some (.invokestatic 19, 3, 0), none, none, some (.putfield 23, 3, 0), none, none],
  [some (.aload_n 0, 1, 0), some (.aload_n 0, 1, 0), some (.getfield 11, 3, 0), none, none, some (.iconst 3, 1, 0), some (.invokestatic 19, 3, 0), none, none, some (.putfield 26, 3, 0), none, none, some (.return_, 1, 0)]]
def jm_X3_init : JM := (jc_X3_init, 3, 3, 6303, 0, 1, yX3_init, cX3_init, 2, none)
theorem jd_X3_init : jdOK cX3_init 0 jc_X3_init = true := by decide +kernel
def jc_X3_logarithm : List (List JR) := [[some (.iload_n 0, 1, 0), some (.i2l, 1, 0), some (.ldc2_w 29, 3, 0), none, none, some (.lmul, 1, 0), some (.lstore_n 1, 1, 0), some (.iconst 0, 1, 0), some (.istore_n 3, 1, 0), some (.iconst 0, 1, 0), some (.istore 4, 2, 0), none, some (.iload 4, 2, 0), none, some (.bipush 12, 2, 0), none],
  [some (.if_icmp .ge 38, 3, 54), none, none, some (.lload_n 1, 1, 0), some (.lload_n 1, 1, 0), some (.lmul, 1, 0), some (.ldc2_w 31, 3, 0), none, none, some (.ldiv, 1, 0), some (.lstore_n 1, 1, 0), some (.iload_n 3, 1, 0), some (.iconst 2, 1, 0), some (.imul, 1, 0), some (.istore_n 3, 1, 0), some (.lload_n 1, 1, 0)],
  [some (.ldc2_w 33, 3, 0), none, none, some (.lcmp, 1, 0), some (.ifCond .lt 12, 3, 48), none, none, some (.lload_n 1, 1, 0), some (.ldc2_w 35, 3, 0), none, none, some (.ldiv, 1, 0), some (.lstore_n 1, 1, 0), some (.iinc 3 1, 3, 48), none, none],
  [some (.iinc 4 1, 3, 51), none, none, some (.goto (-39), 3, 12), none, none, some (.iload_n 3, 1, 0), some (.ireturn, 1, 0)]]
def jm_X3_logarithm : JM := (jc_X3_logarithm, 3, 0, 0, 1, 0, yX3_logarithm, cX3_logarithm, 5, (some .int))
theorem jd_X3_logarithm : jdOK cX3_logarithm 0 jc_X3_logarithm = true := by decide +kernel
def jc_X3_folded : List (List JR) := [[some (.iload_n 1, 1, 0), some (.sipush 900, 3, 0), none, none, some (.imul, 1, 0), some (.iconst 1, 1, 0), some (.iadd, 1, 0), some (.newarray .int, 2, 0), none, some (.astore_n 2, 1, 0), some (.iconst 0, 1, 0), some (.istore_n 3, 1, 0), some (.iload_n 3, 1, 0), some (.aload_n 2, 1, 0), some (.arraylength, 1, 0), some (.if_icmp .ge 31, 3, 46)],
  [none, none, some (.aload_n 2, 1, 0), some (.iload_n 3, 1, 0), some (.aload_n 0, 1, 0), some (.iload_n 3, 1, 0), some (.sipush 900, 3, 0), none, none, some (.irem, 1, 0), some (.iaload, 1, 0), some (.sipush 4096, 3, 0), none, none, some (.iload_n 3, 1, 0), some (.sipush 900, 3, 0)],
  [none, none, some (.idiv, 1, 0), some (.imul, 1, 0), some (.iadd, 1, 0), some (.iload_n 1, 1, 0), some (.idiv, 1, 0), some (.iastore, 1, 0), some (.iinc 3 1, 3, 43), none, none, some (.goto (-31), 3, 12), none, none, some (.aload_n 2, 1, 0), some (.areturn, 1, 0)]]
def jm_X3_folded : JM := (jc_X3_folded, 3, 1, 2701, 2, 0, yX3_folded, cX3_folded, 4, (some (.array .int)))
theorem jd_X3_folded : jdOK cX3_folded 0 jc_X3_folded = true := by decide +kernel
def jc_X2_init : List (List JR) := [[some (.aload_n 0, 1, 0), some (.invokespecial 3, 3, 0), none, none, some (.aload_n 0, 1, 0), some (.iload_n 1, 1, 0), some (.putfield 9, 3, 0), none, none, some (.aload_n 0, 1, 0), some (.iload_n 2, 1, 0), some (.putfield 15, 3, 0), none, none, some (.aload_n 0, 1, 0), some (.iconst (-1), 1, 0)],
  [some (.putfield 18, 3, 0), none, none, some (.return_, 1, 0)]]
def jm_X2_init : JM := (jc_X2_init, 2, 0, 0, 2, 1, yX2_init, cX2_init, 3, none)
theorem jd_X2_init : jdOK cX2_init 0 jc_X2_init = true := by decide +kernel
def jc_X9_init : List (List JR) := [[some (.aload_n 0, 1, 0), some (.invokespecial 3, 3, 0), none, none, some (.aload_n 0, 1, 0), some (.sipush 2000, 3, 0), none, none, some (.newarray .int, 2, 0), none, some (.putfield 11, 3, 0), none, none, some (.aload_n 0, 1, 0), some (.bipush 15, 2, 0), none],
  [some (.newarray .long, 2, 0), none, some (.putfield 15, 3, 0), none, none, some (.aload_n 0, 1, 0), some (.getfield 15, 3, 0), none, none, some (.iconst 4, 1, 0), some (.ldc 19, 2, 0), none, some (.invokestatic 21, 3, 0), none, none, some (.lastore, 1, 0)],
  [some (.aload_n 0, 1, 0), some (.getfield 15, 3, 0), none, none, some (.iconst 5, 1, 0), some (.ldc 25, 2, 0), none, some (.invokestatic 21, 3, 0), none, none, some (.lastore, 1, 0), some (.aload_n 0, 1, 0), some (.getfield 15, 3, 0), none, none, some (.bipush 6, 2, 0)],
  [none, some (.ldc 27, 2, 0), none, some (.invokestatic 21, 3, 0), none, none, some (.lastore, 1, 0), some (.aload_n 0, 1, 0), some (.getfield 15, 3, 0), none, none, some (.bipush 7, 2, 0), none, some (.ldc 29, 2, 0), none, some (.invokestatic 21, 3, 0)],
  [none, none, some (.lastore, 1, 0), some (.aload_n 0, 1, 0), some (.getfield 15, 3, 0), none, none, some (.bipush 8, 2, 0), none, some (.ldc 31, 2, 0), none, some (.invokestatic 21, 3, 0), none, none, some (.lastore, 1, 0), some (.aload_n 0, 1, 0)],
  [some (.getfield 15, 3, 0), none, none, some (.bipush 9, 2, 0), none, some (.ldc 33, 2, 0), none, some (.invokestatic 21, 3, 0), none, none, some (.lastore, 1, 0), some (.aload_n 0, 1, 0), some (.getfield 15, 3, 0), none, none, some (.bipush 10, 2, 0)],
  [none, some (.ldc 35, 2, 0), none, some (.invokestatic 21, 3, 0), none, none, some (.lastore, 1, 0), some (.aload_n 0, 1, 0), some (.getfield 15, 3, 0), none, none, some (.bipush 11, 2, 0), none, some (.ldc 37, 2, 0), none, some (.invokestatic 21, 3, 0)],
  [none, none, some (.lastore, 1, 0), some (.aload_n 0, 1, 0), some (.getfield 15, 3, 0), none, none, some (.bipush 12, 2, 0), none, some (.ldc 39, 2, 0), none, some (.invokestatic 21, 3, 0), none, none, some (.lastore, 1, 0), some (.aload_n 0, 1, 0)],
  [some (.getfield 15, 3, 0), none, none, some (.bipush 13, 2, 0), none, some (.ldc 41, 2, 0), none, some (.invokestatic 21, 3, 0), none, none, some (.lastore, 1, 0), some (.aload_n 0, 1, 0), some (.getfield 15, 3, 0), none, none, some (.bipush 14, 2, 0)],
  [none, some (.ldc 43, 2, 0), none, some (.invokestatic 21, 3, 0), none, none, some (.lastore, 1, 0), some (.return_, 1, 0)]]
def jm_X9_init : JM := (jc_X9_init, 9, 2, 2015, 0, 1, yX9_init, cX9_init, 1, none)
theorem jd_X9_init : jdOK cX9_init 0 jc_X9_init = true := by decide +kernel
def jc_X9_codeOf : List (List JR) := [[some (.lconst 0, 1, 0), some (.lstore_n 1, 1, 0), some (.iconst 0, 1, 0), some (.istore_n 3, 1, 0), some (.iload_n 3, 1, 0), some (.aload_n 0, 1, 0), some (.invokevirtual 45, 3, 0), none, none, some (.if_icmp .ge 19, 3, 28), none, none, some (.lload_n 1, 1, 0), some (.aload_n 0, 1, 0), some (.iload_n 3, 1, 0), some (.invokevirtual 51, 3, 0)],
  [none, none, some (.invokestatic 55, 3, 0), none, none, some (.lstore_n 1, 1, 0), some (.iinc 3 1, 3, 25), none, none, some (.goto (-21), 3, 4), none, none, some (.lload_n 1, 1, 0), some (.lreturn, 1, 0)]]
def jm_X9_codeOf : JM := (jc_X9_codeOf, 9, 0, 0, 1, 0, yX9_codeOf, cX9_codeOf, 4, (some .long))
theorem jd_X9_codeOf : jdOK cX9_codeOf 0 jc_X9_codeOf = true := by decide +kernel
def jc_J0_length_8abf5 : List (List JR) := [[some (.aload_n 0, 1, 0), some (.getfield 9, 3, 0), none, none, some (.arraylength, 1, 0), some (.aload_n 0, 1, 0), some (.invokevirtual 335, 3, 0), none, none, some (.ishr, 1, 0), some (.ireturn, 1, 0)]]
def jm_J0_length_8abf5 : JM := (jc_J0_length_8abf5, 13, 0, 0, 0, 0, yJ0_length_8abf5, cJ0_length_8abf5, 1, (some .int))
theorem jd_J0_length_8abf5 : jdOK cJ0_length_8abf5 0 jc_J0_length_8abf5 = true := by decide +kernel
def jc_J0_coder_7d493 : List (List JR) := [[some (.getstatic 38, 3, 0), none, none, some (.ifCond .eq 10, 3, 13), none, none, some (.aload_n 0, 1, 0), some (.getfield 15, 3, 0), none, none, some (.goto 4, 3, 14), none, none, some (.iconst 1, 1, 0), some (.ireturn, 1, 0)]]
def jm_J0_coder_7d493 : JM := (jc_J0_coder_7d493, 13, 0, 0, 0, 0, yJ0_coder_7d493, cJ0_coder_7d493, 1, (some .byte))
theorem jd_J0_coder_7d493 : jdOK cJ0_coder_7d493 0 jc_J0_coder_7d493 = true := by decide +kernel
def jc_J0_charAt_5068e : List (List JR) := [[some (.aload_n 0, 1, 0), some (.invokevirtual 492, 3, 0), none, none, some (.ifCond .eq 12, 3, 16), none, none, some (.aload_n 0, 1, 0), some (.getfield 9, 3, 0), none, none, some (.iload_n 1, 1, 0), some (.invokestatic 495, 3, 0), none, none, some (.ireturn, 1, 0)],
  [some (.aload_n 0, 1, 0), some (.getfield 9, 3, 0), none, none, some (.iload_n 1, 1, 0), some (.invokestatic 498, 3, 0), none, none, some (.ireturn, 1, 0)]]
def jm_J0_charAt_5068e : JM := (jc_J0_charAt_5068e, 13, 0, 0, 1, 0, yJ0_charAt_5068e, cJ0_charAt_5068e, 2, (some .char))
theorem jd_J0_charAt_5068e : jdOK cJ0_charAt_5068e 0 jc_J0_charAt_5068e = true := by decide +kernel
def jc_J0_isLatin1_aae02 : List (List JR) := [[some (.getstatic 38, 3, 0), none, none, some (.ifCond .eq 14, 3, 17), none, none, some (.aload_n 0, 1, 0), some (.getfield 15, 3, 0), none, none, some (.ifCond .ne 7, 3, 17), none, none, some (.iconst 1, 1, 0), some (.goto 4, 3, 18), none],
  [none, some (.iconst 0, 1, 0), some (.ireturn, 1, 0)]]
def jm_J0_isLatin1_aae02 : JM := (jc_J0_isLatin1_aae02, 13, 0, 0, 0, 0, yJ0_isLatin1_aae02, cJ0_isLatin1_aae02, 1, (some .boolean))
theorem jd_J0_isLatin1_aae02 : jdOK cJ0_isLatin1_aae02 0 jc_J0_isLatin1_aae02 = true := by decide +kernel
def jc_J1_charAt_3b067 : List (List JR) := [[some (.iload_n 1, 1, 0), some (.aload_n 0, 1, 0), some (.arraylength, 1, 0), some (.invokestatic 9, 3, 0), none, none, some (.aload_n 0, 1, 0), some (.iload_n 1, 1, 0), some (.baload, 1, 0), some (.sipush 255, 3, 0), none, none, some (.iand, 1, 0), some (.i2c, 1, 0), some (.ireturn, 1, 0)]]
def jm_J1_charAt_3b067 : JM := (jc_J1_charAt_3b067, 14, 0, 0, 2, 0, yJ1_charAt_3b067, cJ1_charAt_3b067, 2, (some .char))
theorem jd_J1_charAt_3b067 : jdOK cJ1_charAt_3b067 0 jc_J1_charAt_3b067 = true := by decide +kernel
def jc_J0_checkIndex_df160 : List (List JR) := [[some (.iload_n 0, 1, 0), some (.iload_n 1, 1, 0), some (.getstatic 1053, 3, 0), none, none, some (.invokestatic 1059, 3, 0), none, none, some (.pop, 1, 0), some (.return_, 1, 0)]]
def jm_J0_checkIndex_df160 : JM := (jc_J0_checkIndex_df160, 13, 0, 0, 2, 0, yJ0_checkIndex_df160, cJ0_checkIndex_df160, 2, none)
theorem jd_J0_checkIndex_df160 : jdOK cJ0_checkIndex_df160 0 jc_J0_checkIndex_df160 = true := by decide +kernel
def jc_J3_checkIndex_8e157 : List (List JR) := [[some (.iload_n 0, 1, 0), some (.ifCond .lt 8, 3, 9), none, none, some (.iload_n 0, 1, 0), some (.iload_n 1, 1, 0), some (.if_icmp .lt 10, 3, 16), none, none, some (.aload_n 2, 1, 0), some (.iload_n 0, 1, 0), some (.iload_n 1, 1, 0), some (.invokestatic 95, 3, 0), none, none, some (.athrow, 1, 0)],
  [some (.iload_n 0, 1, 0), some (.ireturn, 1, 0)]]
def jm_J3_checkIndex_8e157 : JM := (jc_J3_checkIndex_8e157, 16, 0, 0, 3, 0, yJ3_checkIndex_8e157, cJ3_checkIndex_8e157, 3, (some .int))
theorem jd_J3_checkIndex_8e157 : jdOK cJ3_checkIndex_8e157 0 jc_J3_checkIndex_8e157 = true := by decide +kernel
def jc_J2_charAt_3b067 : List (List JR) := [[some (.iload_n 1, 1, 0), some (.aload_n 0, 1, 0), some (.invokestatic 67, 3, 0), none, none, some (.aload_n 0, 1, 0), some (.iload_n 1, 1, 0), some (.invokestatic 71, 3, 0), none, none, some (.ireturn, 1, 0)]]
def jm_J2_charAt_3b067 : JM := (jc_J2_charAt_3b067, 15, 0, 0, 2, 0, yJ2_charAt_3b067, cJ2_charAt_3b067, 2, (some .char))
theorem jd_J2_charAt_3b067 : jdOK cJ2_charAt_3b067 0 jc_J2_charAt_3b067 = true := by decide +kernel
def jc_J2_checkIndex_2214a : List (List JR) := [[some (.iload_n 0, 1, 0), some (.aload_n 1, 1, 0), some (.invokestatic 48, 3, 0), none, none, some (.invokestatic 414, 3, 0), none, none, some (.return_, 1, 0)]]
def jm_J2_checkIndex_2214a : JM := (jc_J2_checkIndex_2214a, 15, 0, 0, 2, 0, yJ2_checkIndex_2214a, cJ2_checkIndex_2214a, 2, none)
theorem jd_J2_checkIndex_2214a : jdOK cJ2_checkIndex_2214a 0 jc_J2_checkIndex_2214a = true := by decide +kernel
def jc_J2_length_9d52b : List (List JR) := [[some (.aload_n 0, 1, 0), some (.arraylength, 1, 0), some (.iconst 1, 1, 0), some (.ishr, 1, 0), some (.ireturn, 1, 0)]]
def jm_J2_length_9d52b : JM := (jc_J2_length_9d52b, 15, 0, 0, 1, 0, yJ2_length_9d52b, cJ2_length_9d52b, 1, (some .int))
theorem jd_J2_length_9d52b : jdOK cJ2_length_9d52b 0 jc_J2_length_9d52b = true := by decide +kernel
def jc_J2_getChar_3b067 : List (List JR) := [[some (.getstatic 44, 3, 0), none, none, some (.ifCond .ne 25, 3, 28), none, none, some (.iload_n 1, 1, 0), some (.ifCond .lt 11, 3, 18), none, none, some (.iload_n 1, 1, 0), some (.aload_n 0, 1, 0), some (.invokestatic 48, 3, 0), none, none, some (.if_icmp .lt 13, 3, 28)],
  [none, none, some (.new 52, 3, 0), none, none, some (.dup, 1, 0), some (.ldc 54, 2, 0), none, some (.invokespecial 56, 3, 0), none, none, some (.athrow, 1, 0), some (.iload_n 1, 1, 0), some (.iconst 1, 1, 0), some (.ishl, 1, 0), some (.istore_n 1, 1, 0)],
  [some (.aload_n 0, 1, 0), some (.iload_n 1, 1, 0), some (.iinc 1 1, 3, 37), none, none, some (.baload, 1, 0), some (.sipush 255, 3, 0), none, none, some (.iand, 1, 0), some (.getstatic 59, 3, 0), none, none, some (.ishl, 1, 0), some (.aload_n 0, 1, 0), some (.iload_n 1, 1, 0)],
  [some (.baload, 1, 0), some (.sipush 255, 3, 0), none, none, some (.iand, 1, 0), some (.getstatic 63, 3, 0), none, none, some (.ishl, 1, 0), some (.ior, 1, 0), some (.i2c, 1, 0), some (.ireturn, 1, 0)]]
def jm_J2_getChar_3b067 : JM := (jc_J2_getChar_3b067, 15, 0, 0, 2, 0, yJ2_getChar_3b067, cJ2_getChar_3b067, 2, (some .char))
theorem jd_J2_getChar_3b067 : jdOK cJ2_getChar_3b067 0 jc_J2_getChar_3b067 = true := by decide +kernel
def jc_X9_withLetter : List (List JR) := [[some (.lload_n 0, 1, 0), some (.ldc2_w 59, 3, 0), none, none, some (.lmul, 1, 0), some (.iload_n 2, 1, 0), some (.bipush 97, 2, 0), none, some (.isub, 1, 0), some (.iconst 1, 1, 0), some (.iadd, 1, 0), some (.i2l, 1, 0), some (.ladd, 1, 0), some (.lreturn, 1, 0)]]
def jm_X9_withLetter : JM := (jc_X9_withLetter, 9, 0, 0, 2, 0, yX9_withLetter, cX9_withLetter, 3, (some .long))
theorem jd_X9_withLetter : jdOK cX9_withLetter 0 jc_X9_withLetter = true := by decide +kernel
def jc_X5_init : List (List JR) := [[some (.aload_n 0, 1, 0), some (.invokespecial 3, 3, 0), none, none, some (.aload_n 0, 1, 0), some (.sipush 400, 3, 0), none, none, some (.newarray .int, 2, 0), none, some (.putfield 11, 3, 0), none, none, some (.aload_n 0, 1, 0), some (.sipush 400, 3, 0), none],
  [none, some (.newarray .int, 2, 0), none, some (.putfield 15, 3, 0), none, none, some (.aload_n 0, 1, 0), some (.sipush 400, 3, 0), none, none, some (.newarray .int, 2, 0), none, some (.putfield 18, 3, 0), none, none, some (.aload_n 0, 1, 0)],
  [some (.sipush 400, 3, 0), none, none, some (.newarray .int, 2, 0), none, some (.putfield 21, 3, 0), none, none, some (.aload_n 0, 1, 0), some (.bipush 12, 2, 0), none, some (.newarray .long, 2, 0), none, some (.putfield 24, 3, 0), none, none],
  [some (.aload_n 0, 1, 0), some (.bipush 6, 2, 0), none, some (.newarray .int, 2, 0), none, some (.putfield 28, 3, 0), none, none, some (.aload_n 0, 1, 0), some (.iconst (-1), 1, 0), some (.putfield 31, 3, 0), none, none, some (.return_, 1, 0)]]
def jm_X5_init : JM := (jc_X5_init, 5, 6, 1618, 0, 1, yX5_init, cX5_init, 1, none)
theorem jd_X5_init : jdOK cX5_init 0 jc_X5_init = true := by decide +kernel
def jc_X7_init : List (List JR) := [[some (.aload_n 0, 1, 0), some (.invokespecial 3, 3, 0), none, none, some (.aload_n 0, 1, 0), some (.aload_n 1, 1, 0), some (.putfield 9, 3, 0), none, none, some (.aload_n 0, 1, 0), some (.aload_n 2, 1, 0), some (.putfield 15, 3, 0), none, none, some (.aload_n 0, 1, 0), some (.bipush 12, 2, 0)],
  [none, some (.anewarray 21, 3, 0), none, none, some (.putfield 23, 3, 0), none, none, some (.aload_n 0, 1, 0), some (.bipush 12, 2, 0), none, some (.anewarray 21, 3, 0), none, none, some (.putfield 27, 3, 0), none, none],
  [some (.iconst 0, 1, 0), some (.istore_n 3, 1, 0), some (.iload_n 3, 1, 0), some (.bipush 12, 2, 0), none, some (.if_icmp .ge 35, 3, 72), none, none, some (.aload_n 0, 1, 0), some (.getfield 23, 3, 0), none, none, some (.iload_n 3, 1, 0), some (.new 21, 3, 0), none, none],
  [some (.dup, 1, 0), some (.invokespecial 30, 3, 0), none, none, some (.aastore, 1, 0), some (.aload_n 0, 1, 0), some (.getfield 27, 3, 0), none, none, some (.iload_n 3, 1, 0), some (.new 21, 3, 0), none, none, some (.dup, 1, 0), some (.invokespecial 30, 3, 0), none],
  [none, some (.aastore, 1, 0), some (.iinc 3 1, 3, 69), none, none, some (.goto (-35), 3, 34), none, none, some (.aload_n 0, 1, 0), some (.new 21, 3, 0), none, none, some (.dup, 1, 0), some (.invokespecial 30, 3, 0), none, none],
  [some (.putfield 31, 3, 0), none, none, some (.aload_n 0, 1, 0), some (.new 21, 3, 0), none, none, some (.dup, 1, 0), some (.invokespecial 30, 3, 0), none, none, some (.putfield 35, 3, 0), none, none, some (.aload_n 0, 1, 0), some (.new 21, 3, 0)],
  [none, none, some (.dup, 1, 0), some (.invokespecial 30, 3, 0), none, none, some (.putfield 38, 3, 0), none, none, some (.aload_n 0, 1, 0), some (.sipush 400, 3, 0), none, none, some (.newarray .int, 2, 0), none, some (.putfield 41, 3, 0)],
  [none, none, some (.aload_n 0, 1, 0), some (.sipush 400, 3, 0), none, none, some (.newarray .int, 2, 0), none, some (.putfield 45, 3, 0), none, none, some (.aload_n 0, 1, 0), some (.sipush 400, 3, 0), none, none, some (.newarray .int, 2, 0)],
  [none, some (.putfield 48, 3, 0), none, none, some (.aload_n 0, 1, 0), some (.sipush 400, 3, 0), none, none, some (.newarray .boolean, 2, 0), none, some (.putfield 51, 3, 0), none, none, some (.aload_n 0, 1, 0), some (.sipush 400, 3, 0), none],
  [none, some (.newarray .int, 2, 0), none, some (.putfield 55, 3, 0), none, none, some (.aload_n 0, 1, 0), some (.iconst (-1), 1, 0), some (.putfield 58, 3, 0), none, none, some (.return_, 1, 0)]]
def jm_X7_init : JM := (jc_X7_init, 7, 34, 2213, 2, 1, yX7_init, cX7_init, 4, none)
theorem jd_X7_init : jdOK cX7_init 0 jc_X7_init = true := by decide +kernel
def jc_X10_init : List (List JR) := [[some (.aload_n 0, 1, 0), some (.invokespecial 3, 3, 0), none, none, some (.return_, 1, 0)]]
def jm_X10_init : JM := (jc_X10_init, 10, 0, 0, 0, 1, yX10_init, cX10_init, 1, none)
theorem jd_X10_init : jdOK cX10_init 0 jc_X10_init = true := by decide +kernel
def jc_X4_init : List (List JR) := [[some (.aload_n 0, 1, 0), some (.invokespecial 3, 3, 0), none, none, some (.aload_n 0, 1, 0), some (.bipush 7, 2, 0), none, some (.newarray .int, 2, 0), none, some (.putfield 11, 3, 0), none, none, some (.aload_n 0, 1, 0), some (.bipush 7, 2, 0), none, some (.newarray .int, 2, 0)],
  [none, some (.putfield 15, 3, 0), none, none, some (.aload_n 0, 1, 0), some (.bipush 7, 2, 0), none, some (.newarray .boolean, 2, 0), none, some (.putfield 18, 3, 0), none, none, some (.aload_n 0, 1, 0), some (.new 22, 3, 0), none, none],
  [some (.dup, 1, 0), some (.iconst 0, 1, 0), some (.iconst 0, 1, 0), some (.invokespecial 24, 3, 0), none, none, some (.putfield 27, 3, 0), none, none, some (.aload_n 0, 1, 0), some (.new 31, 3, 0), none, none, some (.dup, 1, 0), some (.aload_n 1, 1, 0), some (.iconst 1, 1, 0)],
  [some (.iconst 1, 1, 0), some (.iconst 0, 1, 0), some (.invokespecial 33, 3, 0), none, none, some (.putfield 36, 3, 0), none, none, some (.aload_n 0, 1, 0), some (.new 31, 3, 0), none, none, some (.dup, 1, 0), some (.aload_n 1, 1, 0), some (.iconst 0, 1, 0), some (.iconst 1, 1, 0)],
  [some (.iconst 0, 1, 0), some (.invokespecial 33, 3, 0), none, none, some (.putfield 40, 3, 0), none, none, some (.aload_n 0, 1, 0), some (.bipush 7, 2, 0), none, some (.newarray .int, 2, 0), none, some (.putfield 43, 3, 0), none, none, some (.aload_n 0, 1, 0)],
  [some (.bipush 7, 2, 0), none, some (.newarray .int, 2, 0), none, some (.putfield 46, 3, 0), none, none, some (.return_, 1, 0)]]
def jm_X4_init : JM := (jc_X4_init, 4, 10, 96, 1, 1, yX4_init, cX4_init, 2, none)
theorem jd_X4_init : jdOK cX4_init 0 jc_X4_init = true := by decide +kernel
def jc_X8_init : List (List JR) := [[some (.aload_n 0, 1, 0), some (.invokespecial 3, 3, 0), none, none, some (.aload_n 0, 1, 0), some (.iload_n 2, 1, 0), some (.putfield 9, 3, 0), none, none, some (.aload_n 0, 1, 0), some (.iload_n 3, 1, 0), some (.putfield 15, 3, 0), none, none, some (.aload_n 0, 1, 0), some (.iload 4, 2, 0)],
  [none, some (.putfield 19, 3, 0), none, none, some (.aload_n 0, 1, 0), some (.aload_n 1, 1, 0), some (.iload_n 3, 1, 0), some (.invokevirtual 22, 3, 0), none, none, some (.putfield 28, 3, 0), none, none, some (.aload_n 0, 1, 0), some (.bipush 17, 2, 0), none],
  [some (.newarray .int, 2, 0), none, some (.putfield 32, 3, 0), none, none, some (.return_, 1, 0)]]
def jm_X8_init : JM := (jc_X8_init, 8, 1, 17, 4, 1, yX8_init, cX8_init, 5, none)
theorem jd_X8_init : jdOK cX8_init 0 jc_X8_init = true := by decide +kernel
def jc_X3_placesFor : List (List JR) := [[some (.iload_n 1, 1, 0), some (.iconst 1, 1, 0), some (.if_icmp .ne 8, 3, 10), none, none, some (.aload_n 0, 1, 0), some (.getfield 11, 3, 0), none, none, some (.areturn, 1, 0), some (.iload_n 1, 1, 0), some (.iconst 2, 1, 0), some (.if_icmp .ne 10, 3, 22), none, none, some (.aload_n 0, 1, 0)],
  [some (.getfield 23, 3, 0), none, none, some (.goto 7, 3, 26), none, none, some (.aload_n 0, 1, 0), some (.getfield 26, 3, 0), none, none, some (.areturn, 1, 0)]]
def jm_X3_placesFor : JM := (jc_X3_placesFor, 3, 0, 0, 1, 0, yX3_placesFor, cX3_placesFor, 2, (some (.array .int)))
theorem jd_X3_placesFor : jdOK cX3_placesFor 0 jc_X3_placesFor = true := by decide +kernel
def jc_X1_init : List (List JR) := [[some (.aload_n 0, 1, 0), some (.invokespecial 3, 3, 0), none, none, some (.aload_n 0, 1, 0), some (.iconst 1, 1, 0), some (.putfield 9, 3, 0), none, none, some (.aload_n 0, 1, 0), some (.iconst 1, 1, 0), some (.putfield 15, 3, 0), none, none, some (.aload_n 0, 1, 0), some (.iconst 4, 1, 0)],
  [some (.putfield 18, 3, 0), none, none, some (.aload_n 0, 1, 0), some (.iconst 2, 1, 0), some (.putfield 21, 3, 0), none, none, some (.return_, 1, 0)]]
def jm_X1_init : JM := (jc_X1_init, 1, 0, 0, 0, 1, yX1_init, cX1_init, 1, none)
theorem jd_X1_init : jdOK cX1_init 0 jc_X1_init = true := by decide +kernel
def jc_X0_init : List (List JR) := [[some (.aload_n 0, 1, 0), some (.invokespecial 5, 3, 0), none, none, some (.aload_n 0, 1, 0), some (.bipush 80, 2, 0), none, some (.newarray .int, 2, 0), none, some (.putfield 11, 3, 0), none, none, some (.aload_n 0, 1, 0), some (.bipush 80, 2, 0), none, some (.newarray .int, 2, 0)],
  [none, some (.putfield 15, 3, 0), none, none, some (.aload_n 0, 1, 0), some (.bipush 80, 2, 0), none, some (.newarray .int, 2, 0), none, some (.putfield 18, 3, 0), none, none, some (.aload_n 0, 1, 0), some (.bipush 80, 2, 0), none, some (.newarray .int, 2, 0)],
  [none, some (.putfield 21, 3, 0), none, none, some (.aload_n 0, 1, 0), some (.bipush 80, 2, 0), none, some (.newarray .int, 2, 0), none, some (.putfield 24, 3, 0), none, none, some (.aload_n 0, 1, 0), some (.bipush 80, 2, 0), none, some (.newarray .boolean, 2, 0)],
  [none, some (.putfield 27, 3, 0), none, none, some (.aload_n 0, 1, 0), some (.sipush 5121, 3, 0), none, none, some (.newarray .int, 2, 0), none, some (.putfield 31, 3, 0), none, none, some (.aload_n 0, 1, 0), some (.sipush 5121, 3, 0), none],
  [none, some (.newarray .int, 2, 0), none, some (.putfield 34, 3, 0), none, none, some (.aload_n 0, 1, 0), some (.bipush 80, 2, 0), none, some (.newarray .int, 2, 0), none, some (.putfield 37, 3, 0), none, none, some (.return_, 1, 0)]]
def jm_X0_init : JM := (jc_X0_init, 0, 9, 10802, 0, 1, yX0_init, cX0_init, 1, none)
theorem jd_X0_init : jdOK cX0_init 0 jc_X0_init = true := by decide +kernel
def jc_X12_init_0 : List JR := [some (.aload_n 0, 1, 0), some (.invokespecial 1, 3, 0), none, none, some (.aload_n 0, 1, 0), some (.sipush 2000, 3, 0), none, none, some (.newarray .byte, 2, 0), none, some (.putfield 7, 3, 0), none, none, some (.aload_n 0, 1, 0), some (.iconst (-1), 1, 0), some (.putfield 13, 3, 0)]
theorem jd_X12_init_0 : jdRow cX12_init 0 jc_X12_init_0 = true := by decide +kernel
def jc_X12_init_1 : List JR := [none, none, some (.aload_n 0, 1, 0), some (.iconst 4, 1, 0), some (.newarray .int, 2, 0), none, some (.putfield 17, 3, 0), none, none, some (.aload_n 0, 1, 0), some (.bipush 32, 2, 0), none, some (.newarray .boolean, 2, 0), none, some (.putfield 21, 3, 0), none]
theorem jd_X12_init_1 : jdRow cX12_init 16 jc_X12_init_1 = true := by decide +kernel
def jc_X12_init_2 : List JR := [none, some (.aload_n 0, 1, 0), some (.bipush 32, 2, 0), none, some (.newarray .int, 2, 0), none, some (.putfield 25, 3, 0), none, none, some (.aload_n 0, 1, 0), some (.bipush 32, 2, 0), none, some (.newarray .boolean, 2, 0), none, some (.putfield 28, 3, 0), none]
theorem jd_X12_init_2 : jdRow cX12_init 32 jc_X12_init_2 = true := by decide +kernel
def jc_X12_init_3 : List JR := [none, some (.aload_n 0, 1, 0), some (.sipush 512, 3, 0), none, none, some (.newarray .int, 2, 0), none, some (.putfield 31, 3, 0), none, none, some (.aload_n 0, 1, 0), some (.iconst 2, 1, 0), some (.putfield 34, 3, 0), none, none, some (.aload_n 0, 1, 0)]
theorem jd_X12_init_3 : jdRow cX12_init 48 jc_X12_init_3 = true := by decide +kernel
def jc_X12_init_4 : List JR := [some (.bipush 10, 2, 0), none, some (.putfield 37, 3, 0), none, none, some (.aload_n 0, 1, 0), some (.sipush 1001, 3, 0), none, none, some (.newarray .int, 2, 0), none, some (.putfield 40, 3, 0), none, none, some (.aload_n 0, 1, 0), some (.iconst (-1), 1, 0)]
theorem jd_X12_init_4 : jdRow cX12_init 64 jc_X12_init_4 = true := by decide +kernel
def jc_X12_init_5 : List JR := [some (.putfield 43, 3, 0), none, none, some (.aload_n 0, 1, 0), some (.iconst 3, 1, 0), some (.newarray .int, 2, 0), none, some (.putfield 46, 3, 0), none, none, some (.aload_n 0, 1, 0), some (.iconst 2, 1, 0), some (.newarray .int, 2, 0), none, some (.putfield 49, 3, 0), none]
theorem jd_X12_init_5 : jdRow cX12_init 80 jc_X12_init_5 = true := by decide +kernel
def jc_X12_init_6 : List JR := [none, some (.aload_n 0, 1, 0), some (.sipush 820, 3, 0), none, none, some (.newarray .int, 2, 0), none, some (.putfield 52, 3, 0), none, none, some (.aload_n 0, 1, 0), some (.sipush 820, 3, 0), none, none, some (.newarray .int, 2, 0), none]
theorem jd_X12_init_6 : jdRow cX12_init 96 jc_X12_init_6 = true := by decide +kernel
def jc_X12_init_7 : List JR := [some (.putfield 55, 3, 0), none, none, some (.aload_n 0, 1, 0), some (.sipush 820, 3, 0), none, none, some (.newarray .int, 2, 0), none, some (.putfield 58, 3, 0), none, none, some (.aload_n 0, 1, 0), some (.sipush 820, 3, 0), none, none]
theorem jd_X12_init_7 : jdRow cX12_init 112 jc_X12_init_7 = true := by decide +kernel
def jc_X12_init_8 : List JR := [some (.newarray .int, 2, 0), none, some (.putfield 61, 3, 0), none, none, some (.aload_n 0, 1, 0), some (.sipush 820, 3, 0), none, none, some (.newarray .int, 2, 0), none, some (.putfield 64, 3, 0), none, none, some (.aload_n 0, 1, 0), some (.iconst 2, 1, 0)]
theorem jd_X12_init_8 : jdRow cX12_init 128 jc_X12_init_8 = true := by decide +kernel
def jc_X12_init_9 : List JR := [some (.newarray .int, 2, 0), none, some (.putfield 67, 3, 0), none, none, some (.aload_n 0, 1, 0), some (.sipush 420, 3, 0), none, none, some (.newarray .int, 2, 0), none, some (.putfield 70, 3, 0), none, none, some (.aload_n 0, 1, 0), some (.sipush 420, 3, 0)]
theorem jd_X12_init_9 : jdRow cX12_init 144 jc_X12_init_9 = true := by decide +kernel
def jc_X12_init_10 : List JR := [none, none, some (.newarray .int, 2, 0), none, some (.putfield 73, 3, 0), none, none, some (.aload_n 0, 1, 0), some (.sipush 420, 3, 0), none, none, some (.newarray .int, 2, 0), none, some (.putfield 76, 3, 0), none, none]
theorem jd_X12_init_10 : jdRow cX12_init 160 jc_X12_init_10 = true := by decide +kernel
def jc_X12_init_11 : List JR := [some (.aload_n 0, 1, 0), some (.sipush 420, 3, 0), none, none, some (.newarray .int, 2, 0), none, some (.putfield 79, 3, 0), none, none, some (.aload_n 0, 1, 0), some (.sipush 420, 3, 0), none, none, some (.newarray .int, 2, 0), none, some (.putfield 82, 3, 0)]
theorem jd_X12_init_11 : jdRow cX12_init 176 jc_X12_init_11 = true := by decide +kernel
def jc_X12_init_12 : List JR := [none, none, some (.aload_n 0, 1, 0), some (.iconst 2, 1, 0), some (.newarray .int, 2, 0), none, some (.putfield 85, 3, 0), none, none, some (.aload_n 0, 1, 0), some (.bipush 24, 2, 0), none, some (.newarray .long, 2, 0), none, some (.putfield 88, 3, 0), none]
theorem jd_X12_init_12 : jdRow cX12_init 192 jc_X12_init_12 = true := by decide +kernel
def jc_X12_init_13 : List JR := [none, some (.aload_n 0, 1, 0), some (.bipush 12, 2, 0), none, some (.newarray .boolean, 2, 0), none, some (.putfield 92, 3, 0), none, none, some (.aload_n 0, 1, 0), some (.bipush 6, 2, 0), none, some (.newarray .int, 2, 0), none, some (.putfield 95, 3, 0), none]
theorem jd_X12_init_13 : jdRow cX12_init 208 jc_X12_init_13 = true := by decide +kernel
def jc_X12_init_14 : List JR := [none, some (.aload_n 0, 1, 0), some (.bipush 6, 2, 0), none, some (.newarray .int, 2, 0), none, some (.putfield 98, 3, 0), none, none, some (.aload_n 0, 1, 0), some (.bipush 12, 2, 0), none, some (.newarray .boolean, 2, 0), none, some (.putfield 101, 3, 0), none]
theorem jd_X12_init_14 : jdRow cX12_init 224 jc_X12_init_14 = true := by decide +kernel
def jc_X12_init_15 : List JR := [none, some (.aload_n 0, 1, 0), some (.bipush 72, 2, 0), none, some (.newarray .int, 2, 0), none, some (.putfield 104, 3, 0), none, none, some (.aload_n 0, 1, 0), some (.bipush 12, 2, 0), none, some (.newarray .boolean, 2, 0), none, some (.putfield 107, 3, 0), none]
theorem jd_X12_init_15 : jdRow cX12_init 240 jc_X12_init_15 = true := by decide +kernel
def jc_X12_init_16 : List JR := [none, some (.aload_n 0, 1, 0), some (.bipush 72, 2, 0), none, some (.newarray .int, 2, 0), none, some (.putfield 110, 3, 0), none, none, some (.aload_n 0, 1, 0), some (.sipush 1260, 3, 0), none, none, some (.newarray .int, 2, 0), none, some (.putfield 113, 3, 0)]
theorem jd_X12_init_16 : jdRow cX12_init 256 jc_X12_init_16 = true := by decide +kernel
def jc_X12_init_17 : List JR := [none, none, some (.aload_n 0, 1, 0), some (.iconst (-1), 1, 0), some (.putfield 116, 3, 0), none, none, some (.aload_n 0, 1, 0), some (.bipush 6, 2, 0), none, some (.newarray .int, 2, 0), none, some (.putfield 119, 3, 0), none, none, some (.aload_n 0, 1, 0)]
theorem jd_X12_init_17 : jdRow cX12_init 272 jc_X12_init_17 = true := by decide +kernel
def jc_X12_init_18 : List JR := [some (.bipush 7, 2, 0), none, some (.newarray .int, 2, 0), none, some (.putfield 122, 3, 0), none, none, some (.aload_n 0, 1, 0), some (.bipush 7, 2, 0), none, some (.newarray .int, 2, 0), none, some (.putfield 125, 3, 0), none, none, some (.aload_n 0, 1, 0)]
theorem jd_X12_init_18 : jdRow cX12_init 288 jc_X12_init_18 = true := by decide +kernel
def jc_X12_init_19 : List JR := [some (.bipush 7, 2, 0), none, some (.newarray .boolean, 2, 0), none, some (.putfield 128, 3, 0), none, none, some (.aload_n 0, 1, 0), some (.bipush 7, 2, 0), none, some (.newarray .int, 2, 0), none, some (.putfield 131, 3, 0), none, none, some (.aload_n 0, 1, 0)]
theorem jd_X12_init_19 : jdRow cX12_init 304 jc_X12_init_19 = true := by decide +kernel
def jc_X12_init_20 : List JR := [some (.bipush 7, 2, 0), none, some (.newarray .int, 2, 0), none, some (.putfield 134, 3, 0), none, none, some (.aload_n 0, 1, 0), some (.iconst 1, 1, 0), some (.putfield 137, 3, 0), none, none, some (.aload_n 0, 1, 0), some (.iconst 1, 1, 0), some (.putfield 140, 3, 0), none]
theorem jd_X12_init_20 : jdRow cX12_init 320 jc_X12_init_20 = true := by decide +kernel
def jc_X12_init_21 : List JR := [none, some (.aload_n 0, 1, 0), some (.iconst 4, 1, 0), some (.putfield 143, 3, 0), none, none, some (.aload_n 0, 1, 0), some (.iconst 2, 1, 0), some (.putfield 146, 3, 0), none, none, some (.aload_n 0, 1, 0), some (.bipush 80, 2, 0), none, some (.newarray .int, 2, 0), none]
theorem jd_X12_init_21 : jdRow cX12_init 336 jc_X12_init_21 = true := by decide +kernel
def jc_X12_init_22 : List JR := [some (.putfield 149, 3, 0), none, none, some (.aload_n 0, 1, 0), some (.bipush 80, 2, 0), none, some (.newarray .int, 2, 0), none, some (.putfield 152, 3, 0), none, none, some (.aload_n 0, 1, 0), some (.bipush 80, 2, 0), none, some (.newarray .int, 2, 0), none]
theorem jd_X12_init_22 : jdRow cX12_init 352 jc_X12_init_22 = true := by decide +kernel
def jc_X12_init_23 : List JR := [some (.putfield 155, 3, 0), none, none, some (.aload_n 0, 1, 0), some (.bipush 80, 2, 0), none, some (.newarray .int, 2, 0), none, some (.putfield 158, 3, 0), none, none, some (.aload_n 0, 1, 0), some (.bipush 80, 2, 0), none, some (.newarray .int, 2, 0), none]
theorem jd_X12_init_23 : jdRow cX12_init 368 jc_X12_init_23 = true := by decide +kernel
def jc_X12_init_24 : List JR := [some (.putfield 161, 3, 0), none, none, some (.aload_n 0, 1, 0), some (.bipush 80, 2, 0), none, some (.newarray .int, 2, 0), none, some (.putfield 164, 3, 0), none, none, some (.aload_n 0, 1, 0), some (.bipush 80, 2, 0), none, some (.newarray .int, 2, 0), none]
theorem jd_X12_init_24 : jdRow cX12_init 384 jc_X12_init_24 = true := by decide +kernel
def jc_X12_init_25 : List JR := [some (.putfield 167, 3, 0), none, none, some (.aload_n 0, 1, 0), some (.bipush 80, 2, 0), none, some (.newarray .boolean, 2, 0), none, some (.putfield 170, 3, 0), none, none, some (.bipush 100, 2, 0), none, some (.istore_n 1, 1, 0), some (.iload_n 1, 1, 0), some (.sipush 1000, 3, 0)]
theorem jd_X12_init_25 : jdRow cX12_init 400 jc_X12_init_25 = true := by decide +kernel
def jc_X12_init_26 : List JR := [none, none, some (.if_icmp .ge 74, 3, 492), none, none, some (.iload_n 1, 1, 0), some (.i2l, 1, 0), some (.ldc2_w 173, 3, 0), none, none, some (.lmul, 1, 0), some (.lstore_n 2, 1, 0), some (.iconst 0, 1, 0), some (.istore 4, 2, 0), none, some (.iconst 0, 1, 0)]
theorem jd_X12_init_26 : jdRow cX12_init 416 jc_X12_init_26 = true := by decide +kernel
def jc_X12_init_27 : List JR := [some (.istore 5, 2, 0), none, some (.iload 5, 2, 0), none, some (.bipush 12, 2, 0), none, some (.if_icmp .ge 40, 3, 478), none, none, some (.lload_n 2, 1, 0), some (.lload_n 2, 1, 0), some (.lmul, 1, 0), some (.ldc2_w 175, 3, 0), none, none, some (.ldiv, 1, 0)]
theorem jd_X12_init_27 : jdRow cX12_init 432 jc_X12_init_27 = true := by decide +kernel
def jc_X12_init_28 : List JR := [some (.lstore_n 2, 1, 0), some (.iconst 2, 1, 0), some (.iload 4, 2, 0), none, some (.imul, 1, 0), some (.istore 4, 2, 0), none, some (.lload_n 2, 1, 0), some (.ldc2_w 177, 3, 0), none, none, some (.lcmp, 1, 0), some (.ifCond .lt 12, 3, 472), none, none, some (.lload_n 2, 1, 0)]
theorem jd_X12_init_28 : jdRow cX12_init 448 jc_X12_init_28 = true := by decide +kernel
def jc_X12_init_29 : List JR := [some (.ldc2_w 179, 3, 0), none, none, some (.ldiv, 1, 0), some (.lstore_n 2, 1, 0), some (.iinc 4 1, 3, 472), none, none, some (.iinc 5 1, 3, 475), none, none, some (.goto (-41), 3, 434), none, none, some (.aload_n 0, 1, 0), some (.getfield 40, 3, 0)]
theorem jd_X12_init_29 : jdRow cX12_init 464 jc_X12_init_29 = true := by decide +kernel
def jc_X12_init_30 : List JR := [none, none, some (.iload_n 1, 1, 0), some (.iload 4, 2, 0), none, some (.iastore, 1, 0), some (.iinc 1 1, 3, 489), none, none, some (.goto (-75), 3, 414), none, none, some (.aload_n 0, 1, 0), some (.getfield 40, 3, 0), none, none]
theorem jd_X12_init_30 : jdRow cX12_init 480 jc_X12_init_30 = true := by decide +kernel
def jc_X12_init_31 : List JR := [some (.sipush 1000, 3, 0), none, none, some (.sipush 4096, 3, 0), none, none, some (.iastore, 1, 0), some (.return_, 1, 0)]
theorem jd_X12_init_31 : jdRow cX12_init 496 jc_X12_init_31 = true := by decide +kernel
def jc_X12_init : List (List JR) := [jc_X12_init_0, jc_X12_init_1, jc_X12_init_2, jc_X12_init_3, jc_X12_init_4, jc_X12_init_5, jc_X12_init_6, jc_X12_init_7, jc_X12_init_8, jc_X12_init_9, jc_X12_init_10, jc_X12_init_11, jc_X12_init_12, jc_X12_init_13, jc_X12_init_14, jc_X12_init_15, jc_X12_init_16, jc_X12_init_17, jc_X12_init_18, jc_X12_init_19, jc_X12_init_20, jc_X12_init_21, jc_X12_init_22, jc_X12_init_23, jc_X12_init_24, jc_X12_init_25, jc_X12_init_26, jc_X12_init_27, jc_X12_init_28, jc_X12_init_29, jc_X12_init_30, jc_X12_init_31]
def jm_X12_init : JM := (jc_X12_init, 12, 44, 11979, 0, 1, yX12_init, cX12_init, 6, none)
theorem jd_X12_init : jdOK cX12_init 0 jc_X12_init = true := jdcons jd_X12_init_0 (jdcons jd_X12_init_1 (jdcons jd_X12_init_2 (jdcons jd_X12_init_3 (jdcons jd_X12_init_4 (jdcons jd_X12_init_5 (jdcons jd_X12_init_6 (jdcons jd_X12_init_7 (jdcons jd_X12_init_8 (jdcons jd_X12_init_9 (jdcons jd_X12_init_10 (jdcons jd_X12_init_11 (jdcons jd_X12_init_12 (jdcons jd_X12_init_13 (jdcons jd_X12_init_14 (jdcons jd_X12_init_15 (jdcons jd_X12_init_16 (jdcons jd_X12_init_17 (jdcons jd_X12_init_18 (jdcons jd_X12_init_19 (jdcons jd_X12_init_20 (jdcons jd_X12_init_21 (jdcons jd_X12_init_22 (jdcons jd_X12_init_23 (jdcons jd_X12_init_24 (jdcons jd_X12_init_25 (jdcons jd_X12_init_26 (jdcons jd_X12_init_27 (jdcons jd_X12_init_28 (jdcons jd_X12_init_29 (jdcons jd_X12_init_30 (jdcons jd_X12_init_31 (rfl))))))))))))))))))))))))))))))))
def jc_X11_feed : List (List JR) := [[some (.aload_n 0, 1, 0), some (.getfield 34, 3, 0), none, none, some (.bipush 20, 2, 0), none, some (.invokevirtual 84, 3, 0), none, none, some (.ifCond .ne 5, 3, 14), none, none, some (.iconst (-1), 1, 0), some (.ireturn, 1, 0), some (.aload_n 0, 1, 0), some (.getfield 34, 3, 0)],
  [none, none, some (.iload_n 1, 1, 0), some (.invokevirtual 88, 3, 0), none, none, some (.aload_n 0, 1, 0), some (.getfield 34, 3, 0), none, none, some (.iload_n 2, 1, 0), some (.invokevirtual 88, 3, 0), none, none, some (.aload_n 0, 1, 0), some (.getfield 34, 3, 0)],
  [none, none, some (.iload_n 3, 1, 0), some (.invokevirtual 88, 3, 0), none, none, some (.aload_n 0, 1, 0), some (.getfield 34, 3, 0), none, none, some (.iload 4, 2, 0), none, some (.invokevirtual 88, 3, 0), none, none, some (.aload_n 0, 1, 0)],
  [some (.getfield 34, 3, 0), none, none, some (.iload 5, 2, 0), none, some (.invokevirtual 88, 3, 0), none, none, some (.aload_n 0, 1, 0), some (.getfield 34, 3, 0), none, none, some (.getfield 92, 3, 0), none, none, some (.ireturn, 1, 0)]]
def jm_X11_feed : JM := (jc_X11_feed, 11, 0, 0, 5, 0, yX11_feed, cX11_feed, 6, (some .int))
theorem jd_X11_feed : jdOK cX11_feed 0 jc_X11_feed = true := by decide +kernel
def jc_X9_hasRoomFor : List (List JR) := [[some (.aload_n 0, 1, 0), some (.getfield 61, 3, 0), none, none, some (.iload_n 1, 1, 0), some (.iadd, 1, 0), some (.sipush 2000, 3, 0), none, none, some (.if_icmp .gt 7, 3, 16), none, none, some (.iconst 1, 1, 0), some (.goto 4, 3, 17), none, none],
  [some (.iconst 0, 1, 0), some (.ireturn, 1, 0)]]
def jm_X9_hasRoomFor : JM := (jc_X9_hasRoomFor, 9, 0, 0, 1, 0, yX9_hasRoomFor, cX9_hasRoomFor, 2, (some .boolean))
theorem jd_X9_hasRoomFor : jdOK cX9_hasRoomFor 0 jc_X9_hasRoomFor = true := by decide +kernel
def jc_X9_append : List (List JR) := [[some (.bipush 24, 2, 0), none, some (.istore_n 2, 1, 0), some (.iload_n 2, 1, 0), some (.ifCond .lt 54, 3, 58), none, none, some (.aload_n 0, 1, 0), some (.getfield 61, 3, 0), none, none, some (.ifCond .lt 41, 3, 52), none, none, some (.aload_n 0, 1, 0), some (.getfield 61, 3, 0)],
  [none, none, some (.aload_n 0, 1, 0), some (.getfield 11, 3, 0), none, none, some (.arraylength, 1, 0), some (.if_icmp .ge 29, 3, 52), none, none, some (.aload_n 0, 1, 0), some (.getfield 11, 3, 0), none, none, some (.aload_n 0, 1, 0), some (.getfield 61, 3, 0)],
  [none, none, some (.iload_n 1, 1, 0), some (.iload_n 2, 1, 0), some (.ishr, 1, 0), some (.sipush 255, 3, 0), none, none, some (.iand, 1, 0), some (.iastore, 1, 0), some (.aload_n 0, 1, 0), some (.dup, 1, 0), some (.getfield 61, 3, 0), none, none, some (.iconst 1, 1, 0)],
  [some (.iadd, 1, 0), some (.putfield 61, 3, 0), none, none, some (.iinc 2 (-8), 3, 55), none, none, some (.goto (-52), 3, 3), none, none, some (.return_, 1, 0)]]
def jm_X9_append : JM := (jc_X9_append, 9, 0, 0, 1, 0, yX9_append, cX9_append, 3, none)
theorem jd_X9_append : jdOK cX9_append 0 jc_X9_append = true := by decide +kernel
def jc_X12_feed : List (List JR) := [[some (.aload_n 0, 1, 0), some (.getfield 181, 3, 0), none, none, some (.bipush 20, 2, 0), none, some (.iadd, 1, 0), some (.sipush 2000, 3, 0), none, none, some (.if_icmp .le 5, 3, 15), none, none, some (.iconst (-1), 1, 0), some (.ireturn, 1, 0), some (.aload_n 0, 1, 0)],
  [some (.iload_n 1, 1, 0), some (.invokevirtual 184, 3, 0), none, none, some (.aload_n 0, 1, 0), some (.iload_n 2, 1, 0), some (.invokevirtual 184, 3, 0), none, none, some (.aload_n 0, 1, 0), some (.iload_n 3, 1, 0), some (.invokevirtual 184, 3, 0), none, none, some (.aload_n 0, 1, 0), some (.iload 4, 2, 0)],
  [none, some (.invokevirtual 184, 3, 0), none, none, some (.aload_n 0, 1, 0), some (.iload 5, 2, 0), none, some (.invokevirtual 184, 3, 0), none, none, some (.aload_n 0, 1, 0), some (.getfield 181, 3, 0), none, none, some (.ireturn, 1, 0)]]
def jm_X12_feed : JM := (jc_X12_feed, 12, 0, 0, 5, 0, yX12_feed, cX12_feed, 6, (some .int))
theorem jd_X12_feed : jdOK cX12_feed 0 jc_X12_feed = true := by decide +kernel
def jc_X12_byteRow : List (List JR) := [[some (.iconst 3, 1, 0), some (.istore_n 2, 1, 0), some (.iload_n 2, 1, 0), some (.ifCond .lt 35, 3, 38), none, none, some (.aload_n 0, 1, 0), some (.getfield 7, 3, 0), none, none, some (.aload_n 0, 1, 0), some (.getfield 181, 3, 0), none, none, some (.iload_n 1, 1, 0), some (.bipush 8, 2, 0)],
  [none, some (.iload_n 2, 1, 0), some (.imul, 1, 0), some (.iushr, 1, 0), some (.i2b, 1, 0), some (.bastore, 1, 0), some (.aload_n 0, 1, 0), some (.dup, 1, 0), some (.getfield 181, 3, 0), none, none, some (.iconst 1, 1, 0), some (.iadd, 1, 0), some (.putfield 181, 3, 0), none, none],
  [some (.iinc 2 (-1), 3, 35), none, none, some (.goto (-33), 3, 2), none, none, some (.return_, 1, 0)]]
def jm_X12_byteRow : JM := (jc_X12_byteRow, 12, 0, 0, 1, 0, yX12_byteRow, cX12_byteRow, 3, none)
theorem jd_X12_byteRow : jdOK cX12_byteRow 0 jc_X12_byteRow = true := by decide +kernel
def jc_X11_back : List (List JR) := [[some (.iload_n 1, 1, 0), some (.ifCond .lt 14, 3, 15), none, none, some (.iload_n 1, 1, 0), some (.aload_n 0, 1, 0), some (.getfield 34, 3, 0), none, none, some (.getfield 92, 3, 0), none, none, some (.if_icmp .le 5, 3, 17), none, none, some (.iconst (-1), 1, 0)],
  [some (.ireturn, 1, 0), some (.aload_n 0, 1, 0), some (.getfield 34, 3, 0), none, none, some (.dup, 1, 0), some (.getfield 92, 3, 0), none, none, some (.iload_n 1, 1, 0), some (.isub, 1, 0), some (.putfield 92, 3, 0), none, none, some (.aload_n 0, 1, 0), some (.getfield 34, 3, 0)],
  [none, none, some (.getfield 92, 3, 0), none, none, some (.ireturn, 1, 0)]]
def jm_X11_back : JM := (jc_X11_back, 11, 0, 0, 1, 0, yX11_back, cX11_back, 2, (some .int))
theorem jd_X11_back : jdOK cX11_back 0 jc_X11_back = true := by decide +kernel
def jc_X12_back : List (List JR) := [[some (.iload_n 1, 1, 0), some (.ifCond .lt 11, 3, 12), none, none, some (.iload_n 1, 1, 0), some (.aload_n 0, 1, 0), some (.getfield 181, 3, 0), none, none, some (.if_icmp .le 5, 3, 14), none, none, some (.iconst (-1), 1, 0), some (.ireturn, 1, 0), some (.aload_n 0, 1, 0), some (.dup, 1, 0)],
  [some (.getfield 181, 3, 0), none, none, some (.iload_n 1, 1, 0), some (.isub, 1, 0), some (.putfield 181, 3, 0), none, none, some (.aload_n 0, 1, 0), some (.getfield 181, 3, 0), none, none, some (.ireturn, 1, 0)]]
def jm_X12_back : JM := (jc_X12_back, 12, 0, 0, 1, 0, yX12_back, cX12_back, 2, (some .int))
theorem jd_X12_back : jdOK cX12_back 0 jc_X12_back = true := by decide +kernel
def jc_X11_read : List (List JR) := [[some (.aload_n 0, 1, 0), some (.getfield 45, 3, 0), none, none, some (.aload_n 0, 1, 0), some (.getfield 34, 3, 0), none, none, some (.invokevirtual 95, 3, 0), none, none, some (.aload_n 0, 1, 0), some (.getfield 34, 3, 0), none, none, some (.iconst 0, 1, 0)],
  [some (.putfield 92, 3, 0), none, none, some (.aload_n 0, 1, 0), some (.aload_n 0, 1, 0), some (.getfield 45, 3, 0), none, none, some (.getfield 99, 3, 0), none, none, some (.putfield 48, 3, 0), none, none, some (.aload_n 0, 1, 0), some (.getfield 45, 3, 0)],
  [none, none, some (.getfield 100, 3, 0), none, none, some (.ifCond .eq 11, 3, 48), none, none, some (.aload_n 0, 1, 0), some (.getfield 45, 3, 0), none, none, some (.getfield 100, 3, 0), none, none, some (.ireturn, 1, 0)],
  [some (.aload_n 0, 1, 0), some (.getfield 41, 3, 0), none, none, some (.astore_n 1, 1, 0), some (.aload_n 0, 1, 0), some (.aload_n 0, 1, 0), some (.getfield 45, 3, 0), none, none, some (.putfield 41, 3, 0), none, none, some (.aload_n 0, 1, 0), some (.aload_n 1, 1, 0), some (.putfield 45, 3, 0)],
  [none, none, some (.aload_n 0, 1, 0), some (.getfield 57, 3, 0), none, none, some (.invokevirtual 103, 3, 0), none, none, some (.iconst 0, 1, 0), some (.ireturn, 1, 0)]]
def jm_X11_read : JM := (jc_X11_read, 11, 0, 0, 0, 0, yX11_read, cX11_read, 2, (some .int))
theorem jd_X11_read : jdOK cX11_read 0 jc_X11_read = true := by decide +kernel
def jc_X5_readFrom : List (List JR) := [[some (.aload_n 0, 1, 0), some (.iconst 0, 1, 0), some (.putfield 35, 3, 0), none, none, some (.aload_n 0, 1, 0), some (.iconst 0, 1, 0), some (.putfield 47, 3, 0), none, none, some (.aload_n 0, 1, 0), some (.iconst 1, 1, 0), some (.putfield 50, 3, 0), none, none, some (.aload_n 0, 1, 0)],
  [some (.iconst 0, 1, 0), some (.putfield 53, 3, 0), none, none, some (.aload_n 0, 1, 0), some (.iconst 0, 1, 0), some (.putfield 56, 3, 0), none, none, some (.aload_n 0, 1, 0), some (.iconst 0, 1, 0), some (.putfield 44, 3, 0), none, none, some (.aload_n 0, 1, 0), some (.iconst (-1), 1, 0)],
  [some (.putfield 31, 3, 0), none, none, some (.aload_n 1, 1, 0), some (.invokevirtual 59, 3, 0), none, none, some (.aload_n 1, 1, 0), some (.invokevirtual 62, 3, 0), none, none, some (.istore_n 2, 1, 0), some (.iconst 0, 1, 0), some (.istore_n 3, 1, 0), some (.iload_n 3, 1, 0), some (.sipush 2000, 3, 0)],
  [none, none, some (.if_icmp .ge 32, 3, 82), none, none, some (.iload_n 2, 1, 0), some (.iconst 1, 1, 0), some (.if_icmp .eq 27, 3, 82), none, none, some (.aload_n 0, 1, 0), some (.getfield 44, 3, 0), none, none, some (.ifCond .ne 20, 3, 82), none],
  [none, some (.aload_n 0, 1, 0), some (.aload_n 1, 1, 0), some (.iload_n 2, 1, 0), some (.invokevirtual 66, 3, 0), none, none, some (.aload_n 1, 1, 0), some (.invokevirtual 62, 3, 0), none, none, some (.istore_n 2, 1, 0), some (.iinc 3 1, 3, 79), none, none, some (.goto (-33), 3, 46)],
  [none, none, some (.aload_n 0, 1, 0), some (.getfield 50, 3, 0), none, none, some (.iconst 1, 1, 0), some (.if_icmp .ne 10, 3, 97), none, none, some (.aload_n 0, 1, 0), some (.getfield 53, 3, 0), none, none, some (.ifCond .le 12, 3, 106), none],
  [none, some (.aload_n 0, 1, 0), some (.iconst 1, 1, 0), some (.aload_n 1, 1, 0), some (.getfield 70, 3, 0), none, none, some (.invokevirtual 73, 3, 0), none, none, some (.aload_n 0, 1, 0), some (.getfield 44, 3, 0), none, none, some (.ifCond .ne 7, 3, 117), none],
  [none, some (.aload_n 0, 1, 0), some (.invokevirtual 77, 3, 0), none, none, some (.return_, 1, 0)]]
def jm_X5_readFrom : JM := (jc_X5_readFrom, 5, 0, 0, 1, 0, yX5_readFrom, cX5_readFrom, 4, none)
theorem jd_X5_readFrom : jdOK cX5_readFrom 0 jc_X5_readFrom = true := by decide +kernel
def jc_X9_rewind : List (List JR) := [[some (.aload_n 0, 1, 0), some (.iconst 0, 1, 0), some (.putfield 65, 3, 0), none, none, some (.return_, 1, 0)]]
def jm_X9_rewind : JM := (jc_X9_rewind, 9, 0, 0, 0, 0, yX9_rewind, cX9_rewind, 1, none)
theorem jd_X9_rewind : jdOK cX9_rewind 0 jc_X9_rewind = true := by decide +kernel
def jc_X9_nextKind : List (List JR) := [[some (.iconst 0, 1, 0), some (.istore_n 1, 1, 0), some (.iload_n 1, 1, 0), some (.sipush 2000, 3, 0), none, none, some (.if_icmp .ge 33, 3, 39), none, none, some (.aload_n 0, 1, 0), some (.aload_n 0, 1, 0), some (.getfield 65, 3, 0), none, none, some (.invokevirtual 68, 3, 0), none],
  [none, some (.invokestatic 72, 3, 0), none, none, some (.ifCond .eq 19, 3, 39), none, none, some (.aload_n 0, 1, 0), some (.dup, 1, 0), some (.getfield 65, 3, 0), none, none, some (.iconst 1, 1, 0), some (.iadd, 1, 0), some (.putfield 65, 3, 0), none],
  [none, some (.iinc 1 1, 3, 36), none, none, some (.goto (-34), 3, 2), none, none, some (.aload_n 0, 1, 0), some (.aload_n 0, 1, 0), some (.getfield 65, 3, 0), none, none, some (.putfield 76, 3, 0), none, none, some (.aload_n 0, 1, 0)],
  [some (.aload_n 0, 1, 0), some (.getfield 65, 3, 0), none, none, some (.invokevirtual 68, 3, 0), none, none, some (.istore_n 1, 1, 0), some (.iload_n 1, 1, 0), some (.iconst (-1), 1, 0), some (.if_icmp .ne 5, 3, 63), none, none, some (.iconst 1, 1, 0), some (.ireturn, 1, 0), some (.iload_n 1, 1, 0)],
  [some (.invokestatic 79, 3, 0), none, none, some (.ifCond .eq 8, 3, 75), none, none, some (.aload_n 0, 1, 0), some (.invokevirtual 82, 3, 0), none, none, some (.ireturn, 1, 0), some (.iload_n 1, 1, 0), some (.invokestatic 85, 3, 0), none, none, some (.ifCond .eq 10, 3, 89)],
  [none, none, some (.aload_n 0, 1, 0), some (.invokevirtual 88, 3, 0), none, none, some (.goto 8, 3, 94), none, none, some (.aload_n 0, 1, 0), some (.iload_n 1, 1, 0), some (.invokevirtual 91, 3, 0), none, none, some (.ireturn, 1, 0)]]
def jm_X9_nextKind : JM := (jc_X9_nextKind, 9, 0, 0, 0, 0, yX9_nextKind, cX9_nextKind, 2, (some .int))
theorem jd_X9_nextKind : jdOK cX9_nextKind 0 jc_X9_nextKind = true := by decide +kernel
def jc_X9_byteAt : List (List JR) := [[some (.iload_n 1, 1, 0), some (.ifCond .lt 29, 3, 30), none, none, some (.iload_n 1, 1, 0), some (.aload_n 0, 1, 0), some (.getfield 61, 3, 0), none, none, some (.if_icmp .ge 21, 3, 30), none, none, some (.iload_n 1, 1, 0), some (.aload_n 0, 1, 0), some (.getfield 11, 3, 0), none],
  [none, some (.arraylength, 1, 0), some (.if_icmp .ge 12, 3, 30), none, none, some (.aload_n 0, 1, 0), some (.getfield 11, 3, 0), none, none, some (.iload_n 1, 1, 0), some (.iaload, 1, 0), some (.goto 4, 3, 31), none, none, some (.iconst (-1), 1, 0), some (.ireturn, 1, 0)]]
def jm_X9_byteAt : JM := (jc_X9_byteAt, 9, 0, 0, 1, 0, yX9_byteAt, cX9_byteAt, 2, (some .int))
theorem jd_X9_byteAt : jdOK cX9_byteAt 0 jc_X9_byteAt = true := by decide +kernel
def jc_X9_isBlank : List (List JR) := [[some (.iload_n 0, 1, 0), some (.bipush 9, 2, 0), none, some (.if_icmp .eq 21, 3, 24), none, none, some (.iload_n 0, 1, 0), some (.bipush 10, 2, 0), none, some (.if_icmp .eq 15, 3, 24), none, none, some (.iload_n 0, 1, 0), some (.bipush 13, 2, 0), none, some (.if_icmp .eq 9, 3, 24)],
  [none, none, some (.iload_n 0, 1, 0), some (.bipush 32, 2, 0), none, some (.if_icmp .ne 7, 3, 28), none, none, some (.iconst 1, 1, 0), some (.goto 4, 3, 29), none, none, some (.iconst 0, 1, 0), some (.ireturn, 1, 0)]]
def jm_X9_isBlank : JM := (jc_X9_isBlank, 9, 0, 0, 1, 0, yX9_isBlank, cX9_isBlank, 1, (some .boolean))
theorem jd_X9_isBlank : jdOK cX9_isBlank 0 jc_X9_isBlank = true := by decide +kernel
def jc_X9_isLetter : List (List JR) := [[some (.iload_n 0, 1, 0), some (.bipush 97, 2, 0), none, some (.if_icmp .lt 13, 3, 16), none, none, some (.iload_n 0, 1, 0), some (.bipush 122, 2, 0), none, some (.if_icmp .gt 7, 3, 16), none, none, some (.iconst 1, 1, 0), some (.goto 4, 3, 17), none, none],
  [some (.iconst 0, 1, 0), some (.ireturn, 1, 0)]]
def jm_X9_isLetter : JM := (jc_X9_isLetter, 9, 0, 0, 1, 0, yX9_isLetter, cX9_isLetter, 1, (some .boolean))
theorem jd_X9_isLetter : jdOK cX9_isLetter 0 jc_X9_isLetter = true := by decide +kernel
def jc_X9_wordKind : List (List JR) := [[some (.aload_n 0, 1, 0), some (.lconst 0, 1, 0), some (.putfield 94, 3, 0), none, none, some (.iconst 0, 1, 0), some (.istore_n 1, 1, 0), some (.iload_n 1, 1, 0), some (.sipush 2000, 3, 0), none, none, some (.if_icmp .ge 52, 3, 63), none, none, some (.aload_n 0, 1, 0), some (.aload_n 0, 1, 0)],
  [some (.getfield 65, 3, 0), none, none, some (.invokevirtual 68, 3, 0), none, none, some (.invokestatic 79, 3, 0), none, none, some (.ifCond .eq 38, 3, 63), none, none, some (.aload_n 0, 1, 0), some (.aload_n 0, 1, 0), some (.getfield 94, 3, 0), none],
  [none, some (.aload_n 0, 1, 0), some (.aload_n 0, 1, 0), some (.getfield 65, 3, 0), none, none, some (.invokevirtual 68, 3, 0), none, none, some (.invokestatic 55, 3, 0), none, none, some (.putfield 94, 3, 0), none, none, some (.aload_n 0, 1, 0)],
  [some (.dup, 1, 0), some (.getfield 65, 3, 0), none, none, some (.iconst 1, 1, 0), some (.iadd, 1, 0), some (.putfield 65, 3, 0), none, none, some (.iinc 1 1, 3, 60), none, none, some (.goto (-53), 3, 7), none, none, some (.aload_n 0, 1, 0)],
  [some (.getfield 65, 3, 0), none, none, some (.aload_n 0, 1, 0), some (.getfield 76, 3, 0), none, none, some (.isub, 1, 0), some (.bipush 8, 2, 0), none, some (.if_icmp .le 5, 3, 79), none, none, some (.iconst 0, 1, 0), some (.ireturn, 1, 0), some (.iconst 4, 1, 0)],
  [some (.istore_n 1, 1, 0), some (.iload_n 1, 1, 0), some (.bipush 14, 2, 0), none, some (.if_icmp .gt 25, 3, 109), none, none, some (.aload_n 0, 1, 0), some (.getfield 15, 3, 0), none, none, some (.iload_n 1, 1, 0), some (.laload, 1, 0), some (.aload_n 0, 1, 0), some (.getfield 94, 3, 0), none],
  [none, some (.lcmp, 1, 0), some (.ifCond .ne 5, 3, 103), none, none, some (.iload_n 1, 1, 0), some (.ireturn, 1, 0), some (.iinc 1 1, 3, 106), none, none, some (.goto (-25), 3, 81), none, none, some (.iconst 2, 1, 0), some (.ireturn, 1, 0)]]
def jm_X9_wordKind : JM := (jc_X9_wordKind, 9, 0, 0, 0, 0, yX9_wordKind, cX9_wordKind, 2, (some .int))
theorem jd_X9_wordKind : jdOK cX9_wordKind 0 jc_X9_wordKind = true := by decide +kernel
def jc_X9_isDigit : List (List JR) := [[some (.iload_n 0, 1, 0), some (.bipush 48, 2, 0), none, some (.if_icmp .lt 13, 3, 16), none, none, some (.iload_n 0, 1, 0), some (.bipush 57, 2, 0), none, some (.if_icmp .gt 7, 3, 16), none, none, some (.iconst 1, 1, 0), some (.goto 4, 3, 17), none, none],
  [some (.iconst 0, 1, 0), some (.ireturn, 1, 0)]]
def jm_X9_isDigit : JM := (jc_X9_isDigit, 9, 0, 0, 1, 0, yX9_isDigit, cX9_isDigit, 1, (some .boolean))
theorem jd_X9_isDigit : jdOK cX9_isDigit 0 jc_X9_isDigit = true := by decide +kernel
def jc_X9_numberKind : List (List JR) := [[some (.aload_n 0, 1, 0), some (.aload_n 0, 1, 0), some (.getfield 76, 3, 0), none, none, some (.invokevirtual 98, 3, 0), none, none, some (.istore_n 1, 1, 0), some (.iload_n 1, 1, 0), some (.istore_n 2, 1, 0), some (.aload_n 0, 1, 0), some (.aload_n 0, 1, 0), some (.iload_n 1, 1, 0), some (.invokevirtual 68, 3, 0), none],
  [none, some (.bipush 46, 2, 0), none, some (.if_icmp .ne 20, 3, 39), none, none, some (.aload_n 0, 1, 0), some (.iload_n 1, 1, 0), some (.iconst 1, 1, 0), some (.iadd, 1, 0), some (.invokevirtual 68, 3, 0), none, none, some (.invokestatic 85, 3, 0), none, none],
  [some (.ifCond .eq 7, 3, 39), none, none, some (.iconst 1, 1, 0), some (.goto 4, 3, 40), none, none, some (.iconst 0, 1, 0), some (.putfield 101, 3, 0), none, none, some (.aload_n 0, 1, 0), some (.getfield 101, 3, 0), none, none, some (.ifCond .eq 11, 3, 58)],
  [none, none, some (.aload_n 0, 1, 0), some (.iload_n 1, 1, 0), some (.iconst 1, 1, 0), some (.iadd, 1, 0), some (.invokevirtual 98, 3, 0), none, none, some (.istore_n 2, 1, 0), some (.aload_n 0, 1, 0), some (.iload_n 2, 1, 0), some (.putfield 65, 3, 0), none, none, some (.iload_n 1, 1, 0)],
  [some (.aload_n 0, 1, 0), some (.getfield 76, 3, 0), none, none, some (.isub, 1, 0), some (.iconst 4, 1, 0), some (.if_icmp .gt 12, 3, 82), none, none, some (.iload_n 2, 1, 0), some (.iload_n 1, 1, 0), some (.isub, 1, 0), some (.iconst 1, 1, 0), some (.isub, 1, 0), some (.iconst 4, 1, 0), some (.if_icmp .le 5, 3, 84)],
  [none, none, some (.iconst 0, 1, 0), some (.ireturn, 1, 0), some (.aload_n 0, 1, 0), some (.iload_n 1, 1, 0), some (.invokevirtual 105, 3, 0), none, none, some (.aload_n 0, 1, 0), some (.iload_n 1, 1, 0), some (.iload_n 2, 1, 0), some (.invokevirtual 109, 3, 0), none, none, some (.iconst 3, 1, 0)],
  [some (.ireturn, 1, 0)]]
def jm_X9_numberKind : JM := (jc_X9_numberKind, 9, 0, 0, 0, 0, yX9_numberKind, cX9_numberKind, 3, (some .int))
theorem jd_X9_numberKind : jdOK cX9_numberKind 0 jc_X9_numberKind = true := by decide +kernel
def jc_X9_digitsEnd : List (List JR) := [[some (.iload_n 1, 1, 0), some (.istore_n 2, 1, 0), some (.iconst 0, 1, 0), some (.istore_n 3, 1, 0), some (.iload_n 3, 1, 0), some (.sipush 2000, 3, 0), none, none, some (.if_icmp .ge 23, 3, 31), none, none, some (.aload_n 0, 1, 0), some (.iload_n 2, 1, 0), some (.invokevirtual 68, 3, 0), none, none],
  [some (.invokestatic 85, 3, 0), none, none, some (.ifCond .eq 12, 3, 31), none, none, some (.iinc 2 1, 3, 25), none, none, some (.iinc 3 1, 3, 28), none, none, some (.goto (-24), 3, 4), none, none, some (.iload_n 2, 1, 0)],
  [some (.ireturn, 1, 0)]]
def jm_X9_digitsEnd : JM := (jc_X9_digitsEnd, 9, 0, 0, 1, 0, yX9_digitsEnd, cX9_digitsEnd, 4, (some .int))
theorem jd_X9_digitsEnd : jdOK cX9_digitsEnd 0 jc_X9_digitsEnd = true := by decide +kernel
def jc_X9_readWhole : List (List JR) := [[some (.aload_n 0, 1, 0), some (.iconst 0, 1, 0), some (.putfield 113, 3, 0), none, none, some (.aload_n 0, 1, 0), some (.getfield 76, 3, 0), none, none, some (.istore_n 2, 1, 0), some (.iload_n 2, 1, 0), some (.iload_n 1, 1, 0), some (.if_icmp .ge 29, 3, 41), none, none, some (.aload_n 0, 1, 0)],
  [some (.aload_n 0, 1, 0), some (.getfield 113, 3, 0), none, none, some (.bipush 10, 2, 0), none, some (.imul, 1, 0), some (.aload_n 0, 1, 0), some (.iload_n 2, 1, 0), some (.invokevirtual 68, 3, 0), none, none, some (.iadd, 1, 0), some (.bipush 48, 2, 0), none, some (.isub, 1, 0)],
  [some (.putfield 113, 3, 0), none, none, some (.iinc 2 1, 3, 38), none, none, some (.goto (-28), 3, 10), none, none, some (.return_, 1, 0)]]
def jm_X9_readWhole : JM := (jc_X9_readWhole, 9, 0, 0, 1, 0, yX9_readWhole, cX9_readWhole, 3, none)
theorem jd_X9_readWhole : jdOK cX9_readWhole 0 jc_X9_readWhole = true := by decide +kernel
def jc_X9_readDigits : List (List JR) := [[some (.iconst 0, 1, 0), some (.istore_n 3, 1, 0), some (.aload_n 0, 1, 0), some (.iconst 0, 1, 0), some (.putfield 116, 3, 0), none, none, some (.aload_n 0, 1, 0), some (.iconst 0, 1, 0), some (.putfield 119, 3, 0), none, none, some (.aload_n 0, 1, 0), some (.getfield 76, 3, 0), none, none],
  [some (.istore 4, 2, 0), none, some (.iload 4, 2, 0), none, some (.iload_n 2, 1, 0), some (.if_icmp .ge 84, 3, 105), none, none, some (.iload_n 3, 1, 0), some (.iconst 3, 1, 0), some (.if_icmp .ge 79, 3, 105), none, none, some (.aload_n 0, 1, 0), some (.iload 4, 2, 0), none],
  [some (.invokevirtual 68, 3, 0), none, none, some (.bipush 48, 2, 0), none, some (.isub, 1, 0), some (.istore 5, 2, 0), none, some (.iload 4, 2, 0), none, some (.iload_n 1, 1, 0), some (.if_icmp .eq 56, 3, 99), none, none, some (.iload_n 3, 1, 0), some (.ifCond .gt 8, 3, 55)],
  [none, none, some (.iload 5, 2, 0), none, some (.ifCond .le 47, 3, 99), none, none, some (.iload_n 3, 1, 0), some (.ifCond .ne 26, 3, 82), none, none, some (.aload_n 0, 1, 0), some (.iload 4, 2, 0), none, some (.iload_n 1, 1, 0), some (.if_icmp .ge 12, 3, 75)],
  [none, none, some (.iload_n 1, 1, 0), some (.iconst 1, 1, 0), some (.isub, 1, 0), some (.iload 4, 2, 0), none, some (.isub, 1, 0), some (.goto 7, 3, 79), none, none, some (.iload_n 1, 1, 0), some (.iload 4, 2, 0), none, some (.isub, 1, 0), some (.putfield 119, 3, 0)],
  [none, none, some (.aload_n 0, 1, 0), some (.aload_n 0, 1, 0), some (.getfield 116, 3, 0), none, none, some (.bipush 10, 2, 0), none, some (.imul, 1, 0), some (.iload 5, 2, 0), none, some (.iadd, 1, 0), some (.putfield 116, 3, 0), none, none],
  [some (.iinc 3 1, 3, 99), none, none, some (.iinc 4 1, 3, 102), none, none, some (.goto (-84), 3, 18), none, none, some (.iload_n 3, 1, 0), some (.istore 4, 2, 0), none, some (.iload 4, 2, 0), none, some (.iconst 3, 1, 0), some (.if_icmp .ge 20, 3, 131)],
  [none, none, some (.aload_n 0, 1, 0), some (.aload_n 0, 1, 0), some (.getfield 116, 3, 0), none, none, some (.bipush 10, 2, 0), none, some (.imul, 1, 0), some (.putfield 116, 3, 0), none, none, some (.iinc 4 1, 3, 128), none, none],
  [some (.goto (-20), 3, 108), none, none, some (.return_, 1, 0)]]
def jm_X9_readDigits : JM := (jc_X9_readDigits, 9, 0, 0, 2, 0, yX9_readDigits, cX9_readDigits, 6, none)
theorem jd_X9_readDigits : jdOK cX9_readDigits 0 jc_X9_readDigits = true := by decide +kernel
def jc_X9_signKind : List (List JR) := [[some (.aload_n 0, 1, 0), some (.dup, 1, 0), some (.getfield 65, 3, 0), none, none, some (.iconst 1, 1, 0), some (.iadd, 1, 0), some (.putfield 65, 3, 0), none, none, some (.iload_n 1, 1, 0), some (.lookupswitch 90 #[(42, 55), (47, 58), (59, 49), (60, 52), (61, 61)], 49, 0), none, none, none, none],
  [none, none, none, none, none, none, none, none, none, none, none, none, none, none, none, none],
  [none, none, none, none, none, none, none, none, none, none, none, none, none, none, none, none],
  [none, none, none, none, none, none, none, none, none, none, none, none, some (.bipush 15, 2, 0), none, some (.ireturn, 1, 0), some (.bipush 18, 2, 0)],
  [none, some (.ireturn, 1, 0), some (.bipush 19, 2, 0), none, some (.ireturn, 1, 0), some (.bipush 20, 2, 0), none, some (.ireturn, 1, 0), some (.aload_n 0, 1, 0), some (.aload_n 0, 1, 0), some (.getfield 65, 3, 0), none, none, some (.invokevirtual 68, 3, 0), none, none],
  [some (.bipush 61, 2, 0), none, some (.if_icmp .ne 16, 3, 98), none, none, some (.aload_n 0, 1, 0), some (.dup, 1, 0), some (.getfield 65, 3, 0), none, none, some (.iconst 1, 1, 0), some (.iadd, 1, 0), some (.putfield 65, 3, 0), none, none, some (.bipush 17, 2, 0)],
  [none, some (.ireturn, 1, 0), some (.bipush 16, 2, 0), none, some (.ireturn, 1, 0), some (.iconst 0, 1, 0), some (.ireturn, 1, 0)]]
def jm_X9_signKind : JM := (jc_X9_signKind, 9, 0, 0, 1, 0, yX9_signKind, cX9_signKind, 2, (some .int))
theorem jd_X9_signKind : jdOK cX9_signKind 0 jc_X9_signKind = true := by decide +kernel
def jc_X5_takeToken : List (List JR) := [[some (.aload_n 0, 1, 0), some (.iload_n 2, 1, 0), some (.invokevirtual 80, 3, 0), none, none, some (.istore_n 3, 1, 0), some (.iload_n 3, 1, 0), some (.ifCond .ne 13, 3, 20), none, none, some (.aload_n 0, 1, 0), some (.iconst 1, 1, 0), some (.aload_n 1, 1, 0), some (.getfield 84, 3, 0), none, none],
  [some (.invokevirtual 73, 3, 0), none, none, some (.return_, 1, 0), some (.iload_n 2, 1, 0), some (.iconst 2, 1, 0), some (.if_icmp .ne 14, 3, 36), none, none, some (.aload_n 0, 1, 0), some (.aload_n 1, 1, 0), some (.getfield 87, 3, 0), none, none, some (.invokevirtual 91, 3, 0), none],
  [none, some (.goto 7, 3, 40), none, none, some (.aload_n 1, 1, 0), some (.getfield 95, 3, 0), none, none, some (.istore 4, 2, 0), none, some (.iload_n 2, 1, 0), some (.iconst 5, 1, 0), some (.if_icmp .eq 9, 3, 53), none, none, some (.iload_n 2, 1, 0)],
  [some (.bipush 7, 2, 0), none, some (.if_icmp .ne 7, 3, 57), none, none, some (.iconst 1, 1, 0), some (.goto 4, 3, 58), none, none, some (.iconst 0, 1, 0), some (.istore 5, 2, 0), none, some (.aload_n 0, 1, 0), some (.getfield 35, 3, 0), none, none],
  [some (.sipush 400, 3, 0), none, none, some (.if_icmp .ge 29, 3, 96), none, none, some (.iload 4, 2, 0), none, some (.bipush 12, 2, 0), none, some (.if_icmp .lt 8, 3, 82), none, none, some (.iload_n 2, 1, 0), some (.iconst 2, 1, 0), some (.if_icmp .eq 17, 3, 96)],
  [none, none, some (.iload 5, 2, 0), none, some (.ifCond .eq 22, 3, 106), none, none, some (.aload_n 0, 1, 0), some (.getfield 53, 3, 0), none, none, some (.bipush 6, 2, 0), none, some (.if_icmp .lt 13, 3, 106), none, none],
  [some (.aload_n 0, 1, 0), some (.iconst 2, 1, 0), some (.aload_n 1, 1, 0), some (.getfield 84, 3, 0), none, none, some (.invokevirtual 73, 3, 0), none, none, some (.return_, 1, 0), some (.aload_n 0, 1, 0), some (.getfield 11, 3, 0), none, none, some (.aload_n 0, 1, 0), some (.getfield 35, 3, 0)],
  [none, none, some (.iload_n 2, 1, 0), some (.iastore, 1, 0), some (.aload_n 0, 1, 0), some (.getfield 15, 3, 0), none, none, some (.aload_n 0, 1, 0), some (.getfield 35, 3, 0), none, none, some (.aload_n 1, 1, 0), some (.getfield 84, 3, 0), none, none],
  [some (.iastore, 1, 0), some (.aload_n 0, 1, 0), some (.getfield 18, 3, 0), none, none, some (.aload_n 0, 1, 0), some (.getfield 35, 3, 0), none, none, some (.iload 4, 2, 0), none, some (.iastore, 1, 0), some (.aload_n 0, 1, 0), some (.getfield 21, 3, 0), none, none],
  [some (.aload_n 0, 1, 0), some (.getfield 35, 3, 0), none, none, some (.aload_n 1, 1, 0), some (.getfield 98, 3, 0), none, none, some (.iastore, 1, 0), some (.aload_n 0, 1, 0), some (.dup, 1, 0), some (.getfield 35, 3, 0), none, none, some (.iconst 1, 1, 0), some (.iadd, 1, 0)],
  [some (.putfield 35, 3, 0), none, none, some (.iload_n 2, 1, 0), some (.iconst 3, 1, 0), some (.if_icmp .ne 38, 3, 203), none, none, some (.aload_n 0, 1, 0), some (.getfield 50, 3, 0), none, none, some (.bipush 7, 2, 0), none, some (.if_icmp .ne 29, 3, 203), none],
  [none, some (.aload_n 0, 1, 0), some (.aload_n 0, 1, 0), some (.getfield 35, 3, 0), none, none, some (.iconst 1, 1, 0), some (.isub, 1, 0), some (.aload_n 1, 1, 0), some (.getfield 101, 3, 0), none, none, some (.ifCond .eq 8, 3, 196), none, none, some (.bipush 100, 2, 0)],
  [none, some (.goto 7, 3, 200), none, none, some (.aload_n 1, 1, 0), some (.getfield 105, 3, 0), none, none, some (.invokevirtual 108, 3, 0), none, none, some (.aload_n 0, 1, 0), some (.iload_n 2, 1, 0), some (.aload_n 0, 1, 0), some (.getfield 35, 3, 0), none],
  [none, some (.iconst 1, 1, 0), some (.isub, 1, 0), some (.invokevirtual 111, 3, 0), none, none, some (.aload_n 0, 1, 0), some (.iload_n 3, 1, 0), some (.putfield 50, 3, 0), none, none, some (.return_, 1, 0)]]
def jm_X5_takeToken : JM := (jc_X5_takeToken, 5, 0, 0, 2, 0, yX5_takeToken, cX5_takeToken, 6, none)
theorem jd_X5_takeToken : jdOK cX5_takeToken 0 jc_X5_takeToken = true := by decide +kernel
def jc_X5_follower : List (List JR) := [[some (.iload_n 1, 1, 0), some (.iconst 2, 1, 0), some (.if_icmp .eq 8, 3, 10), none, none, some (.iload_n 1, 1, 0), some (.iconst 3, 1, 0), some (.if_icmp .ne 7, 3, 14), none, none, some (.iconst 1, 1, 0), some (.goto 4, 3, 15), none, none, some (.iconst 0, 1, 0), some (.istore_n 2, 1, 0)],
  [some (.aload_n 0, 1, 0), some (.getfield 50, 3, 0), none, none, some (.tableswitch 222 1 11 #[60, 66, 77, 89, 114, 125, 151, 162, 182, 193, 212], 60, 0), none, none, none, none, none, none, none, none, none, none, none],
  [none, none, none, none, none, none, none, none, none, none, none, none, none, none, none, none],
  [none, none, none, none, none, none, none, none, none, none, none, none, none, none, none, none],
  [none, none, none, none, none, none, none, none, none, none, none, none, none, none, none, none],
  [some (.aload_n 0, 1, 0), some (.iload_n 1, 1, 0), some (.invokevirtual 114, 3, 0), none, none, some (.ireturn, 1, 0), some (.iload_n 1, 1, 0), some (.iconst 2, 1, 0), some (.if_icmp .ne 7, 3, 95), none, none, some (.iconst 3, 1, 0), some (.goto 4, 3, 96), none, none, some (.iconst 0, 1, 0)],
  [some (.ireturn, 1, 0), some (.iload_n 1, 1, 0), some (.bipush 16, 2, 0), none, some (.if_icmp .ne 7, 3, 107), none, none, some (.iconst 4, 1, 0), some (.goto 4, 3, 108), none, none, some (.iconst 0, 1, 0), some (.ireturn, 1, 0), some (.iload_n 1, 1, 0), some (.bipush 10, 2, 0), none],
  [some (.if_icmp .lt 11, 3, 123), none, none, some (.iload_n 1, 1, 0), some (.bipush 14, 2, 0), none, some (.if_icmp .gt 5, 3, 123), none, none, some (.iconst 5, 1, 0), some (.ireturn, 1, 0), some (.iload_n 2, 1, 0), some (.ifCond .eq 8, 3, 132), none, none, some (.bipush 6, 2, 0)],
  [none, some (.goto 4, 3, 133), none, none, some (.iconst 0, 1, 0), some (.ireturn, 1, 0), some (.iload_n 2, 1, 0), some (.ifCond .eq 8, 3, 143), none, none, some (.bipush 6, 2, 0), none, some (.goto 4, 3, 144), none, none, some (.iconst 0, 1, 0)],
  [some (.ireturn, 1, 0), some (.iload_n 1, 1, 0), some (.bipush 19, 2, 0), none, some (.if_icmp .eq 9, 3, 157), none, none, some (.iload_n 1, 1, 0), some (.bipush 20, 2, 0), none, some (.if_icmp .ne 5, 3, 159), none, none, some (.iconst 4, 1, 0), some (.ireturn, 1, 0), some (.iload_n 1, 1, 0)],
  [some (.bipush 15, 2, 0), none, some (.if_icmp .ne 7, 3, 169), none, none, some (.iconst 1, 1, 0), some (.goto 4, 3, 170), none, none, some (.iconst 0, 1, 0), some (.ireturn, 1, 0), some (.iload_n 1, 1, 0), some (.iconst 3, 1, 0), some (.if_icmp .ne 7, 3, 180), none, none],
  [some (.iconst 1, 1, 0), some (.goto 4, 3, 181), none, none, some (.iconst 0, 1, 0), some (.ireturn, 1, 0), some (.iload_n 1, 1, 0), some (.bipush 8, 2, 0), none, some (.if_icmp .ne 6, 3, 191), none, none, some (.bipush 9, 2, 0), none, some (.ireturn, 1, 0), some (.iload_n 2, 1, 0)],
  [some (.ifCond .eq 8, 3, 200), none, none, some (.bipush 10, 2, 0), none, some (.goto 4, 3, 201), none, none, some (.iconst 0, 1, 0), some (.ireturn, 1, 0), some (.iload_n 2, 1, 0), some (.ifCond .eq 8, 3, 211), none, none, some (.bipush 10, 2, 0), none],
  [some (.goto 4, 3, 212), none, none, some (.iconst 0, 1, 0), some (.ireturn, 1, 0), some (.iload_n 1, 1, 0), some (.bipush 18, 2, 0), none, some (.if_icmp .eq 9, 3, 225), none, none, some (.iload_n 1, 1, 0), some (.bipush 17, 2, 0), none, some (.if_icmp .ne 8, 3, 230), none],
  [none, some (.bipush 11, 2, 0), none, some (.goto 4, 3, 231), none, none, some (.iconst 0, 1, 0), some (.ireturn, 1, 0), some (.iload_n 2, 1, 0), some (.ifCond .eq 7, 3, 240), none, none, some (.iconst 1, 1, 0), some (.goto 4, 3, 241), none, none],
  [some (.iconst 0, 1, 0), some (.ireturn, 1, 0), some (.iconst 0, 1, 0), some (.ireturn, 1, 0)]]
def jm_X5_follower : JM := (jc_X5_follower, 5, 0, 0, 1, 0, yX5_follower, cX5_follower, 3, (some .int))
theorem jd_X5_follower : jdOK cX5_follower 0 jc_X5_follower = true := by decide +kernel
def jc_X5_stepFollower : List (List JR) := [[some (.iload_n 1, 1, 0), some (.tableswitch 86 4 9 #[39, 41, 73, 44, 86, 47], 39, 0), none, none, none, none, none, none, none, none, none, none, none, none, none, none],
  [none, none, none, none, none, none, none, none, none, none, none, none, none, none, none, none],
  [none, none, none, none, none, none, none, none, some (.iconst 2, 1, 0), some (.ireturn, 1, 0), some (.bipush 7, 2, 0), none, some (.ireturn, 1, 0), some (.bipush 8, 2, 0), none, some (.ireturn, 1, 0)],
  [some (.aload_n 0, 1, 0), some (.getfield 53, 3, 0), none, none, some (.ifCond .le 20, 3, 72), none, none, some (.aload_n 0, 1, 0), some (.aload_n 0, 1, 0), some (.invokevirtual 117, 3, 0), none, none, some (.invokevirtual 120, 3, 0), none, none, some (.bipush 7, 2, 0)],
  [none, some (.if_icmp .ne 7, 3, 72), none, none, some (.iconst 1, 1, 0), some (.goto 4, 3, 73), none, none, some (.iconst 0, 1, 0), some (.ireturn, 1, 0), some (.aload_n 0, 1, 0), some (.getfield 53, 3, 0), none, none, some (.ifCond .le 7, 3, 85), none],
  [none, some (.iconst 1, 1, 0), some (.goto 4, 3, 86), none, none, some (.iconst 0, 1, 0), some (.ireturn, 1, 0), some (.iconst 0, 1, 0), some (.ireturn, 1, 0)]]
def jm_X5_stepFollower : JM := (jc_X5_stepFollower, 5, 0, 0, 1, 0, yX5_stepFollower, cX5_stepFollower, 2, (some .int))
theorem jd_X5_stepFollower : jdOK cX5_stepFollower 0 jc_X5_stepFollower = true := by decide +kernel
def jc_X5_openToken : List (List JR) := [[some (.aload_n 0, 1, 0), some (.getfield 53, 3, 0), none, none, some (.ifCond .le 29, 3, 33), none, none, some (.aload_n 0, 1, 0), some (.getfield 53, 3, 0), none, none, some (.aload_n 0, 1, 0), some (.getfield 28, 3, 0), none, none, some (.arraylength, 1, 0)],
  [some (.if_icmp .gt 17, 3, 33), none, none, some (.aload_n 0, 1, 0), some (.getfield 28, 3, 0), none, none, some (.aload_n 0, 1, 0), some (.getfield 53, 3, 0), none, none, some (.iconst 1, 1, 0), some (.isub, 1, 0), some (.iaload, 1, 0), some (.goto 4, 3, 34), none],
  [none, some (.iconst (-1), 1, 0), some (.ireturn, 1, 0)]]
def jm_X5_openToken : JM := (jc_X5_openToken, 5, 0, 0, 0, 0, yX5_openToken, cX5_openToken, 1, (some .int))
theorem jd_X5_openToken : jdOK cX5_openToken 0 jc_X5_openToken = true := by decide +kernel
def jc_X5_kindOf : List (List JR) := [[some (.aload_n 0, 1, 0), some (.iload_n 1, 1, 0), some (.invokevirtual 38, 3, 0), none, none, some (.ifCond .eq 12, 3, 17), none, none, some (.aload_n 0, 1, 0), some (.getfield 11, 3, 0), none, none, some (.iload_n 1, 1, 0), some (.iaload, 1, 0), some (.goto 4, 3, 18), none],
  [none, some (.iconst 1, 1, 0), some (.ireturn, 1, 0)]]
def jm_X5_kindOf : JM := (jc_X5_kindOf, 5, 0, 0, 1, 0, yX5_kindOf, cX5_kindOf, 2, (some .int))
theorem jd_X5_kindOf : jdOK cX5_kindOf 0 jc_X5_kindOf = true := by decide +kernel
def jc_X5_hasToken : List (List JR) := [[some (.iload_n 1, 1, 0), some (.ifCond .lt 24, 3, 25), none, none, some (.iload_n 1, 1, 0), some (.aload_n 0, 1, 0), some (.getfield 35, 3, 0), none, none, some (.if_icmp .ge 16, 3, 25), none, none, some (.iload_n 1, 1, 0), some (.aload_n 0, 1, 0), some (.getfield 11, 3, 0), none],
  [none, some (.arraylength, 1, 0), some (.if_icmp .ge 7, 3, 25), none, none, some (.iconst 1, 1, 0), some (.goto 4, 3, 26), none, none, some (.iconst 0, 1, 0), some (.ireturn, 1, 0)]]
def jm_X5_hasToken : JM := (jc_X5_hasToken, 5, 0, 0, 1, 0, yX5_hasToken, cX5_hasToken, 2, (some .boolean))
theorem jd_X5_hasToken : jdOK cX5_hasToken 0 jc_X5_hasToken = true := by decide +kernel
def jc_X5_noteFault : List (List JR) := [[some (.aload_n 0, 1, 0), some (.getfield 44, 3, 0), none, none, some (.ifCond .ne 13, 3, 17), none, none, some (.aload_n 0, 1, 0), some (.iload_n 1, 1, 0), some (.putfield 44, 3, 0), none, none, some (.aload_n 0, 1, 0), some (.iload_n 2, 1, 0), some (.putfield 31, 3, 0), none],
  [none, some (.return_, 1, 0)]]
def jm_X5_noteFault : JM := (jc_X5_noteFault, 5, 0, 0, 2, 0, yX5_noteFault, cX5_noteFault, 3, none)
theorem jd_X5_noteFault : jdOK cX5_noteFault 0 jc_X5_noteFault = true := by decide +kernel
def jc_X5_nameNumber : List (List JR) := [[some (.iconst 0, 1, 0), some (.istore_n 3, 1, 0), some (.iload_n 3, 1, 0), some (.aload_n 0, 1, 0), some (.getfield 47, 3, 0), none, none, some (.if_icmp .ge 31, 3, 38), none, none, some (.iload_n 3, 1, 0), some (.aload_n 0, 1, 0), some (.getfield 24, 3, 0), none, none, some (.arraylength, 1, 0)],
  [some (.if_icmp .ge 22, 3, 38), none, none, some (.aload_n 0, 1, 0), some (.getfield 24, 3, 0), none, none, some (.iload_n 3, 1, 0), some (.laload, 1, 0), some (.lload_n 1, 1, 0), some (.lcmp, 1, 0), some (.ifCond .ne 5, 3, 32), none, none, some (.iload_n 3, 1, 0), some (.ireturn, 1, 0)],
  [some (.iinc 3 1, 3, 35), none, none, some (.goto (-33), 3, 2), none, none, some (.aload_n 0, 1, 0), some (.getfield 47, 3, 0), none, none, some (.aload_n 0, 1, 0), some (.getfield 24, 3, 0), none, none, some (.arraylength, 1, 0), some (.if_icmp .lt 6, 3, 53)],
  [none, none, some (.bipush 12, 2, 0), none, some (.ireturn, 1, 0), some (.aload_n 0, 1, 0), some (.getfield 24, 3, 0), none, none, some (.aload_n 0, 1, 0), some (.getfield 47, 3, 0), none, none, some (.lload_n 1, 1, 0), some (.lastore, 1, 0), some (.aload_n 0, 1, 0)],
  [some (.dup, 1, 0), some (.getfield 47, 3, 0), none, none, some (.iconst 1, 1, 0), some (.iadd, 1, 0), some (.putfield 47, 3, 0), none, none, some (.aload_n 0, 1, 0), some (.getfield 47, 3, 0), none, none, some (.iconst 1, 1, 0), some (.isub, 1, 0), some (.ireturn, 1, 0)]]
def jm_X5_nameNumber : JM := (jc_X5_nameNumber, 5, 0, 0, 1, 0, yX5_nameNumber, cX5_nameNumber, 4, (some .int))
theorem jd_X5_nameNumber : jdOK cX5_nameNumber 0 jc_X5_nameNumber = true := by decide +kernel
def jc_X5_setSecond : List (List JR) := [[some (.aload_n 0, 1, 0), some (.iload_n 1, 1, 0), some (.invokevirtual 38, 3, 0), none, none, some (.ifCond .eq 10, 3, 15), none, none, some (.aload_n 0, 1, 0), some (.getfield 21, 3, 0), none, none, some (.iload_n 1, 1, 0), some (.iload_n 2, 1, 0), some (.iastore, 1, 0), some (.return_, 1, 0)]]
def jm_X5_setSecond : JM := (jc_X5_setSecond, 5, 0, 0, 2, 0, yX5_setSecond, cX5_setSecond, 3, none)
theorem jd_X5_setSecond : jdOK cX5_setSecond 0 jc_X5_setSecond = true := by decide +kernel
def jc_X5_joinTokens : List (List JR) := [[some (.iload_n 1, 1, 0), some (.iconst 4, 1, 0), some (.if_icmp .ne 11, 3, 13), none, none, some (.aload_n 0, 1, 0), some (.iload_n 2, 1, 0), some (.putfield 56, 3, 0), none, none, some (.goto 107, 3, 117), none, none, some (.iload_n 1, 1, 0), some (.bipush 15, 2, 0), none],
  [some (.if_icmp .ne 15, 3, 31), none, none, some (.aload_n 0, 1, 0), some (.aload_n 0, 1, 0), some (.getfield 56, 3, 0), none, none, some (.iload_n 2, 1, 0), some (.invokevirtual 108, 3, 0), none, none, some (.goto 89, 3, 117), none, none, some (.iload_n 1, 1, 0)],
  [some (.iconst 5, 1, 0), some (.if_icmp .eq 9, 3, 42), none, none, some (.iload_n 1, 1, 0), some (.bipush 7, 2, 0), none, some (.if_icmp .ne 21, 3, 60), none, none, some (.aload_n 0, 1, 0), some (.dup, 1, 0), some (.getfield 53, 3, 0), none, none, some (.iconst 1, 1, 0)],
  [some (.iadd, 1, 0), some (.putfield 53, 3, 0), none, none, some (.aload_n 0, 1, 0), some (.iload_n 2, 1, 0), some (.invokevirtual 123, 3, 0), none, none, some (.goto 60, 3, 117), none, none, some (.iload_n 1, 1, 0), some (.bipush 9, 2, 0), none, some (.if_icmp .ne 20, 3, 83)],
  [none, none, some (.aload_n 0, 1, 0), some (.aload_n 0, 1, 0), some (.invokevirtual 117, 3, 0), none, none, some (.iload_n 2, 1, 0), some (.invokevirtual 108, 3, 0), none, none, some (.aload_n 0, 1, 0), some (.iload_n 2, 1, 0), some (.invokevirtual 123, 3, 0), none, none],
  [some (.goto 37, 3, 117), none, none, some (.iload_n 1, 1, 0), some (.bipush 6, 2, 0), none, some (.if_icmp .ne 31, 3, 117), none, none, some (.aload_n 0, 1, 0), some (.aload_n 0, 1, 0), some (.invokevirtual 117, 3, 0), none, none, some (.iload_n 2, 1, 0), some (.invokevirtual 108, 3, 0)],
  [none, none, some (.aload_n 0, 1, 0), some (.iload_n 2, 1, 0), some (.aload_n 0, 1, 0), some (.invokevirtual 117, 3, 0), none, none, some (.invokevirtual 108, 3, 0), none, none, some (.aload_n 0, 1, 0), some (.dup, 1, 0), some (.getfield 53, 3, 0), none, none],
  [some (.iconst 1, 1, 0), some (.isub, 1, 0), some (.putfield 53, 3, 0), none, none, some (.return_, 1, 0)]]
def jm_X5_joinTokens : JM := (jc_X5_joinTokens, 5, 0, 0, 2, 0, yX5_joinTokens, cX5_joinTokens, 3, none)
theorem jd_X5_joinTokens : jdOK cX5_joinTokens 0 jc_X5_joinTokens = true := by decide +kernel
def jc_X5_setOpen : List (List JR) := [[some (.aload_n 0, 1, 0), some (.getfield 53, 3, 0), none, none, some (.ifCond .le 27, 3, 31), none, none, some (.aload_n 0, 1, 0), some (.getfield 53, 3, 0), none, none, some (.aload_n 0, 1, 0), some (.getfield 28, 3, 0), none, none, some (.arraylength, 1, 0)],
  [some (.if_icmp .gt 15, 3, 31), none, none, some (.aload_n 0, 1, 0), some (.getfield 28, 3, 0), none, none, some (.aload_n 0, 1, 0), some (.getfield 53, 3, 0), none, none, some (.iconst 1, 1, 0), some (.isub, 1, 0), some (.iload_n 1, 1, 0), some (.iastore, 1, 0), some (.return_, 1, 0)]]
def jm_X5_setOpen : JM := (jc_X5_setOpen, 5, 0, 0, 1, 0, yX5_setOpen, cX5_setOpen, 2, none)
theorem jd_X5_setOpen : jdOK cX5_setOpen 0 jc_X5_setOpen = true := by decide +kernel
def jc_X5_checkAtoms : List (List JR) := [[some (.iconst 0, 1, 0), some (.istore_n 1, 1, 0), some (.iconst 0, 1, 0), some (.istore_n 2, 1, 0), some (.iconst 0, 1, 0), some (.istore_n 3, 1, 0), some (.iload_n 3, 1, 0), some (.aload_n 0, 1, 0), some (.getfield 35, 3, 0), none, none, some (.if_icmp .ge 120, 3, 131), none, none, some (.aload_n 0, 1, 0), some (.getfield 44, 3, 0)],
  [none, none, some (.ifCond .ne 113, 3, 131), none, none, some (.aload_n 0, 1, 0), some (.iload_n 3, 1, 0), some (.invokevirtual 120, 3, 0), none, none, some (.istore 4, 2, 0), none, some (.iload 4, 2, 0), none, some (.iconst 2, 1, 0), some (.if_icmp .ne 23, 3, 54)],
  [none, none, some (.aload_n 0, 1, 0), some (.iload_n 3, 1, 0), some (.iconst 1, 1, 0), some (.isub, 1, 0), some (.invokevirtual 120, 3, 0), none, none, some (.iconst 4, 1, 0), some (.if_icmp .ne 12, 3, 54), none, none, some (.aload_n 0, 1, 0), some (.iload_n 3, 1, 0), some (.invokevirtual 127, 3, 0)],
  [none, none, some (.istore_n 2, 1, 0), some (.goto 74, 3, 125), none, none, some (.iload 4, 2, 0), none, some (.iconst 2, 1, 0), some (.if_icmp .ne 28, 3, 85), none, none, some (.iload_n 1, 1, 0), some (.aload_n 0, 1, 0), some (.iload_n 3, 1, 0), some (.invokevirtual 127, 3, 0)],
  [none, none, some (.ishr, 1, 0), some (.iconst 1, 1, 0), some (.iand, 1, 0), some (.ifCond .ne 16, 3, 85), none, none, some (.aload_n 0, 1, 0), some (.iconst 4, 1, 0), some (.aload_n 0, 1, 0), some (.iload_n 3, 1, 0), some (.invokevirtual 130, 3, 0), none, none, some (.invokevirtual 73, 3, 0)],
  [none, none, some (.goto 43, 3, 125), none, none, some (.iload 4, 2, 0), none, some (.bipush 15, 2, 0), none, some (.if_icmp .ne 12, 3, 101), none, none, some (.iload_n 1, 1, 0), some (.iconst 1, 1, 0), some (.iload_n 2, 1, 0), some (.ishl, 1, 0)],
  [some (.ior, 1, 0), some (.istore_n 1, 1, 0), some (.goto 27, 3, 125), none, none, some (.iload 4, 2, 0), none, some (.iconst 3, 1, 0), some (.if_icmp .ne 21, 3, 125), none, none, some (.aload_n 0, 1, 0), some (.iload_n 3, 1, 0), some (.invokevirtual 133, 3, 0), none, none],
  [some (.ifCond .eq 13, 3, 125), none, none, some (.aload_n 0, 1, 0), some (.iconst 5, 1, 0), some (.aload_n 0, 1, 0), some (.iload_n 3, 1, 0), some (.invokevirtual 130, 3, 0), none, none, some (.invokevirtual 73, 3, 0), none, none, some (.iinc 3 1, 3, 128), none, none],
  [some (.goto (-122), 3, 6), none, none, some (.return_, 1, 0)]]
def jm_X5_checkAtoms : JM := (jc_X5_checkAtoms, 5, 0, 0, 0, 0, yX5_checkAtoms, cX5_checkAtoms, 5, none)
theorem jd_X5_checkAtoms : jdOK cX5_checkAtoms 0 jc_X5_checkAtoms = true := by decide +kernel
def jc_X5_firstOf : List (List JR) := [[some (.aload_n 0, 1, 0), some (.iload_n 1, 1, 0), some (.invokevirtual 38, 3, 0), none, none, some (.ifCond .eq 12, 3, 17), none, none, some (.aload_n 0, 1, 0), some (.getfield 18, 3, 0), none, none, some (.iload_n 1, 1, 0), some (.iaload, 1, 0), some (.goto 4, 3, 18), none],
  [none, some (.iconst 0, 1, 0), some (.ireturn, 1, 0)]]
def jm_X5_firstOf : JM := (jc_X5_firstOf, 5, 0, 0, 1, 0, yX5_firstOf, cX5_firstOf, 2, (some .int))
theorem jd_X5_firstOf : jdOK cX5_firstOf 0 jc_X5_firstOf = true := by decide +kernel
def jc_X5_startOf : List (List JR) := [[some (.aload_n 0, 1, 0), some (.iload_n 1, 1, 0), some (.invokevirtual 38, 3, 0), none, none, some (.ifCond .eq 12, 3, 17), none, none, some (.aload_n 0, 1, 0), some (.getfield 15, 3, 0), none, none, some (.iload_n 1, 1, 0), some (.iaload, 1, 0), some (.goto 4, 3, 18), none],
  [none, some (.iconst (-1), 1, 0), some (.ireturn, 1, 0)]]
def jm_X5_startOf : JM := (jc_X5_startOf, 5, 0, 0, 1, 0, yX5_startOf, cX5_startOf, 2, (some .int))
theorem jd_X5_startOf : jdOK cX5_startOf 0 jc_X5_startOf = true := by decide +kernel
def jc_X5_isWrong : List (List JR) := [[some (.aload_n 0, 1, 0), some (.iload_n 1, 1, 0), some (.iconst 1, 1, 0), some (.isub, 1, 0), some (.invokevirtual 120, 3, 0), none, none, some (.iconst 5, 1, 0), some (.if_icmp .ne 19, 3, 27), none, none, some (.aload_n 0, 1, 0), some (.iload_n 1, 1, 0), some (.invokevirtual 136, 3, 0), none, none],
  [some (.bipush 99, 2, 0), none, some (.if_icmp .le 7, 3, 25), none, none, some (.iconst 1, 1, 0), some (.goto 4, 3, 26), none, none, some (.iconst 0, 1, 0), some (.ireturn, 1, 0), some (.aload_n 0, 1, 0), some (.iload_n 1, 1, 0), some (.invokevirtual 127, 3, 0), none, none],
  [some (.ifCond .ne 7, 3, 39), none, none, some (.iconst 1, 1, 0), some (.goto 4, 3, 40), none, none, some (.iconst 0, 1, 0), some (.ireturn, 1, 0)]]
def jm_X5_isWrong : JM := (jc_X5_isWrong, 5, 0, 0, 1, 0, yX5_isWrong, cX5_isWrong, 2, (some .boolean))
theorem jd_X5_isWrong : jdOK cX5_isWrong 0 jc_X5_isWrong = true := by decide +kernel
def jc_X5_secondOf : List (List JR) := [[some (.aload_n 0, 1, 0), some (.iload_n 1, 1, 0), some (.invokevirtual 38, 3, 0), none, none, some (.ifCond .eq 12, 3, 17), none, none, some (.aload_n 0, 1, 0), some (.getfield 21, 3, 0), none, none, some (.iload_n 1, 1, 0), some (.iaload, 1, 0), some (.goto 4, 3, 18), none],
  [none, some (.iconst 0, 1, 0), some (.ireturn, 1, 0)]]
def jm_X5_secondOf : JM := (jc_X5_secondOf, 5, 0, 0, 1, 0, yX5_secondOf, cX5_secondOf, 2, (some .int))
theorem jd_X5_secondOf : jdOK cX5_secondOf 0 jc_X5_secondOf = true := by decide +kernel
def jc_X7_forgetValues : List (List JR) := [[some (.aload_n 0, 1, 0), some (.getfield 23, 3, 0), none, none, some (.invokestatic 66, 3, 0), none, none, some (.return_, 1, 0)]]
def jm_X7_forgetValues : JM := (jc_X7_forgetValues, 7, 0, 0, 0, 0, yX7_forgetValues, cX7_forgetValues, 1, none)
theorem jd_X7_forgetValues : jdOK cX7_forgetValues 0 jc_X7_forgetValues = true := by decide +kernel
def jc_X7_untell : List (List JR) := [[some (.iconst 0, 1, 0), some (.istore_n 1, 1, 0), some (.iload_n 1, 1, 0), some (.aload_n 0, 1, 0), some (.arraylength, 1, 0), some (.if_icmp .ge 22, 3, 27), none, none, some (.aload_n 0, 1, 0), some (.iload_n 1, 1, 0), some (.aaload, 1, 0), some (.ifnull 10, 3, 21), none, none, some (.aload_n 0, 1, 0), some (.iload_n 1, 1, 0)],
  [some (.aaload, 1, 0), some (.iconst 0, 1, 0), some (.putfield 62, 3, 0), none, none, some (.iinc 1 1, 3, 24), none, none, some (.goto (-22), 3, 2), none, none, some (.return_, 1, 0)]]
def jm_X7_untell : JM := (jc_X7_untell, 7, 0, 0, 1, 0, yX7_untell, cX7_untell, 2, none)
theorem jd_X7_untell : jdOK cX7_untell 0 jc_X7_untell = true := by decide +kernel
def jc_X12_read_0 : List JR := [some (.aload_n 0, 1, 0), some (.iconst 0, 1, 0), some (.putfield 311, 3, 0), none, none, some (.aload_n 0, 1, 0), some (.iconst (-1), 1, 0), some (.putfield 13, 3, 0), none, none, some (.aload_n 0, 1, 0), some (.iconst 0, 1, 0), some (.putfield 299, 3, 0), none, none, some (.aload_n 0, 1, 0)]
theorem jd_X12_read_0 : jdRow cX12_read 0 jc_X12_read_0 = true := by decide +kernel
def jc_X12_read_1 : List JR := [some (.iconst 1, 1, 0), some (.putfield 314, 3, 0), none, none, some (.aload_n 0, 1, 0), some (.iconst 0, 1, 0), some (.putfield 350, 3, 0), none, none, some (.aload_n 0, 1, 0), some (.getfield 49, 3, 0), none, none, some (.iconst 1, 1, 0), some (.iconst 0, 1, 0), some (.iastore, 1, 0)]
theorem jd_X12_read_1 : jdRow cX12_read 16 jc_X12_read_1 = true := by decide +kernel
def jc_X12_read_2 : List JR := [some (.aload_n 0, 1, 0), some (.getfield 67, 3, 0), none, none, some (.iconst 1, 1, 0), some (.iconst 0, 1, 0), some (.iastore, 1, 0), some (.aload_n 0, 1, 0), some (.getfield 85, 3, 0), none, none, some (.iconst 1, 1, 0), some (.iconst 0, 1, 0), some (.iastore, 1, 0), some (.aload_n 0, 1, 0), some (.invokevirtual 320, 3, 0)]
theorem jd_X12_read_2 : jdRow cX12_read 32 jc_X12_read_2 = true := by decide +kernel
def jc_X12_read_3 : List JR := [none, none, some (.aload_n 0, 1, 0), some (.invokevirtual 371, 3, 0), none, none, some (.ifCond .eq 14, 3, 68), none, none, some (.aload_n 0, 1, 0), some (.getfield 311, 3, 0), none, none, some (.ifCond .ne 7, 3, 68), none, none]
theorem jd_X12_read_3 : jdRow cX12_read 48 jc_X12_read_3 = true := by decide +kernel
def jc_X12_read_4 : List JR := [some (.iconst 1, 1, 0), some (.goto 4, 3, 69), none, none, some (.iconst 0, 1, 0), some (.istore_n 1, 1, 0), some (.aload_n 0, 1, 0), some (.iconst 0, 1, 0), some (.putfield 181, 3, 0), none, none, some (.iload_n 1, 1, 0), some (.ifCond .ne 8, 3, 84), none, none, some (.aload_n 0, 1, 0)]
theorem jd_X12_read_4 : jdRow cX12_read 64 jc_X12_read_4 = true := by decide +kernel
def jc_X12_read_5 : List JR := [some (.getfield 311, 3, 0), none, none, some (.ireturn, 1, 0), some (.aload_n 0, 1, 0), some (.getfield 49, 3, 0), none, none, some (.iconst 0, 1, 0), some (.aload_n 0, 1, 0), some (.getfield 49, 3, 0), none, none, some (.iconst 1, 1, 0), some (.iaload, 1, 0), some (.iastore, 1, 0)]
theorem jd_X12_read_5 : jdRow cX12_read 80 jc_X12_read_5 = true := by decide +kernel
def jc_X12_read_6 : List JR := [some (.aload_n 0, 1, 0), some (.getfield 67, 3, 0), none, none, some (.iconst 0, 1, 0), some (.aload_n 0, 1, 0), some (.getfield 67, 3, 0), none, none, some (.iconst 1, 1, 0), some (.iaload, 1, 0), some (.iastore, 1, 0), some (.aload_n 0, 1, 0), some (.getfield 85, 3, 0), none, none]
theorem jd_X12_read_6 : jdRow cX12_read 96 jc_X12_read_6 = true := by decide +kernel
def jc_X12_read_7 : List JR := [some (.iconst 0, 1, 0), some (.aload_n 0, 1, 0), some (.getfield 85, 3, 0), none, none, some (.iconst 1, 1, 0), some (.iaload, 1, 0), some (.iastore, 1, 0), some (.iconst 0, 1, 0), some (.istore_n 2, 1, 0), some (.iload_n 2, 1, 0), some (.sipush 410, 3, 0), none, none, some (.if_icmp .ge 89, 3, 215), none]
theorem jd_X12_read_7 : jdRow cX12_read 112 jc_X12_read_7 = true := by decide +kernel
def jc_X12_read_8 : List JR := [none, some (.aload_n 0, 1, 0), some (.getfield 52, 3, 0), none, none, some (.iload_n 2, 1, 0), some (.aload_n 0, 1, 0), some (.getfield 52, 3, 0), none, none, some (.sipush 410, 3, 0), none, none, some (.iload_n 2, 1, 0), some (.iadd, 1, 0), some (.iaload, 1, 0)]
theorem jd_X12_read_8 : jdRow cX12_read 128 jc_X12_read_8 = true := by decide +kernel
def jc_X12_read_9 : List JR := [some (.iastore, 1, 0), some (.aload_n 0, 1, 0), some (.getfield 55, 3, 0), none, none, some (.iload_n 2, 1, 0), some (.aload_n 0, 1, 0), some (.getfield 55, 3, 0), none, none, some (.sipush 410, 3, 0), none, none, some (.iload_n 2, 1, 0), some (.iadd, 1, 0), some (.iaload, 1, 0)]
theorem jd_X12_read_9 : jdRow cX12_read 144 jc_X12_read_9 = true := by decide +kernel
def jc_X12_read_10 : List JR := [some (.iastore, 1, 0), some (.aload_n 0, 1, 0), some (.getfield 58, 3, 0), none, none, some (.iload_n 2, 1, 0), some (.aload_n 0, 1, 0), some (.getfield 58, 3, 0), none, none, some (.sipush 410, 3, 0), none, none, some (.iload_n 2, 1, 0), some (.iadd, 1, 0), some (.iaload, 1, 0)]
theorem jd_X12_read_10 : jdRow cX12_read 160 jc_X12_read_10 = true := by decide +kernel
def jc_X12_read_11 : List JR := [some (.iastore, 1, 0), some (.aload_n 0, 1, 0), some (.getfield 61, 3, 0), none, none, some (.iload_n 2, 1, 0), some (.aload_n 0, 1, 0), some (.getfield 61, 3, 0), none, none, some (.sipush 410, 3, 0), none, none, some (.iload_n 2, 1, 0), some (.iadd, 1, 0), some (.iaload, 1, 0)]
theorem jd_X12_read_11 : jdRow cX12_read 176 jc_X12_read_11 = true := by decide +kernel
def jc_X12_read_12 : List JR := [some (.iastore, 1, 0), some (.aload_n 0, 1, 0), some (.getfield 64, 3, 0), none, none, some (.iload_n 2, 1, 0), some (.aload_n 0, 1, 0), some (.getfield 64, 3, 0), none, none, some (.sipush 410, 3, 0), none, none, some (.iload_n 2, 1, 0), some (.iadd, 1, 0), some (.iaload, 1, 0)]
theorem jd_X12_read_12 : jdRow cX12_read 192 jc_X12_read_12 = true := by decide +kernel
def jc_X12_read_13 : List JR := [some (.iastore, 1, 0), some (.iinc 2 1, 3, 212), none, none, some (.goto (-90), 3, 122), none, none, some (.iconst 0, 1, 0), some (.istore_n 2, 1, 0), some (.iload_n 2, 1, 0), some (.sipush 210, 3, 0), none, none, some (.if_icmp .ge 89, 3, 310), none, none]
theorem jd_X12_read_13 : jdRow cX12_read 208 jc_X12_read_13 = true := by decide +kernel
def jc_X12_read_14 : List JR := [some (.aload_n 0, 1, 0), some (.getfield 70, 3, 0), none, none, some (.iload_n 2, 1, 0), some (.aload_n 0, 1, 0), some (.getfield 70, 3, 0), none, none, some (.sipush 210, 3, 0), none, none, some (.iload_n 2, 1, 0), some (.iadd, 1, 0), some (.iaload, 1, 0), some (.iastore, 1, 0)]
theorem jd_X12_read_14 : jdRow cX12_read 224 jc_X12_read_14 = true := by decide +kernel
def jc_X12_read_15 : List JR := [some (.aload_n 0, 1, 0), some (.getfield 73, 3, 0), none, none, some (.iload_n 2, 1, 0), some (.aload_n 0, 1, 0), some (.getfield 73, 3, 0), none, none, some (.sipush 210, 3, 0), none, none, some (.iload_n 2, 1, 0), some (.iadd, 1, 0), some (.iaload, 1, 0), some (.iastore, 1, 0)]
theorem jd_X12_read_15 : jdRow cX12_read 240 jc_X12_read_15 = true := by decide +kernel
def jc_X12_read_16 : List JR := [some (.aload_n 0, 1, 0), some (.getfield 76, 3, 0), none, none, some (.iload_n 2, 1, 0), some (.aload_n 0, 1, 0), some (.getfield 76, 3, 0), none, none, some (.sipush 210, 3, 0), none, none, some (.iload_n 2, 1, 0), some (.iadd, 1, 0), some (.iaload, 1, 0), some (.iastore, 1, 0)]
theorem jd_X12_read_16 : jdRow cX12_read 256 jc_X12_read_16 = true := by decide +kernel
def jc_X12_read_17 : List JR := [some (.aload_n 0, 1, 0), some (.getfield 79, 3, 0), none, none, some (.iload_n 2, 1, 0), some (.aload_n 0, 1, 0), some (.getfield 79, 3, 0), none, none, some (.sipush 210, 3, 0), none, none, some (.iload_n 2, 1, 0), some (.iadd, 1, 0), some (.iaload, 1, 0), some (.iastore, 1, 0)]
theorem jd_X12_read_17 : jdRow cX12_read 272 jc_X12_read_17 = true := by decide +kernel
def jc_X12_read_18 : List JR := [some (.aload_n 0, 1, 0), some (.getfield 82, 3, 0), none, none, some (.iload_n 2, 1, 0), some (.aload_n 0, 1, 0), some (.getfield 82, 3, 0), none, none, some (.sipush 210, 3, 0), none, none, some (.iload_n 2, 1, 0), some (.iadd, 1, 0), some (.iaload, 1, 0), some (.iastore, 1, 0)]
theorem jd_X12_read_18 : jdRow cX12_read 288 jc_X12_read_18 = true := by decide +kernel
def jc_X12_read_19 : List JR := [some (.iinc 2 1, 3, 307), none, none, some (.goto (-90), 3, 217), none, none, some (.iconst 0, 1, 0), some (.istore_n 2, 1, 0), some (.iload_n 2, 1, 0), some (.bipush 12, 2, 0), none, some (.if_icmp .ge 16, 3, 331), none, none, some (.aload_n 0, 1, 0), some (.getfield 101, 3, 0)]
theorem jd_X12_read_19 : jdRow cX12_read 304 jc_X12_read_19 = true := by decide +kernel
def jc_X12_read_20 : List JR := [none, none, some (.iload_n 2, 1, 0), some (.iconst 0, 1, 0), some (.bastore, 1, 0), some (.iinc 2 1, 3, 328), none, none, some (.goto (-16), 3, 312), none, none, some (.iconst 0, 1, 0), some (.ireturn, 1, 0)]
theorem jd_X12_read_20 : jdRow cX12_read 320 jc_X12_read_20 = true := by decide +kernel
def jc_X12_read : List (List JR) := [jc_X12_read_0, jc_X12_read_1, jc_X12_read_2, jc_X12_read_3, jc_X12_read_4, jc_X12_read_5, jc_X12_read_6, jc_X12_read_7, jc_X12_read_8, jc_X12_read_9, jc_X12_read_10, jc_X12_read_11, jc_X12_read_12, jc_X12_read_13, jc_X12_read_14, jc_X12_read_15, jc_X12_read_16, jc_X12_read_17, jc_X12_read_18, jc_X12_read_19, jc_X12_read_20]
def jm_X12_read : JM := (jc_X12_read, 12, 0, 0, 0, 0, yX12_read, cX12_read, 3, (some .int))
theorem jd_X12_read : jdOK cX12_read 0 jc_X12_read = true := jdcons jd_X12_read_0 (jdcons jd_X12_read_1 (jdcons jd_X12_read_2 (jdcons jd_X12_read_3 (jdcons jd_X12_read_4 (jdcons jd_X12_read_5 (jdcons jd_X12_read_6 (jdcons jd_X12_read_7 (jdcons jd_X12_read_8 (jdcons jd_X12_read_9 (jdcons jd_X12_read_10 (jdcons jd_X12_read_11 (jdcons jd_X12_read_12 (jdcons jd_X12_read_13 (jdcons jd_X12_read_14 (jdcons jd_X12_read_15 (jdcons jd_X12_read_16 (jdcons jd_X12_read_17 (jdcons jd_X12_read_18 (jdcons jd_X12_read_19 (jdcons jd_X12_read_20 (rfl)))))))))))))))))))))
def jc_X12_token : List (List JR) := [[some (.aload_n 0, 1, 0), some (.getfield 299, 3, 0), none, none, some (.istore_n 1, 1, 0), some (.iload_n 1, 1, 0), some (.aload_n 0, 1, 0), some (.getfield 181, 3, 0), none, none, some (.if_icmp .ge 53, 3, 63), none, none, some (.aload_n 0, 1, 0), some (.getfield 7, 3, 0), none],
  [none, some (.iload_n 1, 1, 0), some (.baload, 1, 0), some (.bipush 9, 2, 0), none, some (.if_icmp .eq 36, 3, 57), none, none, some (.aload_n 0, 1, 0), some (.getfield 7, 3, 0), none, none, some (.iload_n 1, 1, 0), some (.baload, 1, 0), some (.bipush 10, 2, 0), none],
  [some (.if_icmp .eq 25, 3, 57), none, none, some (.aload_n 0, 1, 0), some (.getfield 7, 3, 0), none, none, some (.iload_n 1, 1, 0), some (.baload, 1, 0), some (.bipush 13, 2, 0), none, some (.if_icmp .eq 14, 3, 57), none, none, some (.aload_n 0, 1, 0), some (.getfield 7, 3, 0)],
  [none, none, some (.iload_n 1, 1, 0), some (.baload, 1, 0), some (.bipush 32, 2, 0), none, some (.if_icmp .ne 9, 3, 63), none, none, some (.iinc 1 1, 3, 60), none, none, some (.goto (-55), 3, 5), none, none, some (.aload_n 0, 1, 0)],
  [some (.iload_n 1, 1, 0), some (.putfield 279, 3, 0), none, none, some (.iload_n 1, 1, 0), some (.aload_n 0, 1, 0), some (.getfield 181, 3, 0), none, none, some (.if_icmp .lt 16, 3, 89), none, none, some (.aload_n 0, 1, 0), some (.iconst 0, 1, 0), some (.putfield 296, 3, 0), none],
  [none, some (.aload_n 0, 1, 0), some (.iload_n 1, 1, 0), some (.putfield 299, 3, 0), none, none, some (.goto 134, 3, 220), none, none, some (.aload_n 0, 1, 0), some (.iload_n 1, 1, 0), some (.invokevirtual 282, 3, 0), none, none, some (.ifCond .eq 10, 3, 104), none],
  [none, some (.aload_n 0, 1, 0), some (.invokevirtual 305, 3, 0), none, none, some (.goto 119, 3, 220), none, none, some (.aload_n 0, 1, 0), some (.iload_n 1, 1, 0), some (.invokevirtual 302, 3, 0), none, none, some (.ifCond .eq 10, 3, 119), none, none],
  [some (.aload_n 0, 1, 0), some (.invokevirtual 308, 3, 0), none, none, some (.goto 104, 3, 220), none, none, some (.aload_n 0, 1, 0), some (.iload_n 1, 1, 0), some (.invokevirtual 254, 3, 0), none, none, some (.istore_n 2, 1, 0), some (.iload_n 2, 1, 0), some (.bipush 61, 2, 0), none],
  [some (.if_icmp .ne 19, 3, 147), none, none, some (.aload_n 0, 1, 0), some (.iload_n 1, 1, 0), some (.iconst 1, 1, 0), some (.iadd, 1, 0), some (.invokevirtual 254, 3, 0), none, none, some (.bipush 61, 2, 0), none, some (.if_icmp .ne 7, 3, 147), none, none, some (.iconst 1, 1, 0)],
  [some (.goto 4, 3, 148), none, none, some (.iconst 0, 1, 0), some (.istore_n 3, 1, 0), some (.aload_n 0, 1, 0), some (.iload_n 3, 1, 0), some (.ifCond .eq 9, 3, 160), none, none, some (.sipush 300, 3, 0), none, none, some (.goto 4, 3, 161), none, none],
  [some (.iload_n 2, 1, 0), some (.putfield 293, 3, 0), none, none, some (.aload_n 0, 1, 0), some (.iload_n 2, 1, 0), some (.bipush 59, 2, 0), none, some (.if_icmp .eq 27, 3, 195), none, none, some (.iload_n 2, 1, 0), some (.bipush 61, 2, 0), none, some (.if_icmp .eq 21, 3, 195), none],
  [none, some (.iload_n 2, 1, 0), some (.bipush 60, 2, 0), none, some (.if_icmp .eq 15, 3, 195), none, none, some (.iload_n 2, 1, 0), some (.bipush 42, 2, 0), none, some (.if_icmp .eq 9, 3, 195), none, none, some (.iload_n 2, 1, 0), some (.bipush 47, 2, 0), none],
  [some (.if_icmp .ne 7, 3, 199), none, none, some (.iconst 3, 1, 0), some (.goto 4, 3, 200), none, none, some (.iconst 5, 1, 0), some (.putfield 296, 3, 0), none, none, some (.aload_n 0, 1, 0), some (.iload_n 3, 1, 0), some (.ifCond .eq 9, 3, 214), none, none],
  [some (.iload_n 1, 1, 0), some (.iconst 2, 1, 0), some (.iadd, 1, 0), some (.goto 6, 3, 217), none, none, some (.iload_n 1, 1, 0), some (.iconst 1, 1, 0), some (.iadd, 1, 0), some (.putfield 299, 3, 0), none, none, some (.return_, 1, 0)]]
def jm_X12_token : JM := (jc_X12_token, 12, 0, 0, 0, 0, yX12_token, cX12_token, 4, none)
theorem jd_X12_token : jdOK cX12_token 0 jc_X12_token = true := by decide +kernel
def jc_X12_isLetter : List (List JR) := [[some (.aload_n 0, 1, 0), some (.iload_n 1, 1, 0), some (.invokevirtual 254, 3, 0), none, none, some (.bipush 97, 2, 0), none, some (.if_icmp .lt 17, 3, 24), none, none, some (.aload_n 0, 1, 0), some (.iload_n 1, 1, 0), some (.invokevirtual 254, 3, 0), none, none, some (.bipush 122, 2, 0)],
  [none, some (.if_icmp .gt 7, 3, 24), none, none, some (.iconst 1, 1, 0), some (.goto 4, 3, 25), none, none, some (.iconst 0, 1, 0), some (.ireturn, 1, 0)]]
def jm_X12_isLetter : JM := (jc_X12_isLetter, 12, 0, 0, 1, 0, yX12_isLetter, cX12_isLetter, 2, (some .boolean))
theorem jd_X12_isLetter : jdOK cX12_isLetter 0 jc_X12_isLetter = true := by decide +kernel
def jc_X12_at : List (List JR) := [[some (.iload_n 1, 1, 0), some (.aload_n 0, 1, 0), some (.getfield 181, 3, 0), none, none, some (.if_icmp .ge 12, 3, 17), none, none, some (.aload_n 0, 1, 0), some (.getfield 7, 3, 0), none, none, some (.iload_n 1, 1, 0), some (.baload, 1, 0), some (.goto 4, 3, 18), none],
  [none, some (.iconst 0, 1, 0), some (.ireturn, 1, 0)]]
def jm_X12_at : JM := (jc_X12_at, 12, 0, 0, 1, 0, yX12_at, cX12_at, 2, (some .int))
theorem jd_X12_at : jdOK cX12_at 0 jc_X12_at = true := by decide +kernel
def jc_X12_wordToken : List (List JR) := [[some (.aload_n 0, 1, 0), some (.getfield 279, 3, 0), none, none, some (.iconst 1, 1, 0), some (.iadd, 1, 0), some (.istore_n 1, 1, 0), some (.aload_n 0, 1, 0), some (.iload_n 1, 1, 0), some (.invokevirtual 282, 3, 0), none, none, some (.ifCond .eq 9, 3, 21), none, none, some (.iinc 1 1, 3, 18)],
  [none, none, some (.goto (-11), 3, 7), none, none, some (.aload_n 0, 1, 0), some (.lconst 0, 1, 0), some (.putfield 285, 3, 0), none, none, some (.aload_n 0, 1, 0), some (.getfield 279, 3, 0), none, none, some (.istore_n 2, 1, 0), some (.iload_n 2, 1, 0)],
  [some (.iload_n 1, 1, 0), some (.if_icmp .ge 39, 3, 72), none, none, some (.iload_n 1, 1, 0), some (.aload_n 0, 1, 0), some (.getfield 279, 3, 0), none, none, some (.isub, 1, 0), some (.bipush 9, 2, 0), none, some (.if_icmp .ge 28, 3, 72), none, none, some (.aload_n 0, 1, 0)],
  [some (.aload_n 0, 1, 0), some (.getfield 285, 3, 0), none, none, some (.bipush 8, 2, 0), none, some (.lshl, 1, 0), some (.aload_n 0, 1, 0), some (.getfield 7, 3, 0), none, none, some (.iload_n 2, 1, 0), some (.baload, 1, 0), some (.i2l, 1, 0), some (.lor, 1, 0), some (.putfield 285, 3, 0)],
  [none, none, some (.iinc 2 1, 3, 69), none, none, some (.goto (-38), 3, 31), none, none, some (.aload_n 0, 1, 0), some (.iload_n 1, 1, 0), some (.aload_n 0, 1, 0), some (.getfield 279, 3, 0), none, none, some (.isub, 1, 0), some (.bipush 8, 2, 0)],
  [none, some (.if_icmp .le 7, 3, 88), none, none, some (.iconst (-1), 1, 0), some (.goto 10, 3, 95), none, none, some (.aload_n 0, 1, 0), some (.getfield 285, 3, 0), none, none, some (.invokestatic 289, 3, 0), none, none, some (.putfield 293, 3, 0)],
  [none, none, some (.aload_n 0, 1, 0), some (.iload_n 1, 1, 0), some (.aload_n 0, 1, 0), some (.getfield 279, 3, 0), none, none, some (.isub, 1, 0), some (.bipush 8, 2, 0), none, some (.if_icmp .le 7, 3, 114), none, none, some (.iconst 5, 1, 0), some (.goto 15, 3, 126)],
  [none, none, some (.aload_n 0, 1, 0), some (.getfield 293, 3, 0), none, none, some (.ifCond .lt 7, 3, 125), none, none, some (.iconst 4, 1, 0), some (.goto 4, 3, 126), none, none, some (.iconst 1, 1, 0), some (.putfield 296, 3, 0), none],
  [none, some (.aload_n 0, 1, 0), some (.iload_n 1, 1, 0), some (.putfield 299, 3, 0), none, none, some (.return_, 1, 0)]]
def jm_X12_wordToken : JM := (jc_X12_wordToken, 12, 0, 0, 0, 0, yX12_wordToken, cX12_wordToken, 3, none)
theorem jd_X12_wordToken : jdOK cX12_wordToken 0 jc_X12_wordToken = true := by decide +kernel
def jc_X12_keyword : List (List JR) := [[some (.lload_n 0, 1, 0), some (.ldc2_w 257, 3, 0), none, none, some (.lcmp, 1, 0), some (.ifCond .ne 5, 3, 10), none, none, some (.iconst 0, 1, 0), some (.ireturn, 1, 0), some (.lload_n 0, 1, 0), some (.ldc2_w 259, 3, 0), none, none, some (.lcmp, 1, 0), some (.ifCond .ne 5, 3, 20)],
  [none, none, some (.iconst 1, 1, 0), some (.ireturn, 1, 0), some (.lload_n 0, 1, 0), some (.ldc2_w 261, 3, 0), none, none, some (.lcmp, 1, 0), some (.ifCond .ne 5, 3, 30), none, none, some (.iconst 2, 1, 0), some (.ireturn, 1, 0), some (.lload_n 0, 1, 0), some (.ldc2_w 263, 3, 0)],
  [none, none, some (.lcmp, 1, 0), some (.ifCond .ne 5, 3, 40), none, none, some (.iconst 3, 1, 0), some (.ireturn, 1, 0), some (.lload_n 0, 1, 0), some (.ldc2_w 265, 3, 0), none, none, some (.lcmp, 1, 0), some (.ifCond .ne 5, 3, 50), none, none],
  [some (.iconst 4, 1, 0), some (.ireturn, 1, 0), some (.lload_n 0, 1, 0), some (.ldc2_w 267, 3, 0), none, none, some (.lcmp, 1, 0), some (.ifCond .ne 5, 3, 60), none, none, some (.iconst 5, 1, 0), some (.ireturn, 1, 0), some (.lload_n 0, 1, 0), some (.ldc2_w 269, 3, 0), none, none],
  [some (.lcmp, 1, 0), some (.ifCond .ne 6, 3, 71), none, none, some (.bipush 6, 2, 0), none, some (.ireturn, 1, 0), some (.lload_n 0, 1, 0), some (.ldc2_w 271, 3, 0), none, none, some (.lcmp, 1, 0), some (.ifCond .ne 6, 3, 82), none, none, some (.bipush 7, 2, 0)],
  [none, some (.ireturn, 1, 0), some (.lload_n 0, 1, 0), some (.ldc2_w 273, 3, 0), none, none, some (.lcmp, 1, 0), some (.ifCond .ne 6, 3, 93), none, none, some (.bipush 8, 2, 0), none, some (.ireturn, 1, 0), some (.lload_n 0, 1, 0), some (.ldc2_w 275, 3, 0), none],
  [none, some (.lcmp, 1, 0), some (.ifCond .ne 6, 3, 104), none, none, some (.bipush 9, 2, 0), none, some (.ireturn, 1, 0), some (.lload_n 0, 1, 0), some (.ldc2_w 277, 3, 0), none, none, some (.lcmp, 1, 0), some (.ifCond .ne 6, 3, 115), none, none],
  [some (.bipush 10, 2, 0), none, some (.ireturn, 1, 0), some (.iconst (-1), 1, 0), some (.ireturn, 1, 0)]]
def jm_X12_keyword : JM := (jc_X12_keyword, 12, 0, 0, 1, 0, yX12_keyword, cX12_keyword, 2, (some .int))
theorem jd_X12_keyword : jdOK cX12_keyword 0 jc_X12_keyword = true := by decide +kernel
def jc_X12_isDigit : List (List JR) := [[some (.aload_n 0, 1, 0), some (.iload_n 1, 1, 0), some (.invokevirtual 254, 3, 0), none, none, some (.bipush 48, 2, 0), none, some (.if_icmp .lt 17, 3, 24), none, none, some (.aload_n 0, 1, 0), some (.iload_n 1, 1, 0), some (.invokevirtual 254, 3, 0), none, none, some (.bipush 57, 2, 0)],
  [none, some (.if_icmp .gt 7, 3, 24), none, none, some (.iconst 1, 1, 0), some (.goto 4, 3, 25), none, none, some (.iconst 0, 1, 0), some (.ireturn, 1, 0)]]
def jm_X12_isDigit : JM := (jc_X12_isDigit, 12, 0, 0, 1, 0, yX12_isDigit, cX12_isDigit, 2, (some .boolean))
theorem jd_X12_isDigit : jdOK cX12_isDigit 0 jc_X12_isDigit = true := by decide +kernel
def jc_X12_numToken : List (List JR) := [[some (.aload_n 0, 1, 0), some (.getfield 279, 3, 0), none, none, some (.iconst 1, 1, 0), some (.iadd, 1, 0), some (.istore_n 1, 1, 0), some (.aload_n 0, 1, 0), some (.iload_n 1, 1, 0), some (.invokevirtual 302, 3, 0), none, none, some (.ifCond .eq 9, 3, 21), none, none, some (.iinc 1 1, 3, 18)],
  [none, none, some (.goto (-11), 3, 7), none, none, some (.iload_n 1, 1, 0), some (.aload_n 0, 1, 0), some (.getfield 279, 3, 0), none, none, some (.isub, 1, 0), some (.istore_n 2, 1, 0), some (.iconst 0, 1, 0), some (.istore_n 3, 1, 0), some (.aload_n 0, 1, 0), some (.iload_n 1, 1, 0)],
  [some (.invokevirtual 254, 3, 0), none, none, some (.bipush 46, 2, 0), none, some (.if_icmp .ne 33, 3, 70), none, none, some (.aload_n 0, 1, 0), some (.iload_n 1, 1, 0), some (.iconst 1, 1, 0), some (.iadd, 1, 0), some (.invokevirtual 302, 3, 0), none, none, some (.ifCond .eq 23, 3, 70)],
  [none, none, some (.iinc 1 1, 3, 53), none, none, some (.aload_n 0, 1, 0), some (.iload_n 1, 1, 0), some (.invokevirtual 302, 3, 0), none, none, some (.ifCond .eq 12, 3, 70), none, none, some (.iinc 1 1, 3, 64), none, none],
  [some (.iinc 3 1, 3, 67), none, none, some (.goto (-14), 3, 53), none, none, some (.aload_n 0, 1, 0), some (.iload_n 2, 1, 0), some (.iconst 4, 1, 0), some (.if_icmp .gt 8, 3, 81), none, none, some (.iload_n 3, 1, 0), some (.iconst 4, 1, 0), some (.if_icmp .le 7, 3, 85), none],
  [none, some (.iconst 5, 1, 0), some (.goto 4, 3, 86), none, none, some (.iconst 2, 1, 0), some (.putfield 296, 3, 0), none, none, some (.aload_n 0, 1, 0), some (.iload_n 1, 1, 0), some (.putfield 299, 3, 0), none, none, some (.return_, 1, 0)]]
def jm_X12_numToken : JM := (jc_X12_numToken, 12, 0, 0, 0, 0, yX12_numToken, cX12_numToken, 4, none)
theorem jd_X12_numToken : jdOK cX12_numToken 0 jc_X12_numToken = true := by decide +kernel
def jc_X12_text : List (List JR) := [[some (.aload_n 0, 1, 0), some (.getfield 296, 3, 0), none, none, some (.ifCond .ne 10, 3, 14), none, none, some (.aload_n 0, 1, 0), some (.getfield 350, 3, 0), none, none, some (.ifCond .le 234, 3, 245), none, none, some (.aload_n 0, 1, 0), some (.getfield 296, 3, 0)],
  [none, none, some (.iconst 4, 1, 0), some (.if_icmp .eq 13, 3, 32), none, none, some (.aload_n 0, 1, 0), some (.iconst 1, 1, 0), some (.aload_n 0, 1, 0), some (.getfield 279, 3, 0), none, none, some (.invokevirtual 317, 3, 0), none, none, some (.ireturn, 1, 0)],
  [some (.aload_n 0, 1, 0), some (.getfield 293, 3, 0), none, none, some (.iconst 1, 1, 0), some (.if_icmp .eq 11, 3, 48), none, none, some (.aload_n 0, 1, 0), some (.getfield 293, 3, 0), none, none, some (.iconst 2, 1, 0), some (.if_icmp .ne 7, 3, 52), none, none],
  [some (.iconst 1, 1, 0), some (.goto 4, 3, 53), none, none, some (.iconst 0, 1, 0), some (.istore_n 1, 1, 0), some (.iload_n 1, 1, 0), some (.ifCond .eq 22, 3, 77), none, none, some (.aload_n 0, 1, 0), some (.getfield 350, 3, 0), none, none, some (.bipush 6, 2, 0), none],
  [some (.if_icmp .ne 13, 3, 77), none, none, some (.aload_n 0, 1, 0), some (.iconst 2, 1, 0), some (.aload_n 0, 1, 0), some (.getfield 279, 3, 0), none, none, some (.invokevirtual 317, 3, 0), none, none, some (.ireturn, 1, 0), some (.aload_n 0, 1, 0), some (.getfield 293, 3, 0), none],
  [none, some (.ifCond .eq 71, 3, 152), none, none, some (.iload_n 1, 1, 0), some (.ifCond .ne 67, 3, 152), none, none, some (.aload_n 0, 1, 0), some (.getfield 293, 3, 0), none, none, some (.iconst 4, 1, 0), some (.if_icmp .ne 10, 3, 103), none, none],
  [some (.aload_n 0, 1, 0), some (.getfield 350, 3, 0), none, none, some (.ifCond .gt 52, 3, 152), none, none, some (.aload_n 0, 1, 0), some (.getfield 293, 3, 0), none, none, some (.iconst 3, 1, 0), some (.if_icmp .ne 48, 3, 156), none, none, some (.aload_n 0, 1, 0)],
  [some (.getfield 350, 3, 0), none, none, some (.ifCond .le 41, 3, 156), none, none, some (.aload_n 0, 1, 0), some (.getfield 52, 3, 0), none, none, some (.aload_n 0, 1, 0), some (.getfield 95, 3, 0), none, none, some (.aload_n 0, 1, 0), some (.getfield 350, 3, 0)],
  [none, none, some (.iconst 1, 1, 0), some (.isub, 1, 0), some (.iaload, 1, 0), some (.iaload, 1, 0), some (.iconst 2, 1, 0), some (.if_icmp .ne 21, 3, 156), none, none, some (.aload_n 0, 1, 0), some (.getfield 98, 3, 0), none, none, some (.aload_n 0, 1, 0), some (.getfield 350, 3, 0)],
  [none, none, some (.iconst 1, 1, 0), some (.isub, 1, 0), some (.iaload, 1, 0), some (.ifCond .ge 7, 3, 156), none, none, some (.iconst 1, 1, 0), some (.goto 4, 3, 157), none, none, some (.iconst 0, 1, 0), some (.istore_n 2, 1, 0), some (.iload_n 2, 1, 0), some (.ifCond .ne 13, 3, 172)],
  [none, none, some (.aload_n 0, 1, 0), some (.iconst 1, 1, 0), some (.aload_n 0, 1, 0), some (.getfield 279, 3, 0), none, none, some (.invokevirtual 317, 3, 0), none, none, some (.ireturn, 1, 0), some (.aload_n 0, 1, 0), some (.getfield 293, 3, 0), none, none],
  [some (.ifCond .ne 10, 3, 186), none, none, some (.aload_n 0, 1, 0), some (.invokevirtual 356, 3, 0), none, none, some (.goto 52, 3, 235), none, none, some (.aload_n 0, 1, 0), some (.getfield 293, 3, 0), none, none, some (.iconst 1, 1, 0), some (.if_icmp .ne 10, 3, 201)],
  [none, none, some (.aload_n 0, 1, 0), some (.invokevirtual 359, 3, 0), none, none, some (.goto 37, 3, 235), none, none, some (.aload_n 0, 1, 0), some (.getfield 293, 3, 0), none, none, some (.iconst 2, 1, 0), some (.if_icmp .ne 10, 3, 216), none],
  [none, some (.aload_n 0, 1, 0), some (.invokevirtual 362, 3, 0), none, none, some (.goto 22, 3, 235), none, none, some (.aload_n 0, 1, 0), some (.getfield 293, 3, 0), none, none, some (.iconst 3, 1, 0), some (.if_icmp .ne 10, 3, 231), none, none],
  [some (.aload_n 0, 1, 0), some (.invokevirtual 365, 3, 0), none, none, some (.goto 7, 3, 235), none, none, some (.aload_n 0, 1, 0), some (.invokevirtual 368, 3, 0), none, none, some (.istore_n 3, 1, 0), some (.iload_n 3, 1, 0), some (.ifCond .ne 5, 3, 242), none, none],
  [some (.iconst 0, 1, 0), some (.ireturn, 1, 0), some (.goto (-242), 3, 0), none, none, some (.iconst 1, 1, 0), some (.ireturn, 1, 0)]]
def jm_X12_text : JM := (jc_X12_text, 12, 0, 0, 0, 0, yX12_text, cX12_text, 4, (some .boolean))
theorem jd_X12_text : jdOK cX12_text 0 jc_X12_text = true := by decide +kernel
def jc_X12_stop : List (List JR) := [[some (.aload_n 0, 1, 0), some (.iload_n 1, 1, 0), some (.putfield 311, 3, 0), none, none, some (.aload_n 0, 1, 0), some (.iload_n 2, 1, 0), some (.putfield 13, 3, 0), none, none, some (.iconst 0, 1, 0), some (.ireturn, 1, 0)]]
def jm_X12_stop : JM := (jc_X12_stop, 12, 0, 0, 2, 0, yX12_stop, cX12_stop, 3, (some .boolean))
theorem jd_X12_stop : jdOK cX12_stop 0 jc_X12_stop = true := by decide +kernel
def jc_X12_letTold : List (List JR) := [[some (.aload_n 0, 1, 0), some (.getfield 279, 3, 0), none, none, some (.istore_n 1, 1, 0), some (.aload_n 0, 1, 0), some (.invokevirtual 326, 3, 0), none, none, some (.ifCond .ne 5, 3, 14), none, none, some (.iconst 0, 1, 0), some (.ireturn, 1, 0), some (.aload_n 0, 1, 0), some (.getfield 296, 3, 0)],
  [none, none, some (.iconst 1, 1, 0), some (.if_icmp .eq 13, 3, 32), none, none, some (.aload_n 0, 1, 0), some (.iconst 1, 1, 0), some (.aload_n 0, 1, 0), some (.getfield 279, 3, 0), none, none, some (.invokevirtual 317, 3, 0), none, none, some (.ireturn, 1, 0)],
  [some (.aload_n 0, 1, 0), some (.invokevirtual 337, 3, 0), none, none, some (.istore_n 2, 1, 0), some (.iload_n 2, 1, 0), some (.ifCond .ge 13, 3, 51), none, none, some (.aload_n 0, 1, 0), some (.iconst 2, 1, 0), some (.aload_n 0, 1, 0), some (.getfield 279, 3, 0), none, none, some (.invokevirtual 317, 3, 0)],
  [none, none, some (.ireturn, 1, 0), some (.aload_n 0, 1, 0), some (.iconst 0, 1, 0), some (.iload_n 1, 1, 0), some (.invokevirtual 341, 3, 0), none, none, some (.istore_n 3, 1, 0), some (.aload_n 0, 1, 0), some (.getfield 58, 3, 0), none, none, some (.iload_n 3, 1, 0), some (.iload_n 2, 1, 0)],
  [some (.iastore, 1, 0), some (.aload_n 0, 1, 0), some (.getfield 61, 3, 0), none, none, some (.iload_n 3, 1, 0), some (.aload_n 0, 1, 0), some (.getfield 67, 3, 0), none, none, some (.iconst 1, 1, 0), some (.iaload, 1, 0), some (.iastore, 1, 0), some (.aload_n 0, 1, 0), some (.invokevirtual 326, 3, 0), none],
  [none, some (.ifCond .eq 12, 3, 93), none, none, some (.aload_n 0, 1, 0), some (.bipush 61, 2, 0), none, some (.invokevirtual 344, 3, 0), none, none, some (.ifCond .ne 5, 3, 95), none, none, some (.iconst 0, 1, 0), some (.ireturn, 1, 0), some (.iconst 1, 1, 0)],
  [some (.istore 4, 2, 0), none, some (.iconst 0, 1, 0), some (.istore 5, 2, 0), none, some (.iload 4, 2, 0), none, some (.ifCond .eq 115, 3, 218), none, none, some (.aload_n 0, 1, 0), some (.getfield 296, 3, 0), none, none, some (.iconst 4, 1, 0), some (.if_icmp .ne 19, 3, 130)],
  [none, none, some (.aload_n 0, 1, 0), some (.getfield 293, 3, 0), none, none, some (.bipush 6, 2, 0), none, some (.if_icmp .lt 10, 3, 130), none, none, some (.aload_n 0, 1, 0), some (.getfield 293, 3, 0), none, none, some (.goto 4, 3, 131)],
  [none, none, some (.iconst (-1), 1, 0), some (.istore 6, 2, 0), none, some (.iload 6, 2, 0), none, some (.ifCond .lt 12, 3, 147), none, none, some (.aload_n 0, 1, 0), some (.invokevirtual 326, 3, 0), none, none, some (.ifCond .ne 5, 3, 147), none],
  [none, some (.iconst 0, 1, 0), some (.ireturn, 1, 0), some (.aload_n 0, 1, 0), some (.iload 6, 2, 0), none, some (.iload 5, 2, 0), none, some (.invokevirtual 347, 3, 0), none, none, some (.ifCond .ne 5, 3, 160), none, none, some (.iconst 0, 1, 0), some (.ireturn, 1, 0)],
  [some (.aload_n 0, 1, 0), some (.bipush 42, 2, 0), none, some (.invokevirtual 323, 3, 0), none, none, some (.ifCond .ne 12, 3, 178), none, none, some (.aload_n 0, 1, 0), some (.bipush 47, 2, 0), none, some (.invokevirtual 323, 3, 0), none, none, some (.ifCond .eq 7, 3, 182)],
  [none, none, some (.iconst 1, 1, 0), some (.goto 4, 3, 183), none, none, some (.iconst 0, 1, 0), some (.istore 4, 2, 0), none, some (.aload_n 0, 1, 0), some (.bipush 47, 2, 0), none, some (.invokevirtual 323, 3, 0), none, none, some (.ifCond .eq 7, 3, 198)],
  [none, none, some (.iconst 1, 1, 0), some (.goto 4, 3, 199), none, none, some (.iconst 0, 1, 0), some (.istore 5, 2, 0), none, some (.iload 4, 2, 0), none, some (.ifCond .eq 12, 3, 215), none, none, some (.aload_n 0, 1, 0), some (.invokevirtual 326, 3, 0)],
  [none, none, some (.ifCond .ne 5, 3, 215), none, none, some (.iconst 0, 1, 0), some (.ireturn, 1, 0), some (.goto (-114), 3, 101), none, none, some (.aload_n 0, 1, 0), some (.getfield 64, 3, 0), none, none, some (.iload_n 3, 1, 0), some (.aload_n 0, 1, 0)],
  [some (.getfield 67, 3, 0), none, none, some (.iconst 1, 1, 0), some (.iaload, 1, 0), some (.iastore, 1, 0), some (.aload_n 0, 1, 0), some (.getfield 92, 3, 0), none, none, some (.iload_n 2, 1, 0), some (.aload_n 0, 1, 0), some (.getfield 92, 3, 0), none, none, some (.iload_n 2, 1, 0)],
  [some (.baload, 1, 0), some (.ifCond .ne 20, 3, 261), none, none, some (.aload_n 0, 1, 0), some (.getfield 296, 3, 0), none, none, some (.iconst 3, 1, 0), some (.if_icmp .ne 16, 3, 265), none, none, some (.aload_n 0, 1, 0), some (.getfield 293, 3, 0), none, none],
  [some (.bipush 59, 2, 0), none, some (.if_icmp .ne 7, 3, 265), none, none, some (.iconst 1, 1, 0), some (.goto 4, 3, 266), none, none, some (.iconst 0, 1, 0), some (.bastore, 1, 0), some (.aload_n 0, 1, 0), some (.bipush 59, 2, 0), none, some (.invokevirtual 344, 3, 0), none],
  [none, some (.ireturn, 1, 0)]]
def jm_X12_letTold : JM := (jc_X12_letTold, 12, 0, 0, 0, 0, yX12_letTold, cX12_letTold, 7, (some .boolean))
theorem jd_X12_letTold : jdOK cX12_letTold 0 jc_X12_letTold = true := by decide +kernel
def jc_X12_pass : List (List JR) := [[some (.aload_n 0, 1, 0), some (.getfield 314, 3, 0), none, none, some (.sipush 400, 3, 0), none, none, some (.if_icmp .le 13, 3, 20), none, none, some (.aload_n 0, 1, 0), some (.iconst 2, 1, 0), some (.aload_n 0, 1, 0), some (.getfield 279, 3, 0), none, none],
  [some (.invokevirtual 317, 3, 0), none, none, some (.ireturn, 1, 0), some (.aload_n 0, 1, 0), some (.dup, 1, 0), some (.getfield 314, 3, 0), none, none, some (.iconst 1, 1, 0), some (.iadd, 1, 0), some (.putfield 314, 3, 0), none, none, some (.aload_n 0, 1, 0), some (.invokevirtual 320, 3, 0)],
  [none, none, some (.iconst 1, 1, 0), some (.ireturn, 1, 0)]]
def jm_X12_pass : JM := (jc_X12_pass, 12, 0, 0, 0, 0, yX12_pass, cX12_pass, 1, (some .boolean))
theorem jd_X12_pass : jdOK cX12_pass 0 jc_X12_pass = true := by decide +kernel
def jc_X12_named : List (List JR) := [[some (.iconst 0, 1, 0), some (.istore_n 1, 1, 0), some (.iload_n 1, 1, 0), some (.aload_n 0, 1, 0), some (.getfield 85, 3, 0), none, none, some (.iconst 1, 1, 0), some (.iaload, 1, 0), some (.if_icmp .ge 28, 3, 37), none, none, some (.aload_n 0, 1, 0), some (.getfield 88, 3, 0), none, none],
  [some (.bipush 12, 2, 0), none, some (.iload_n 1, 1, 0), some (.iadd, 1, 0), some (.laload, 1, 0), some (.aload_n 0, 1, 0), some (.getfield 285, 3, 0), none, none, some (.lcmp, 1, 0), some (.ifCond .ne 5, 3, 31), none, none, some (.iload_n 1, 1, 0), some (.ireturn, 1, 0), some (.iinc 1 1, 3, 34)],
  [none, none, some (.goto (-32), 3, 2), none, none, some (.aload_n 0, 1, 0), some (.getfield 85, 3, 0), none, none, some (.iconst 1, 1, 0), some (.iaload, 1, 0), some (.bipush 12, 2, 0), none, some (.if_icmp .ne 6, 3, 51), none, none],
  [some (.bipush (-2), 2, 0), none, some (.ireturn, 1, 0), some (.aload_n 0, 1, 0), some (.getfield 92, 3, 0), none, none, some (.aload_n 0, 1, 0), some (.getfield 85, 3, 0), none, none, some (.iconst 1, 1, 0), some (.iaload, 1, 0), some (.iconst 0, 1, 0), some (.bastore, 1, 0), some (.aload_n 0, 1, 0)],
  [some (.getfield 88, 3, 0), none, none, some (.bipush 12, 2, 0), none, some (.aload_n 0, 1, 0), some (.getfield 85, 3, 0), none, none, some (.iconst 1, 1, 0), some (.iaload, 1, 0), some (.iadd, 1, 0), some (.aload_n 0, 1, 0), some (.getfield 285, 3, 0), none, none],
  [some (.lastore, 1, 0), some (.aload_n 0, 1, 0), some (.getfield 85, 3, 0), none, none, some (.iconst 1, 1, 0), some (.dup2, 1, 0), some (.iaload, 1, 0), some (.iconst 1, 1, 0), some (.iadd, 1, 0), some (.iastore, 1, 0), some (.aload_n 0, 1, 0), some (.getfield 85, 3, 0), none, none, some (.iconst 1, 1, 0)],
  [some (.iaload, 1, 0), some (.iconst 1, 1, 0), some (.isub, 1, 0), some (.ireturn, 1, 0)]]
def jm_X12_named : JM := (jc_X12_named, 12, 0, 0, 0, 0, yX12_named, cX12_named, 2, (some .int))
theorem jd_X12_named : jdOK cX12_named 0 jc_X12_named = true := by decide +kernel
def jc_X12_newStep : List (List JR) := [[some (.sipush 410, 3, 0), none, none, some (.aload_n 0, 1, 0), some (.getfield 49, 3, 0), none, none, some (.iconst 1, 1, 0), some (.iaload, 1, 0), some (.iadd, 1, 0), some (.istore_n 3, 1, 0), some (.aload_n 0, 1, 0), some (.getfield 52, 3, 0), none, none, some (.iload_n 3, 1, 0)],
  [some (.iload_n 1, 1, 0), some (.iastore, 1, 0), some (.aload_n 0, 1, 0), some (.getfield 55, 3, 0), none, none, some (.iload_n 3, 1, 0), some (.iload_n 2, 1, 0), some (.iastore, 1, 0), some (.aload_n 0, 1, 0), some (.getfield 49, 3, 0), none, none, some (.iconst 1, 1, 0), some (.dup2, 1, 0), some (.iaload, 1, 0)],
  [some (.iconst 1, 1, 0), some (.iadd, 1, 0), some (.iastore, 1, 0), some (.iload_n 3, 1, 0), some (.ireturn, 1, 0)]]
def jm_X12_newStep : JM := (jc_X12_newStep, 12, 0, 0, 2, 0, yX12_newStep, cX12_newStep, 4, (some .int))
theorem jd_X12_newStep : jdOK cX12_newStep 0 jc_X12_newStep = true := by decide +kernel
def jc_X12_signs : List (List JR) := [[some (.aload_n 0, 1, 0), some (.iload_n 1, 1, 0), some (.invokevirtual 323, 3, 0), none, none, some (.ifCond .eq 10, 3, 15), none, none, some (.aload_n 0, 1, 0), some (.invokevirtual 326, 3, 0), none, none, some (.goto 12, 3, 24), none, none, some (.aload_n 0, 1, 0)],
  [some (.iconst 1, 1, 0), some (.aload_n 0, 1, 0), some (.getfield 279, 3, 0), none, none, some (.invokevirtual 317, 3, 0), none, none, some (.ireturn, 1, 0)]]
def jm_X12_signs : JM := (jc_X12_signs, 12, 0, 0, 1, 0, yX12_signs, cX12_signs, 2, (some .boolean))
theorem jd_X12_signs : jdOK cX12_signs 0 jc_X12_signs = true := by decide +kernel
def jc_X12_isSign : List (List JR) := [[some (.aload_n 0, 1, 0), some (.getfield 296, 3, 0), none, none, some (.iconst 3, 1, 0), some (.if_icmp .ne 15, 3, 20), none, none, some (.aload_n 0, 1, 0), some (.getfield 293, 3, 0), none, none, some (.iload_n 1, 1, 0), some (.if_icmp .ne 7, 3, 20), none, none],
  [some (.iconst 1, 1, 0), some (.goto 4, 3, 21), none, none, some (.iconst 0, 1, 0), some (.ireturn, 1, 0)]]
def jm_X12_isSign : JM := (jc_X12_isSign, 12, 0, 0, 1, 0, yX12_isSign, cX12_isSign, 2, (some .boolean))
theorem jd_X12_isSign : jdOK cX12_isSign 0 jc_X12_isSign = true := by decide +kernel
def jc_X12_atomTold : List (List JR) := [[some (.sipush 210, 3, 0), none, none, some (.aload_n 0, 1, 0), some (.getfield 67, 3, 0), none, none, some (.iconst 1, 1, 0), some (.iaload, 1, 0), some (.iadd, 1, 0), some (.istore_n 3, 1, 0), some (.aload_n 0, 1, 0), some (.getfield 70, 3, 0), none, none, some (.iload_n 3, 1, 0)],
  [some (.iload_n 1, 1, 0), some (.iastore, 1, 0), some (.aload_n 0, 1, 0), some (.getfield 73, 3, 0), none, none, some (.iload_n 3, 1, 0), some (.iload_n 2, 1, 0), some (.iastore, 1, 0), some (.aload_n 0, 1, 0), some (.getfield 76, 3, 0), none, none, some (.iload_n 3, 1, 0), some (.iconst (-1), 1, 0), some (.iastore, 1, 0)],
  [some (.aload_n 0, 1, 0), some (.getfield 79, 3, 0), none, none, some (.iload_n 3, 1, 0), some (.bipush 100, 2, 0), none, some (.iastore, 1, 0), some (.aload_n 0, 1, 0), some (.getfield 82, 3, 0), none, none, some (.iload_n 3, 1, 0), some (.iconst 0, 1, 0), some (.iastore, 1, 0), some (.aload_n 0, 1, 0)],
  [some (.getfield 296, 3, 0), none, none, some (.iconst 2, 1, 0), some (.if_icmp .ne 23, 3, 75), none, none, some (.aload_n 0, 1, 0), some (.iload_n 3, 1, 0), some (.invokevirtual 330, 3, 0), none, none, some (.ifCond .ne 84, 3, 144), none, none, some (.aload_n 0, 1, 0)],
  [some (.iconst 5, 1, 0), some (.aload_n 0, 1, 0), some (.getfield 279, 3, 0), none, none, some (.invokevirtual 333, 3, 0), none, none, some (.goto 72, 3, 144), none, none, some (.aload_n 0, 1, 0), some (.getfield 296, 3, 0), none, none, some (.iconst 1, 1, 0)],
  [some (.if_icmp .ne 54, 3, 134), none, none, some (.aload_n 0, 1, 0), some (.invokevirtual 337, 3, 0), none, none, some (.istore 4, 2, 0), none, some (.iload 4, 2, 0), none, some (.ifCond .ge 13, 3, 104), none, none, some (.aload_n 0, 1, 0), some (.iconst 2, 1, 0)],
  [some (.aload_n 0, 1, 0), some (.getfield 279, 3, 0), none, none, some (.invokevirtual 317, 3, 0), none, none, some (.ireturn, 1, 0), some (.aload_n 0, 1, 0), some (.getfield 92, 3, 0), none, none, some (.iload 4, 2, 0), none, some (.baload, 1, 0), some (.ifCond .ne 12, 3, 123)],
  [none, none, some (.aload_n 0, 1, 0), some (.iconst 4, 1, 0), some (.aload_n 0, 1, 0), some (.getfield 279, 3, 0), none, none, some (.invokevirtual 333, 3, 0), none, none, some (.aload_n 0, 1, 0), some (.getfield 76, 3, 0), none, none, some (.iload_n 3, 1, 0)],
  [some (.iload 4, 2, 0), none, some (.iastore, 1, 0), some (.goto 13, 3, 144), none, none, some (.aload_n 0, 1, 0), some (.iconst 1, 1, 0), some (.aload_n 0, 1, 0), some (.getfield 279, 3, 0), none, none, some (.invokevirtual 317, 3, 0), none, none, some (.ireturn, 1, 0)],
  [some (.aload_n 0, 1, 0), some (.getfield 67, 3, 0), none, none, some (.iconst 1, 1, 0), some (.dup2, 1, 0), some (.iaload, 1, 0), some (.iconst 1, 1, 0), some (.iadd, 1, 0), some (.iastore, 1, 0), some (.aload_n 0, 1, 0), some (.invokevirtual 326, 3, 0), none, none, some (.ireturn, 1, 0)]]
def jm_X12_atomTold : JM := (jc_X12_atomTold, 12, 0, 0, 2, 0, yX12_atomTold, cX12_atomTold, 5, (some .boolean))
theorem jd_X12_atomTold : jdOK cX12_atomTold 0 jc_X12_atomTold = true := by decide +kernel
def jc_X12_numbered : List (List JR) := [[some (.iconst 0, 1, 0), some (.istore_n 2, 1, 0), some (.iconst 0, 1, 0), some (.istore_n 3, 1, 0), some (.iconst 0, 1, 0), some (.istore 4, 2, 0), none, some (.iconst 0, 1, 0), some (.istore 5, 2, 0), none, some (.iconst 0, 1, 0), some (.istore 6, 2, 0), none, some (.iconst 0, 1, 0), some (.istore 7, 2, 0), none],
  [some (.aload_n 0, 1, 0), some (.getfield 279, 3, 0), none, none, some (.istore 8, 2, 0), none, some (.iload 8, 2, 0), none, some (.aload_n 0, 1, 0), some (.getfield 299, 3, 0), none, none, some (.if_icmp .ge 104, 3, 132), none, none, some (.aload_n 0, 1, 0)],
  [some (.getfield 7, 3, 0), none, none, some (.iload 8, 2, 0), none, some (.baload, 1, 0), some (.bipush 46, 2, 0), none, some (.if_icmp .ne 8, 3, 48), none, none, some (.iconst 1, 1, 0), some (.istore_n 3, 1, 0), some (.goto 81, 3, 126), none, none],
  [some (.iload_n 2, 1, 0), some (.iload_n 3, 1, 0), some (.ifCond .eq 7, 3, 57), none, none, some (.iconst 0, 1, 0), some (.goto 4, 3, 58), none, none, some (.iconst 1, 1, 0), some (.iadd, 1, 0), some (.istore_n 2, 1, 0), some (.iinc 7 1, 3, 63), none, none, some (.iload 5, 2, 0)],
  [none, some (.ifCond .gt 15, 3, 80), none, none, some (.aload_n 0, 1, 0), some (.getfield 7, 3, 0), none, none, some (.iload 8, 2, 0), none, some (.baload, 1, 0), some (.bipush 48, 2, 0), none, some (.if_icmp .eq 49, 3, 126), none, none],
  [some (.iload 5, 2, 0), none, some (.ifCond .ne 8, 3, 90), none, none, some (.iload 7, 2, 0), none, some (.goto 5, 3, 92), none, none, some (.iload 6, 2, 0), none, some (.istore 6, 2, 0), none, some (.iload 5, 2, 0), none],
  [some (.iconst 3, 1, 0), some (.if_icmp .ge 22, 3, 119), none, none, some (.bipush 10, 2, 0), none, some (.iload 4, 2, 0), none, some (.imul, 1, 0), some (.aload_n 0, 1, 0), some (.getfield 7, 3, 0), none, none, some (.iload 8, 2, 0), none, some (.baload, 1, 0)],
  [some (.iadd, 1, 0), some (.bipush 48, 2, 0), none, some (.isub, 1, 0), some (.goto 5, 3, 121), none, none, some (.iload 4, 2, 0), none, some (.istore 4, 2, 0), none, some (.iinc 5 1, 3, 126), none, none, some (.iinc 8 1, 3, 129), none],
  [none, some (.goto (-107), 3, 22), none, none, some (.iload 5, 2, 0), none, some (.ifCond .ne 5, 3, 139), none, none, some (.iconst 0, 1, 0), some (.ireturn, 1, 0), some (.iload 5, 2, 0), none, some (.istore 8, 2, 0), none, some (.iload 8, 2, 0)],
  [none, some (.iconst 3, 1, 0), some (.if_icmp .ge 16, 3, 162), none, none, some (.bipush 10, 2, 0), none, some (.iload 4, 2, 0), none, some (.imul, 1, 0), some (.istore 4, 2, 0), none, some (.iinc 8 1, 3, 159), none, none, some (.goto (-16), 3, 143)],
  [none, none, some (.aload_n 0, 1, 0), some (.getfield 79, 3, 0), none, none, some (.iload_n 1, 1, 0), some (.iload 4, 2, 0), none, some (.iastore, 1, 0), some (.aload_n 0, 1, 0), some (.getfield 82, 3, 0), none, none, some (.iload_n 1, 1, 0), some (.iload_n 2, 1, 0)],
  [some (.iload 6, 2, 0), none, some (.isub, 1, 0), some (.iastore, 1, 0), some (.iconst 1, 1, 0), some (.ireturn, 1, 0)]]
def jm_X12_numbered : JM := (jc_X12_numbered, 12, 0, 0, 1, 0, yX12_numbered, cX12_numbered, 9, (some .boolean))
theorem jd_X12_numbered : jdOK cX12_numbered 0 jc_X12_numbered = true := by decide +kernel
def jc_X12_fault : List (List JR) := [[some (.aload_n 0, 1, 0), some (.getfield 311, 3, 0), none, none, some (.ifCond .eq 27, 3, 31), none, none, some (.iload_n 2, 1, 0), some (.aload_n 0, 1, 0), some (.getfield 13, 3, 0), none, none, some (.if_icmp .lt 19, 3, 31), none, none, some (.iload_n 2, 1, 0)],
  [some (.aload_n 0, 1, 0), some (.getfield 13, 3, 0), none, none, some (.if_icmp .ne 21, 3, 41), none, none, some (.iload_n 1, 1, 0), some (.aload_n 0, 1, 0), some (.getfield 311, 3, 0), none, none, some (.if_icmp .ge 13, 3, 41), none, none, some (.aload_n 0, 1, 0)],
  [some (.iload_n 1, 1, 0), some (.putfield 311, 3, 0), none, none, some (.aload_n 0, 1, 0), some (.iload_n 2, 1, 0), some (.putfield 13, 3, 0), none, none, some (.return_, 1, 0)]]
def jm_X12_fault : JM := (jc_X12_fault, 12, 0, 0, 2, 0, yX12_fault, cX12_fault, 3, none)
theorem jd_X12_fault : jdOK cX12_fault 0 jc_X12_fault = true := by decide +kernel
def jc_X12_repeatTold : List (List JR) := [[some (.aload_n 0, 1, 0), some (.getfield 279, 3, 0), none, none, some (.istore_n 1, 1, 0), some (.aload_n 0, 1, 0), some (.invokevirtual 326, 3, 0), none, none, some (.ifCond .ne 5, 3, 14), none, none, some (.iconst 0, 1, 0), some (.ireturn, 1, 0), some (.aload_n 0, 1, 0), some (.getfield 296, 3, 0)],
  [none, none, some (.iconst 2, 1, 0), some (.if_icmp .eq 13, 3, 32), none, none, some (.aload_n 0, 1, 0), some (.iconst 1, 1, 0), some (.aload_n 0, 1, 0), some (.getfield 279, 3, 0), none, none, some (.invokevirtual 317, 3, 0), none, none, some (.ireturn, 1, 0)],
  [some (.iconst 0, 1, 0), some (.istore_n 2, 1, 0), some (.iconst 1, 1, 0), some (.istore_n 3, 1, 0), some (.aload_n 0, 1, 0), some (.getfield 279, 3, 0), none, none, some (.istore 4, 2, 0), none, some (.iload 4, 2, 0), none, some (.aload_n 0, 1, 0), some (.getfield 299, 3, 0), none, none],
  [some (.if_icmp .ge 47, 3, 95), none, none, some (.iload_n 3, 1, 0), some (.ifCond .eq 19, 3, 71), none, none, some (.aload_n 0, 1, 0), some (.getfield 7, 3, 0), none, none, some (.iload 4, 2, 0), none, some (.baload, 1, 0), some (.bipush 46, 2, 0), none],
  [some (.if_icmp .eq 7, 3, 71), none, none, some (.iconst 1, 1, 0), some (.goto 4, 3, 72), none, none, some (.iconst 0, 1, 0), some (.istore_n 3, 1, 0), some (.bipush 10, 2, 0), none, some (.iload_n 2, 1, 0), some (.imul, 1, 0), some (.aload_n 0, 1, 0), some (.getfield 7, 3, 0), none],
  [none, some (.iload 4, 2, 0), none, some (.baload, 1, 0), some (.iadd, 1, 0), some (.bipush 48, 2, 0), none, some (.isub, 1, 0), some (.istore_n 2, 1, 0), some (.iinc 4 1, 3, 92), none, none, some (.goto (-50), 3, 42), none, none, some (.iload_n 3, 1, 0)],
  [some (.ifCond .eq 9, 3, 105), none, none, some (.iload_n 2, 1, 0), some (.bipush 99, 2, 0), none, some (.if_icmp .le 12, 3, 114), none, none, some (.aload_n 0, 1, 0), some (.iconst 5, 1, 0), some (.aload_n 0, 1, 0), some (.getfield 279, 3, 0), none, none, some (.invokevirtual 333, 3, 0)],
  [none, none, some (.aload_n 0, 1, 0), some (.iconst 1, 1, 0), some (.iload_n 1, 1, 0), some (.invokevirtual 341, 3, 0), none, none, some (.istore 4, 2, 0), none, some (.aload_n 0, 1, 0), some (.getfield 58, 3, 0), none, none, some (.iload 4, 2, 0), none],
  [some (.iload_n 2, 1, 0), some (.iastore, 1, 0), some (.aload_n 0, 1, 0), some (.getfield 61, 3, 0), none, none, some (.iload 4, 2, 0), none, some (.aload_n 0, 1, 0), some (.getfield 350, 3, 0), none, none, some (.iastore, 1, 0), some (.aload_n 0, 1, 0), some (.getfield 95, 3, 0), none],
  [none, some (.aload_n 0, 1, 0), some (.getfield 350, 3, 0), none, none, some (.iload 4, 2, 0), none, some (.iastore, 1, 0), some (.aload_n 0, 1, 0), some (.dup, 1, 0), some (.getfield 350, 3, 0), none, none, some (.iconst 1, 1, 0), some (.iadd, 1, 0), some (.putfield 350, 3, 0)],
  [none, none, some (.aload_n 0, 1, 0), some (.invokevirtual 326, 3, 0), none, none, some (.ireturn, 1, 0)]]
def jm_X12_repeatTold : JM := (jc_X12_repeatTold, 12, 0, 0, 0, 0, yX12_repeatTold, cX12_repeatTold, 5, (some .boolean))
theorem jd_X12_repeatTold : jdOK cX12_repeatTold 0 jc_X12_repeatTold = true := by decide +kernel
def jc_X12_ifTold : List (List JR) := [[some (.aload_n 0, 1, 0), some (.getfield 279, 3, 0), none, none, some (.istore_n 1, 1, 0), some (.aload_n 0, 1, 0), some (.invokevirtual 326, 3, 0), none, none, some (.ifCond .ne 5, 3, 14), none, none, some (.iconst 0, 1, 0), some (.ireturn, 1, 0), some (.aload_n 0, 1, 0), some (.iconst 2, 1, 0)],
  [some (.iload_n 1, 1, 0), some (.invokevirtual 341, 3, 0), none, none, some (.istore_n 2, 1, 0), some (.aload_n 0, 1, 0), some (.getfield 58, 3, 0), none, none, some (.iload_n 2, 1, 0), some (.aload_n 0, 1, 0), some (.iconst 5, 1, 0), some (.invokevirtual 353, 3, 0), none, none, some (.ifCond .eq 7, 3, 38)],
  [none, none, some (.iconst 1, 1, 0), some (.goto 4, 3, 39), none, none, some (.iconst 0, 1, 0), some (.iastore, 1, 0), some (.aload_n 0, 1, 0), some (.iconst 5, 1, 0), some (.invokevirtual 353, 3, 0), none, none, some (.ifCond .eq 12, 3, 57), none, none],
  [some (.aload_n 0, 1, 0), some (.invokevirtual 326, 3, 0), none, none, some (.ifCond .ne 5, 3, 57), none, none, some (.iconst 0, 1, 0), some (.ireturn, 1, 0), some (.aload_n 0, 1, 0), some (.getfield 95, 3, 0), none, none, some (.aload_n 0, 1, 0), some (.getfield 350, 3, 0), none],
  [none, some (.iload_n 2, 1, 0), some (.iastore, 1, 0), some (.aload_n 0, 1, 0), some (.getfield 98, 3, 0), none, none, some (.aload_n 0, 1, 0), some (.getfield 350, 3, 0), none, none, some (.iconst (-1), 1, 0), some (.iastore, 1, 0), some (.aload_n 0, 1, 0), some (.dup, 1, 0), some (.getfield 350, 3, 0)],
  [none, none, some (.iconst 1, 1, 0), some (.iadd, 1, 0), some (.putfield 350, 3, 0), none, none, some (.aload_n 0, 1, 0), some (.getfield 67, 3, 0), none, none, some (.iconst 1, 1, 0), some (.iaload, 1, 0), some (.istore_n 3, 1, 0), some (.aload_n 0, 1, 0), some (.iconst (-1), 1, 0)],
  [some (.iconst 0, 1, 0), some (.invokevirtual 347, 3, 0), none, none, some (.ifCond .ne 5, 3, 105), none, none, some (.iconst 0, 1, 0), some (.ireturn, 1, 0), some (.aload_n 0, 1, 0), some (.bipush 60, 2, 0), none, some (.invokevirtual 323, 3, 0), none, none, some (.ifCond .ne 23, 3, 134)],
  [none, none, some (.aload_n 0, 1, 0), some (.sipush 300, 3, 0), none, none, some (.invokevirtual 323, 3, 0), none, none, some (.ifCond .ne 13, 3, 134), none, none, some (.aload_n 0, 1, 0), some (.iconst 1, 1, 0), some (.aload_n 0, 1, 0), some (.getfield 279, 3, 0)],
  [none, none, some (.invokevirtual 317, 3, 0), none, none, some (.ireturn, 1, 0), some (.aload_n 0, 1, 0), some (.getfield 58, 3, 0), none, none, some (.iload_n 2, 1, 0), some (.dup2, 1, 0), some (.iaload, 1, 0), some (.aload_n 0, 1, 0), some (.bipush 60, 2, 0), none],
  [some (.invokevirtual 323, 3, 0), none, none, some (.ifCond .eq 7, 3, 154), none, none, some (.iconst 0, 1, 0), some (.goto 4, 3, 155), none, none, some (.iconst 2, 1, 0), some (.iadd, 1, 0), some (.iastore, 1, 0), some (.aload_n 0, 1, 0), some (.getfield 61, 3, 0), none],
  [none, some (.iload_n 2, 1, 0), some (.iload_n 3, 1, 0), some (.iastore, 1, 0), some (.aload_n 0, 1, 0), some (.invokevirtual 326, 3, 0), none, none, some (.ifCond .eq 16, 3, 184), none, none, some (.aload_n 0, 1, 0), some (.iconst (-1), 1, 0), some (.iconst 0, 1, 0), some (.invokevirtual 347, 3, 0), none],
  [none, some (.ifCond .eq 7, 3, 184), none, none, some (.iconst 1, 1, 0), some (.goto 4, 3, 185), none, none, some (.iconst 0, 1, 0), some (.ireturn, 1, 0)]]
def jm_X12_ifTold : JM := (jc_X12_ifTold, 12, 0, 0, 0, 0, yX12_ifTold, cX12_ifTold, 4, (some .boolean))
theorem jd_X12_ifTold : jdOK cX12_ifTold 0 jc_X12_ifTold = true := by decide +kernel
def jc_X12_isWord : List (List JR) := [[some (.aload_n 0, 1, 0), some (.getfield 296, 3, 0), none, none, some (.iconst 4, 1, 0), some (.if_icmp .ne 15, 3, 20), none, none, some (.aload_n 0, 1, 0), some (.getfield 293, 3, 0), none, none, some (.iload_n 1, 1, 0), some (.if_icmp .ne 7, 3, 20), none, none],
  [some (.iconst 1, 1, 0), some (.goto 4, 3, 21), none, none, some (.iconst 0, 1, 0), some (.ireturn, 1, 0)]]
def jm_X12_isWord : JM := (jc_X12_isWord, 12, 0, 0, 1, 0, yX12_isWord, cX12_isWord, 2, (some .boolean))
theorem jd_X12_isWord : jdOK cX12_isWord 0 jc_X12_isWord = true := by decide +kernel
def jc_X12_elseTold : List (List JR) := [[some (.aload_n 0, 1, 0), some (.getfield 95, 3, 0), none, none, some (.aload_n 0, 1, 0), some (.getfield 350, 3, 0), none, none, some (.iconst 1, 1, 0), some (.isub, 1, 0), some (.iaload, 1, 0), some (.istore_n 1, 1, 0), some (.aload_n 0, 1, 0), some (.bipush 11, 2, 0), none, some (.aload_n 0, 1, 0)],
  [some (.getfield 55, 3, 0), none, none, some (.iload_n 1, 1, 0), some (.iaload, 1, 0), some (.invokevirtual 341, 3, 0), none, none, some (.istore_n 2, 1, 0), some (.aload_n 0, 1, 0), some (.getfield 98, 3, 0), none, none, some (.aload_n 0, 1, 0), some (.getfield 350, 3, 0), none],
  [none, some (.iconst 1, 1, 0), some (.isub, 1, 0), some (.iload_n 2, 1, 0), some (.iastore, 1, 0), some (.aload_n 0, 1, 0), some (.getfield 64, 3, 0), none, none, some (.iload_n 1, 1, 0), some (.aload_n 0, 1, 0), some (.getfield 49, 3, 0), none, none, some (.iconst 1, 1, 0), some (.iaload, 1, 0)],
  [some (.iastore, 1, 0), some (.aload_n 0, 1, 0), some (.invokevirtual 326, 3, 0), none, none, some (.ireturn, 1, 0)]]
def jm_X12_elseTold : JM := (jc_X12_elseTold, 12, 0, 0, 0, 0, yX12_elseTold, cX12_elseTold, 3, (some .boolean))
theorem jd_X12_elseTold : jdOK cX12_elseTold 0 jc_X12_elseTold = true := by decide +kernel
def jc_X12_endTold : List (List JR) := [[some (.aload_n 0, 1, 0), some (.dup, 1, 0), some (.getfield 350, 3, 0), none, none, some (.iconst 1, 1, 0), some (.isub, 1, 0), some (.putfield 350, 3, 0), none, none, some (.aload_n 0, 1, 0), some (.getfield 95, 3, 0), none, none, some (.aload_n 0, 1, 0), some (.getfield 350, 3, 0)],
  [none, none, some (.iaload, 1, 0), some (.istore_n 1, 1, 0), some (.aload_n 0, 1, 0), some (.getfield 52, 3, 0), none, none, some (.iload_n 1, 1, 0), some (.iaload, 1, 0), some (.iconst 1, 1, 0), some (.if_icmp .ne 56, 3, 83), none, none, some (.aload_n 0, 1, 0), some (.bipush 10, 2, 0)],
  [none, some (.aload_n 0, 1, 0), some (.getfield 55, 3, 0), none, none, some (.iload_n 1, 1, 0), some (.iaload, 1, 0), some (.invokevirtual 341, 3, 0), none, none, some (.istore_n 2, 1, 0), some (.aload_n 0, 1, 0), some (.getfield 61, 3, 0), none, none, some (.iload_n 2, 1, 0)],
  [some (.aload_n 0, 1, 0), some (.getfield 61, 3, 0), none, none, some (.iload_n 1, 1, 0), some (.iaload, 1, 0), some (.iastore, 1, 0), some (.aload_n 0, 1, 0), some (.getfield 64, 3, 0), none, none, some (.iload_n 2, 1, 0), some (.iload_n 1, 1, 0), some (.sipush 410, 3, 0), none, none],
  [some (.isub, 1, 0), some (.iconst 1, 1, 0), some (.iadd, 1, 0), some (.iastore, 1, 0), some (.aload_n 0, 1, 0), some (.getfield 64, 3, 0), none, none, some (.iload_n 1, 1, 0), some (.aload_n 0, 1, 0), some (.getfield 49, 3, 0), none, none, some (.iconst 1, 1, 0), some (.iaload, 1, 0), some (.iastore, 1, 0)],
  [some (.goto 50, 3, 130), none, none, some (.aload_n 0, 1, 0), some (.getfield 98, 3, 0), none, none, some (.aload_n 0, 1, 0), some (.getfield 350, 3, 0), none, none, some (.iaload, 1, 0), some (.ifCond .lt 26, 3, 118), none, none, some (.aload_n 0, 1, 0)],
  [some (.getfield 64, 3, 0), none, none, some (.aload_n 0, 1, 0), some (.getfield 98, 3, 0), none, none, some (.aload_n 0, 1, 0), some (.getfield 350, 3, 0), none, none, some (.iaload, 1, 0), some (.aload_n 0, 1, 0), some (.getfield 49, 3, 0), none, none],
  [some (.iconst 1, 1, 0), some (.iaload, 1, 0), some (.iastore, 1, 0), some (.goto 15, 3, 130), none, none, some (.aload_n 0, 1, 0), some (.getfield 64, 3, 0), none, none, some (.iload_n 1, 1, 0), some (.aload_n 0, 1, 0), some (.getfield 49, 3, 0), none, none, some (.iconst 1, 1, 0)],
  [some (.iaload, 1, 0), some (.iastore, 1, 0), some (.aload_n 0, 1, 0), some (.invokevirtual 326, 3, 0), none, none, some (.ireturn, 1, 0)]]
def jm_X12_endTold : JM := (jc_X12_endTold, 12, 0, 0, 0, 0, yX12_endTold, cX12_endTold, 3, (some .boolean))
theorem jd_X12_endTold : jdOK cX12_endTold 0 jc_X12_endTold = true := by decide +kernel
def jc_X11_place : List (List JR) := [[some (.aload_n 0, 1, 0), some (.getfield 48, 3, 0), none, none, some (.ireturn, 1, 0)]]
def jm_X11_place : JM := (jc_X11_place, 11, 0, 0, 0, 0, yX11_place, cX11_place, 1, (some .int))
theorem jd_X11_place : jdOK cX11_place 0 jc_X11_place = true := by decide +kernel
def jc_X12_place : List (List JR) := [[some (.aload_n 0, 1, 0), some (.getfield 13, 3, 0), none, none, some (.ireturn, 1, 0)]]
def jm_X12_place : JM := (jc_X12_place, 12, 0, 0, 0, 0, yX12_place, cX12_place, 1, (some .int))
theorem jd_X12_place : jdOK cX12_place 0 jc_X12_place = true := by decide +kernel
def jc_X11_units : List (List JR) := [[some (.aload_n 0, 1, 0), some (.getfield 10, 3, 0), none, none, some (.iload_n 1, 1, 0), some (.invokevirtual 106, 3, 0), none, none, some (.ireturn, 1, 0)]]
def jm_X11_units : JM := (jc_X11_units, 11, 0, 0, 1, 0, yX11_units, cX11_units, 2, (some .int))
theorem jd_X11_units : jdOK cX11_units 0 jc_X11_units = true := by decide +kernel
def jc_X3_unitsOf : List (List JR) := [[some (.iload_n 1, 1, 0), some (.bipush 100, 2, 0), none, some (.if_icmp .lt 22, 3, 25), none, none, some (.iload_n 1, 1, 0), some (.sipush 999, 3, 0), none, none, some (.if_icmp .gt 15, 3, 25), none, none, some (.aload_n 0, 1, 0), some (.getfield 11, 3, 0), none],
  [none, some (.iload_n 1, 1, 0), some (.bipush 100, 2, 0), none, some (.isub, 1, 0), some (.iaload, 1, 0), some (.goto 4, 3, 26), none, none, some (.iconst (-1), 1, 0), some (.ireturn, 1, 0)]]
def jm_X3_unitsOf : JM := (jc_X3_unitsOf, 3, 0, 0, 1, 0, yX3_unitsOf, cX3_unitsOf, 2, (some .int))
theorem jd_X3_unitsOf : jdOK cX3_unitsOf 0 jc_X3_unitsOf = true := by decide +kernel
def jc_X12_units : List (List JR) := [[some (.iload_n 1, 1, 0), some (.invokestatic 188, 3, 0), none, none, some (.ifCond .eq 12, 3, 16), none, none, some (.aload_n 0, 1, 0), some (.getfield 40, 3, 0), none, none, some (.iload_n 1, 1, 0), some (.iaload, 1, 0), some (.goto 4, 3, 17), none, none],
  [some (.iconst (-1), 1, 0), some (.ireturn, 1, 0)]]
def jm_X12_units : JM := (jc_X12_units, 12, 0, 0, 1, 0, yX12_units, cX12_units, 2, (some .int))
theorem jd_X12_units : jdOK cX12_units 0 jc_X12_units = true := by decide +kernel
def jc_X12_isDigits : List (List JR) := [[some (.iload_n 0, 1, 0), some (.bipush 100, 2, 0), none, some (.if_icmp .lt 14, 3, 17), none, none, some (.iload_n 0, 1, 0), some (.sipush 999, 3, 0), none, none, some (.if_icmp .gt 7, 3, 17), none, none, some (.iconst 1, 1, 0), some (.goto 4, 3, 18), none],
  [none, some (.iconst 0, 1, 0), some (.ireturn, 1, 0)]]
def jm_X12_isDigits : JM := (jc_X12_isDigits, 12, 0, 0, 1, 0, yX12_isDigits, cX12_isDigits, 1, (some .boolean))
theorem jd_X12_isDigits : jdOK cX12_isDigits 0 jc_X12_isDigits = true := by decide +kernel
def jc_X11_rule : List (List JR) := [[some (.aload_n 0, 1, 0), some (.getfield 110, 3, 0), none, none, some (.iconst 4, 1, 0), some (.if_icmp .lt 5, 3, 10), none, none, some (.iconst (-1), 1, 0), some (.ireturn, 1, 0), some (.aload_n 0, 1, 0), some (.getfield 18, 3, 0), none, none, some (.aload_n 0, 1, 0), some (.getfield 110, 3, 0)],
  [none, none, some (.new 16, 3, 0), none, none, some (.dup, 1, 0), some (.invokespecial 113, 3, 0), none, none, some (.aastore, 1, 0), some (.aload_n 0, 1, 0), some (.dup, 1, 0), some (.getfield 110, 3, 0), none, none, some (.iconst 1, 1, 0)],
  [some (.iadd, 1, 0), some (.putfield 110, 3, 0), none, none, some (.aload_n 0, 1, 0), some (.getfield 110, 3, 0), none, none, some (.iconst 1, 1, 0), some (.isub, 1, 0), some (.ireturn, 1, 0)]]
def jm_X11_rule : JM := (jc_X11_rule, 11, 2, 10, 0, 0, yX11_rule, cX11_rule, 1, (some .int))
theorem jd_X11_rule : jdOK cX11_rule 0 jc_X11_rule = true := by decide +kernel
def jc_X6_init : List (List JR) := [[some (.aload_n 0, 1, 0), some (.invokespecial 3, 3, 0), none, none, some (.aload_n 0, 1, 0), some (.bipush 8, 2, 0), none, some (.anewarray 11, 3, 0), none, none, some (.putfield 13, 3, 0), none, none, some (.return_, 1, 0)]]
def jm_X6_init : JM := (jc_X6_init, 6, 1, 8, 0, 1, yX6_init, cX6_init, 1, none)
theorem jd_X6_init : jdOK cX6_init 0 jc_X6_init = true := by decide +kernel
def jc_X12_rule : List (List JR) := [[some (.aload_n 0, 1, 0), some (.getfield 192, 3, 0), none, none, some (.iconst 4, 1, 0), some (.if_icmp .ne 5, 3, 10), none, none, some (.iconst (-1), 1, 0), some (.ireturn, 1, 0), some (.aload_n 0, 1, 0), some (.getfield 17, 3, 0), none, none, some (.aload_n 0, 1, 0), some (.getfield 192, 3, 0)],
  [none, none, some (.iconst 0, 1, 0), some (.iastore, 1, 0), some (.aload_n 0, 1, 0), some (.dup, 1, 0), some (.getfield 192, 3, 0), none, none, some (.iconst 1, 1, 0), some (.iadd, 1, 0), some (.putfield 192, 3, 0), none, none, some (.aload_n 0, 1, 0), some (.getfield 192, 3, 0)],
  [none, none, some (.iconst 1, 1, 0), some (.isub, 1, 0), some (.ireturn, 1, 0)]]
def jm_X12_rule : JM := (jc_X12_rule, 12, 0, 0, 0, 0, yX12_rule, cX12_rule, 1, (some .int))
theorem jd_X12_rule : jdOK cX12_rule 0 jc_X12_rule = true := by decide +kernel
def jc_X11_scale : List (List JR) := [[some (.aload_n 0, 1, 0), some (.iload_n 1, 1, 0), some (.invokevirtual 114, 3, 0), none, none, some (.astore 5, 2, 0), none, some (.aload 5, 2, 0), none, some (.ifnull 13, 3, 22), none, none, some (.iload_n 3, 1, 0), some (.iconst 1, 1, 0), some (.if_icmp .lt 8, 3, 22), none],
  [none, some (.iload_n 3, 1, 0), some (.iconst 3, 1, 0), some (.if_icmp .le 5, 3, 24), none, none, some (.iconst (-1), 1, 0), some (.ireturn, 1, 0), some (.aload 5, 2, 0), none, some (.aload_n 0, 1, 0), some (.getfield 10, 3, 0), none, none, some (.iload_n 2, 1, 0), some (.iload_n 3, 1, 0)],
  [some (.iload 4, 2, 0), none, some (.invokevirtual 118, 3, 0), none, none, some (.ireturn, 1, 0)]]
def jm_X11_scale : JM := (jc_X11_scale, 11, 2, 25, 4, 0, yX11_scale, cX11_scale, 6, (some .int))
theorem jd_X11_scale : jdOK cX11_scale 0 jc_X11_scale = true := by decide +kernel
def jc_X11_ruleAt : List (List JR) := [[some (.iload_n 1, 1, 0), some (.ifCond .lt 20, 3, 21), none, none, some (.iload_n 1, 1, 0), some (.aload_n 0, 1, 0), some (.getfield 110, 3, 0), none, none, some (.if_icmp .ge 12, 3, 21), none, none, some (.aload_n 0, 1, 0), some (.getfield 18, 3, 0), none, none],
  [some (.iload_n 1, 1, 0), some (.aaload, 1, 0), some (.goto 4, 3, 22), none, none, some (.aconst_null, 1, 0), some (.areturn, 1, 0)]]
def jm_X11_ruleAt : JM := (jc_X11_ruleAt, 11, 0, 0, 1, 0, yX11_ruleAt, cX11_ruleAt, 2, (some (.object "SlideWorks$Rule")))
theorem jd_X11_ruleAt : jdOK cX11_ruleAt 0 jc_X11_ruleAt = true := by decide +kernel
def jc_X6_addScale : List (List JR) := [[some (.aload_n 0, 1, 0), some (.getfield 17, 3, 0), none, none, some (.bipush 8, 2, 0), none, some (.if_icmp .lt 5, 3, 11), none, none, some (.iconst (-1), 1, 0), some (.ireturn, 1, 0), some (.aload_n 0, 1, 0), some (.getfield 13, 3, 0), none, none, some (.aload_n 0, 1, 0)],
  [some (.getfield 17, 3, 0), none, none, some (.new 11, 3, 0), none, none, some (.dup, 1, 0), some (.aload_n 1, 1, 0), some (.iload_n 2, 1, 0), some (.iload_n 3, 1, 0), some (.iload 4, 2, 0), none, some (.invokespecial 21, 3, 0), none, none, some (.aastore, 1, 0)],
  [some (.aload_n 0, 1, 0), some (.dup, 1, 0), some (.getfield 17, 3, 0), none, none, some (.iconst 1, 1, 0), some (.iadd, 1, 0), some (.putfield 17, 3, 0), none, none, some (.aload_n 0, 1, 0), some (.getfield 17, 3, 0), none, none, some (.iconst 1, 1, 0), some (.isub, 1, 0)],
  [some (.ireturn, 1, 0)]]
def jm_X6_addScale : JM := (jc_X6_addScale, 6, 2, 25, 4, 0, yX6_addScale, cX6_addScale, 5, (some .int))
theorem jd_X6_addScale : jdOK cX6_addScale 0 jc_X6_addScale = true := by decide +kernel
def jc_X12_scale : List (List JR) := [[some (.aload_n 0, 1, 0), some (.iload_n 1, 1, 0), some (.invokevirtual 195, 3, 0), none, none, some (.ifCond .eq 24, 3, 29), none, none, some (.aload_n 0, 1, 0), some (.getfield 17, 3, 0), none, none, some (.iload_n 1, 1, 0), some (.iaload, 1, 0), some (.bipush 8, 2, 0), none],
  [some (.if_icmp .eq 13, 3, 29), none, none, some (.iload_n 3, 1, 0), some (.iconst 1, 1, 0), some (.if_icmp .lt 8, 3, 29), none, none, some (.iload_n 3, 1, 0), some (.iconst 3, 1, 0), some (.if_icmp .le 5, 3, 31), none, none, some (.iconst (-1), 1, 0), some (.ireturn, 1, 0), some (.bipush 8, 2, 0)],
  [none, some (.iload_n 1, 1, 0), some (.imul, 1, 0), some (.aload_n 0, 1, 0), some (.getfield 17, 3, 0), none, none, some (.iload_n 1, 1, 0), some (.iaload, 1, 0), some (.iadd, 1, 0), some (.istore 5, 2, 0), none, some (.aload_n 0, 1, 0), some (.getfield 21, 3, 0), none, none],
  [some (.iload 5, 2, 0), none, some (.iload_n 2, 1, 0), some (.bastore, 1, 0), some (.aload_n 0, 1, 0), some (.getfield 25, 3, 0), none, none, some (.iload 5, 2, 0), none, some (.iload_n 3, 1, 0), some (.iastore, 1, 0), some (.aload_n 0, 1, 0), some (.getfield 28, 3, 0), none, none],
  [some (.iload 5, 2, 0), none, some (.iload 4, 2, 0), none, some (.bastore, 1, 0), some (.aload_n 0, 1, 0), some (.getfield 17, 3, 0), none, none, some (.iload_n 1, 1, 0), some (.dup2, 1, 0), some (.iaload, 1, 0), some (.iconst 1, 1, 0), some (.iadd, 1, 0), some (.iastore, 1, 0), some (.aload_n 0, 1, 0)],
  [some (.getfield 17, 3, 0), none, none, some (.iload_n 1, 1, 0), some (.iaload, 1, 0), some (.iconst 1, 1, 0), some (.isub, 1, 0), some (.ireturn, 1, 0)]]
def jm_X12_scale : JM := (jc_X12_scale, 12, 0, 0, 4, 0, yX12_scale, cX12_scale, 6, (some .int))
theorem jd_X12_scale : jdOK cX12_scale 0 jc_X12_scale = true := by decide +kernel
def jc_X12_isRule : List (List JR) := [[some (.iload_n 1, 1, 0), some (.ifCond .lt 15, 3, 16), none, none, some (.iload_n 1, 1, 0), some (.aload_n 0, 1, 0), some (.getfield 192, 3, 0), none, none, some (.if_icmp .ge 7, 3, 16), none, none, some (.iconst 1, 1, 0), some (.goto 4, 3, 17), none, none],
  [some (.iconst 0, 1, 0), some (.ireturn, 1, 0)]]
def jm_X12_isRule : JM := (jc_X12_isRule, 12, 0, 0, 1, 0, yX12_isRule, cX12_isRule, 2, (some .boolean))
theorem jd_X12_isRule : jdOK cX12_isRule 0 jc_X12_isRule = true := by decide +kernel
def jc_X11_flaw : List (List JR) := [[some (.aload_n 0, 1, 0), some (.iload_n 1, 1, 0), some (.iload_n 2, 1, 0), some (.invokevirtual 122, 3, 0), none, none, some (.astore 5, 2, 0), none, some (.aload 5, 2, 0), none, some (.ifnull 18, 3, 28), none, none, some (.aload 5, 2, 0), none, some (.iload_n 3, 1, 0)],
  [some (.iload 4, 2, 0), none, some (.invokevirtual 126, 3, 0), none, none, some (.ifCond .eq 7, 3, 28), none, none, some (.iconst 1, 1, 0), some (.goto 4, 3, 29), none, none, some (.iconst 0, 1, 0), some (.ireturn, 1, 0)]]
def jm_X11_flaw : JM := (jc_X11_flaw, 11, 0, 0, 4, 0, yX11_flaw, cX11_flaw, 6, (some .boolean))
theorem jd_X11_flaw : jdOK cX11_flaw 0 jc_X11_flaw = true := by decide +kernel
def jc_X11_scaleAt : List (List JR) := [[some (.aload_n 0, 1, 0), some (.iload_n 1, 1, 0), some (.invokevirtual 114, 3, 0), none, none, some (.astore_n 3, 1, 0), some (.aload_n 3, 1, 0), some (.ifnonnull 7, 3, 14), none, none, some (.aconst_null, 1, 0), some (.goto 8, 3, 19), none, none, some (.aload_n 3, 1, 0), some (.iload_n 2, 1, 0)],
  [some (.invokevirtual 327, 3, 0), none, none, some (.areturn, 1, 0)]]
def jm_X11_scaleAt : JM := (jc_X11_scaleAt, 11, 0, 0, 2, 0, yX11_scaleAt, cX11_scaleAt, 4, (some (.object "SlideWorks$Scale")))
theorem jd_X11_scaleAt : jdOK cX11_scaleAt 0 jc_X11_scaleAt = true := by decide +kernel
def jc_X6_scaleAt : List (List JR) := [[some (.iload_n 1, 1, 0), some (.ifCond .lt 20, 3, 21), none, none, some (.iload_n 1, 1, 0), some (.aload_n 0, 1, 0), some (.getfield 17, 3, 0), none, none, some (.if_icmp .ge 12, 3, 21), none, none, some (.aload_n 0, 1, 0), some (.getfield 13, 3, 0), none, none],
  [some (.iload_n 1, 1, 0), some (.aaload, 1, 0), some (.goto 4, 3, 22), none, none, some (.aconst_null, 1, 0), some (.areturn, 1, 0)]]
def jm_X6_scaleAt : JM := (jc_X6_scaleAt, 6, 0, 0, 1, 0, yX6_scaleAt, cX6_scaleAt, 2, (some (.object "SlideWorks$Scale")))
theorem jd_X6_scaleAt : jdOK cX6_scaleAt 0 jc_X6_scaleAt = true := by decide +kernel
def jc_X8_setFlaw : List (List JR) := [[some (.iload_n 1, 1, 0), some (.ifCond .lt 21, 3, 22), none, none, some (.iload_n 1, 1, 0), some (.bipush 16, 2, 0), none, some (.if_icmp .ge 15, 3, 22), none, none, some (.iload_n 2, 1, 0), some (.bipush (-20), 2, 0), none, some (.if_icmp .lt 9, 3, 22), none, none],
  [some (.iload_n 2, 1, 0), some (.bipush 20, 2, 0), none, some (.if_icmp .le 5, 3, 24), none, none, some (.iconst 0, 1, 0), some (.ireturn, 1, 0), some (.aload_n 0, 1, 0), some (.getfield 32, 3, 0), none, none, some (.iload_n 1, 1, 0), some (.iload_n 2, 1, 0), some (.iastore, 1, 0), some (.iload_n 1, 1, 0)],
  [some (.bipush 15, 2, 0), none, some (.if_icmp .ne 11, 3, 45), none, none, some (.aload_n 0, 1, 0), some (.getfield 32, 3, 0), none, none, some (.bipush 16, 2, 0), none, some (.iload_n 2, 1, 0), some (.iastore, 1, 0), some (.iconst 1, 1, 0), some (.ireturn, 1, 0)]]
def jm_X8_setFlaw : JM := (jc_X8_setFlaw, 8, 0, 0, 2, 0, yX8_setFlaw, cX8_setFlaw, 3, (some .boolean))
theorem jd_X8_setFlaw : jdOK cX8_setFlaw 0 jc_X8_setFlaw = true := by decide +kernel
def jc_X12_flaw : List (List JR) := [[some (.aload_n 0, 1, 0), some (.iload_n 1, 1, 0), some (.iload_n 2, 1, 0), some (.invokevirtual 198, 3, 0), none, none, some (.ifCond .eq 27, 3, 33), none, none, some (.iload_n 3, 1, 0), some (.ifCond .lt 23, 3, 33), none, none, some (.iload_n 3, 1, 0), some (.bipush 15, 2, 0), none],
  [some (.if_icmp .gt 17, 3, 33), none, none, some (.iload 4, 2, 0), none, some (.bipush (-20), 2, 0), none, some (.if_icmp .lt 10, 3, 33), none, none, some (.iload 4, 2, 0), none, some (.bipush 20, 2, 0), none, some (.if_icmp .le 5, 3, 35), none],
  [none, some (.iconst 0, 1, 0), some (.ireturn, 1, 0), some (.aload_n 0, 1, 0), some (.getfield 31, 3, 0), none, none, some (.bipush 16, 2, 0), none, some (.bipush 8, 2, 0), none, some (.iload_n 1, 1, 0), some (.imul, 1, 0), some (.iload_n 2, 1, 0), some (.iadd, 1, 0), some (.imul, 1, 0)],
  [some (.iload_n 3, 1, 0), some (.iadd, 1, 0), some (.iload 4, 2, 0), none, some (.iastore, 1, 0), some (.iconst 1, 1, 0), some (.ireturn, 1, 0)]]
def jm_X12_flaw : JM := (jc_X12_flaw, 12, 0, 0, 4, 0, yX12_flaw, cX12_flaw, 5, (some .boolean))
theorem jd_X12_flaw : jdOK cX12_flaw 0 jc_X12_flaw = true := by decide +kernel
def jc_X12_isScale : List (List JR) := [[some (.aload_n 0, 1, 0), some (.iload_n 1, 1, 0), some (.invokevirtual 195, 3, 0), none, none, some (.ifCond .eq 21, 3, 26), none, none, some (.iload_n 2, 1, 0), some (.ifCond .lt 17, 3, 26), none, none, some (.iload_n 2, 1, 0), some (.aload_n 0, 1, 0), some (.getfield 17, 3, 0), none],
  [none, some (.iload_n 1, 1, 0), some (.iaload, 1, 0), some (.if_icmp .ge 7, 3, 26), none, none, some (.iconst 1, 1, 0), some (.goto 4, 3, 27), none, none, some (.iconst 0, 1, 0), some (.ireturn, 1, 0)]]
def jm_X12_isScale : JM := (jc_X12_isScale, 12, 0, 0, 2, 0, yX12_isScale, cX12_isScale, 3, (some .boolean))
theorem jd_X12_isScale : jdOK cX12_isScale 0 jc_X12_isScale = true := by decide +kernel
def jc_X11_steps : List (List JR) := [[some (.iload_n 1, 1, 0), some (.ifCond .lt 21, 3, 22), none, none, some (.iload_n 1, 1, 0), some (.bipush 20, 2, 0), none, some (.if_icmp .gt 15, 3, 22), none, none, some (.iload_n 2, 1, 0), some (.bipush 9, 2, 0), none, some (.if_icmp .lt 9, 3, 22), none, none],
  [some (.iload_n 2, 1, 0), some (.bipush 40, 2, 0), none, some (.if_icmp .le 5, 3, 24), none, none, some (.iconst 0, 1, 0), some (.ireturn, 1, 0), some (.aload_n 0, 1, 0), some (.getfield 27, 3, 0), none, none, some (.iload_n 1, 1, 0), some (.putfield 132, 3, 0), none, none],
  [some (.aload_n 0, 1, 0), some (.getfield 27, 3, 0), none, none, some (.iload_n 2, 1, 0), some (.putfield 135, 3, 0), none, none, some (.iconst 1, 1, 0), some (.ireturn, 1, 0)]]
def jm_X11_steps : JM := (jc_X11_steps, 11, 0, 0, 2, 0, yX11_steps, cX11_steps, 3, (some .boolean))
theorem jd_X11_steps : jdOK cX11_steps 0 jc_X11_steps = true := by decide +kernel
def jc_X12_steps : List (List JR) := [[some (.iload_n 1, 1, 0), some (.ifCond .lt 21, 3, 22), none, none, some (.iload_n 1, 1, 0), some (.bipush 20, 2, 0), none, some (.if_icmp .gt 15, 3, 22), none, none, some (.iload_n 2, 1, 0), some (.bipush 9, 2, 0), none, some (.if_icmp .lt 9, 3, 22), none, none],
  [some (.iload_n 2, 1, 0), some (.bipush 40, 2, 0), none, some (.if_icmp .le 5, 3, 24), none, none, some (.iconst 0, 1, 0), some (.ireturn, 1, 0), some (.aload_n 0, 1, 0), some (.iload_n 1, 1, 0), some (.putfield 34, 3, 0), none, none, some (.aload_n 0, 1, 0), some (.iload_n 2, 1, 0), some (.putfield 37, 3, 0)],
  [none, none, some (.iconst 1, 1, 0), some (.ireturn, 1, 0)]]
def jm_X12_steps : JM := (jc_X12_steps, 12, 0, 0, 2, 0, yX12_steps, cX12_steps, 3, (some .boolean))
theorem jd_X12_steps : jdOK cX12_steps 0 jc_X12_steps = true := by decide +kernel
def jc_X11_cut : List (List JR) := [[some (.aload_n 0, 1, 0), some (.iload_n 1, 1, 0), some (.iload_n 2, 1, 0), some (.invokevirtual 122, 3, 0), none, none, some (.astore 5, 2, 0), none, some (.aload 5, 2, 0), none, some (.ifnull 14, 3, 24), none, none, some (.aload 5, 2, 0), none, some (.iload_n 3, 1, 0)],
  [some (.iload 4, 2, 0), none, some (.invokevirtual 138, 3, 0), none, none, some (.ifCond .ne 7, 3, 28), none, none, some (.sipush (-1000), 3, 0), none, none, some (.ireturn, 1, 0), some (.aload 5, 2, 0), none, some (.iload_n 3, 1, 0), some (.iload 4, 2, 0)],
  [none, some (.invokestatic 141, 3, 0), none, none, some (.invokevirtual 145, 3, 0), none, none, some (.ireturn, 1, 0)]]
def jm_X11_cut : JM := (jc_X11_cut, 11, 0, 0, 4, 0, yX11_cut, cX11_cut, 6, (some .int))
theorem jd_X11_cut : jdOK cX11_cut 0 jc_X11_cut = true := by decide +kernel
def jc_X8_hasMark : List (List JR) := [[some (.iload_n 1, 1, 0), some (.aload_n 0, 1, 0), some (.getfield 15, 3, 0), none, none, some (.if_icmp .ne 15, 3, 20), none, none, some (.iload_n 2, 1, 0), some (.bipush 100, 2, 0), none, some (.if_icmp .ne 7, 3, 18), none, none, some (.iconst 1, 1, 0), some (.goto 4, 3, 19)],
  [none, none, some (.iconst 0, 1, 0), some (.ireturn, 1, 0), some (.iload_n 1, 1, 0), some (.ifCond .lt 28, 3, 49), none, none, some (.iload_n 1, 1, 0), some (.aload_n 0, 1, 0), some (.getfield 15, 3, 0), none, none, some (.if_icmp .ge 20, 3, 49), none, none],
  [some (.iload_n 2, 1, 0), some (.bipush 100, 2, 0), none, some (.if_icmp .lt 14, 3, 49), none, none, some (.iload_n 2, 1, 0), some (.sipush 999, 3, 0), none, none, some (.if_icmp .gt 7, 3, 49), none, none, some (.iconst 1, 1, 0), some (.goto 4, 3, 50), none],
  [none, some (.iconst 0, 1, 0), some (.ireturn, 1, 0)]]
def jm_X8_hasMark : JM := (jc_X8_hasMark, 8, 0, 0, 2, 0, yX8_hasMark, cX8_hasMark, 3, (some .boolean))
theorem jd_X8_hasMark : jdOK cX8_hasMark 0 jc_X8_hasMark = true := by decide +kernel
def jc_X8_markFor : List (List JR) := [[some (.iload_n 0, 1, 0), some (.sipush 900, 3, 0), none, none, some (.imul, 1, 0), some (.iload_n 1, 1, 0), some (.iadd, 1, 0), some (.bipush 100, 2, 0), none, some (.isub, 1, 0), some (.ireturn, 1, 0)]]
def jm_X8_markFor : JM := (jc_X8_markFor, 8, 0, 0, 2, 0, yX8_markFor, cX8_markFor, 2, (some .int))
theorem jd_X8_markFor : jdOK cX8_markFor 0 jc_X8_markFor = true := by decide +kernel
def jc_X8_cutPlace : List (List JR) := [[some (.iload_n 1, 1, 0), some (.ifCond .lt 12, 3, 13), none, none, some (.iload_n 1, 1, 0), some (.aload_n 0, 1, 0), some (.getfield 28, 3, 0), none, none, some (.arraylength, 1, 0), some (.if_icmp .lt 5, 3, 15), none, none, some (.iconst 0, 1, 0), some (.ireturn, 1, 0), some (.aload_n 0, 1, 0)],
  [some (.getfield 19, 3, 0), none, none, some (.ifCond .eq 16, 3, 35), none, none, some (.sipush 4096, 3, 0), none, none, some (.aload_n 0, 1, 0), some (.getfield 28, 3, 0), none, none, some (.iload_n 1, 1, 0), some (.iaload, 1, 0), some (.isub, 1, 0)],
  [some (.goto 9, 3, 41), none, none, some (.aload_n 0, 1, 0), some (.getfield 28, 3, 0), none, none, some (.iload_n 1, 1, 0), some (.iaload, 1, 0), some (.istore_n 2, 1, 0), some (.iload_n 2, 1, 0), some (.bipush 8, 2, 0), none, some (.ishr, 1, 0), some (.istore_n 3, 1, 0), some (.iload_n 3, 1, 0)],
  [some (.ifCond .lt 23, 3, 71), none, none, some (.iload_n 3, 1, 0), some (.aload_n 0, 1, 0), some (.getfield 32, 3, 0), none, none, some (.arraylength, 1, 0), some (.if_icmp .ge 14, 3, 71), none, none, some (.iload_n 2, 1, 0), some (.aload_n 0, 1, 0), some (.getfield 32, 3, 0), none],
  [none, some (.iload_n 3, 1, 0), some (.iaload, 1, 0), some (.iadd, 1, 0), some (.goto 4, 3, 72), none, none, some (.iload_n 2, 1, 0), some (.ireturn, 1, 0)]]
def jm_X8_cutPlace : JM := (jc_X8_cutPlace, 8, 0, 0, 1, 0, yX8_cutPlace, cX8_cutPlace, 4, (some .int))
theorem jd_X8_cutPlace : jdOK cX8_cutPlace 0 jc_X8_cutPlace = true := by decide +kernel
def jc_X12_cut : List (List JR) := [[some (.aload_n 0, 1, 0), some (.iload_n 1, 1, 0), some (.iload_n 2, 1, 0), some (.invokevirtual 198, 3, 0), none, none, some (.ifCond .eq 19, 3, 25), none, none, some (.aload_n 0, 1, 0), some (.bipush 8, 2, 0), none, some (.iload_n 1, 1, 0), some (.imul, 1, 0), some (.iload_n 2, 1, 0), some (.iadd, 1, 0)],
  [some (.iload_n 3, 1, 0), some (.iload 4, 2, 0), none, some (.invokevirtual 210, 3, 0), none, none, some (.ifCond .ne 7, 3, 29), none, none, some (.sipush (-1000), 3, 0), none, none, some (.ireturn, 1, 0), some (.aload_n 0, 1, 0), some (.bipush 8, 2, 0), none],
  [some (.iload_n 1, 1, 0), some (.imul, 1, 0), some (.iload_n 2, 1, 0), some (.iadd, 1, 0), some (.iload_n 3, 1, 0), some (.iload 4, 2, 0), none, some (.invokevirtual 214, 3, 0), none, none, some (.ireturn, 1, 0)]]
def jm_X12_cut : JM := (jc_X12_cut, 12, 0, 0, 4, 0, yX12_cut, cX12_cut, 5, (some .int))
theorem jd_X12_cut : jdOK cX12_cut 0 jc_X12_cut = true := by decide +kernel
def jc_X12_isMark : List (List JR) := [[some (.iload_n 2, 1, 0), some (.ifCond .lt 20, 3, 21), none, none, some (.iload_n 2, 1, 0), some (.aload_n 0, 1, 0), some (.getfield 25, 3, 0), none, none, some (.iload_n 1, 1, 0), some (.iaload, 1, 0), some (.if_icmp .ge 10, 3, 21), none, none, some (.iload_n 3, 1, 0), some (.invokestatic 188, 3, 0)],
  [none, none, some (.ifCond .ne 19, 3, 37), none, none, some (.iload_n 2, 1, 0), some (.aload_n 0, 1, 0), some (.getfield 25, 3, 0), none, none, some (.iload_n 1, 1, 0), some (.iaload, 1, 0), some (.if_icmp .ne 13, 3, 41), none, none, some (.iload_n 3, 1, 0)],
  [some (.bipush 100, 2, 0), none, some (.if_icmp .ne 7, 3, 41), none, none, some (.iconst 1, 1, 0), some (.goto 4, 3, 42), none, none, some (.iconst 0, 1, 0), some (.ireturn, 1, 0)]]
def jm_X12_isMark : JM := (jc_X12_isMark, 12, 0, 0, 3, 0, yX12_isMark, cX12_isMark, 4, (some .boolean))
theorem jd_X12_isMark : jdOK cX12_isMark 0 jc_X12_isMark = true := by decide +kernel
def jc_X12_cutOf : List (List JR) := [[some (.aload_n 0, 1, 0), some (.iload_n 1, 1, 0), some (.iload_n 2, 1, 0), some (.iload_n 3, 1, 0), some (.invokevirtual 202, 3, 0), none, none, some (.istore 4, 2, 0), none, some (.iload 4, 2, 0), none, some (.aload_n 0, 1, 0), some (.getfield 31, 3, 0), none, none, some (.bipush 16, 2, 0)],
  [none, some (.iload_n 1, 1, 0), some (.imul, 1, 0), some (.iload 4, 2, 0), none, some (.invokestatic 206, 3, 0), none, none, some (.iadd, 1, 0), some (.iaload, 1, 0), some (.iadd, 1, 0), some (.ireturn, 1, 0)]]
def jm_X12_cutOf : JM := (jc_X12_cutOf, 12, 0, 0, 3, 0, yX12_cutOf, cX12_cutOf, 5, (some .int))
theorem jd_X12_cutOf : jdOK cX12_cutOf 0 jc_X12_cutOf = true := by decide +kernel
def jc_X12_trueOf : List (List JR) := [[some (.aload_n 0, 1, 0), some (.getfield 40, 3, 0), none, none, some (.iload_n 3, 1, 0), some (.iaload, 1, 0), some (.sipush 4096, 3, 0), none, none, some (.iload_n 2, 1, 0), some (.imul, 1, 0), some (.iadd, 1, 0), some (.aload_n 0, 1, 0), some (.getfield 25, 3, 0), none, none],
  [some (.iload_n 1, 1, 0), some (.iaload, 1, 0), some (.idiv, 1, 0), some (.istore 4, 2, 0), none, some (.aload_n 0, 1, 0), some (.getfield 28, 3, 0), none, none, some (.iload_n 1, 1, 0), some (.baload, 1, 0), some (.ifCond .eq 12, 3, 39), none, none, some (.sipush 4096, 3, 0), none],
  [none, some (.iload 4, 2, 0), none, some (.isub, 1, 0), some (.goto 5, 3, 41), none, none, some (.iload 4, 2, 0), none, some (.ireturn, 1, 0)]]
def jm_X12_trueOf : JM := (jc_X12_trueOf, 12, 0, 0, 3, 0, yX12_trueOf, cX12_trueOf, 5, (some .int))
theorem jd_X12_trueOf : jdOK cX12_trueOf 0 jc_X12_trueOf = true := by decide +kernel
def jc_X12_stretchOf : List (List JR) := [[some (.iload_n 0, 1, 0), some (.sipush 4096, 3, 0), none, none, some (.if_icmp .lt 8, 3, 12), none, none, some (.bipush 15, 2, 0), none, some (.goto 8, 3, 17), none, none, some (.iload_n 0, 1, 0), some (.sipush 256, 3, 0), none, none],
  [some (.idiv, 1, 0), some (.ireturn, 1, 0)]]
def jm_X12_stretchOf : JM := (jc_X12_stretchOf, 12, 0, 0, 1, 0, yX12_stretchOf, cX12_stretchOf, 1, (some .int))
theorem jd_X12_stretchOf : jdOK cX12_stretchOf 0 jc_X12_stretchOf = true := by decide +kernel
def jc_X11_seen : List (List JR) := [[some (.aload_n 0, 1, 0), some (.iload_n 1, 1, 0), some (.iload_n 2, 1, 0), some (.invokevirtual 122, 3, 0), none, none, some (.astore 6, 2, 0), none, some (.aload 6, 2, 0), none, some (.ifnull 38, 3, 48), none, none, some (.iload_n 3, 1, 0), some (.ifCond .lt 34, 3, 48), none],
  [none, some (.iload_n 3, 1, 0), some (.sipush 4096, 3, 0), none, none, some (.if_icmp .gt 27, 3, 48), none, none, some (.iload 4, 2, 0), none, some (.ifCond .lt 22, 3, 48), none, none, some (.iload 4, 2, 0), none, some (.sipush 999, 3, 0)],
  [none, none, some (.if_icmp .gt 14, 3, 48), none, none, some (.iload 5, 2, 0), none, some (.ifCond .lt 9, 3, 48), none, none, some (.iload 5, 2, 0), none, some (.iconst 2, 1, 0), some (.if_icmp .le 5, 3, 50), none, none],
  [some (.iconst (-1), 1, 0), some (.ireturn, 1, 0), some (.aload 6, 2, 0), none, some (.iload_n 3, 1, 0), some (.iload 4, 2, 0), none, some (.invokevirtual 148, 3, 0), none, none, some (.aload 6, 2, 0), none, some (.iload 5, 2, 0), none, some (.invokevirtual 151, 3, 0), none],
  [none, some (.ireturn, 1, 0)]]
def jm_X11_seen : JM := (jc_X11_seen, 11, 0, 0, 5, 0, yX11_seen, cX11_seen, 7, (some .int))
theorem jd_X11_seen : jdOK cX11_seen 0 jc_X11_seen = true := by decide +kernel
def jc_X8_lookAt : List (List JR) := [[some (.iload_n 2, 1, 0), some (.bipush 29, 2, 0), none, some (.invokestatic 47, 3, 0), none, none, some (.bipush 20, 2, 0), none, some (.iadd, 1, 0), some (.istore_n 3, 1, 0), some (.aload_n 0, 1, 0), some (.getfield 19, 3, 0), none, none, some (.ifCond .eq 11, 3, 25), none],
  [none, some (.sipush 4096, 3, 0), none, none, some (.iload_n 1, 1, 0), some (.isub, 1, 0), some (.goto 4, 3, 26), none, none, some (.iload_n 1, 1, 0), some (.istore 4, 2, 0), none, some (.ldc 50, 2, 0), none, some (.istore 5, 2, 0), none],
  [some (.aload_n 0, 1, 0), some (.iconst 0, 1, 0), some (.putfield 51, 3, 0), none, none, some (.aload_n 0, 1, 0), some (.iconst (-1), 1, 0), some (.putfield 54, 3, 0), none, none, some (.aload_n 0, 1, 0), some (.iconst (-1), 1, 0), some (.putfield 57, 3, 0), none, none, some (.aload_n 0, 1, 0)],
  [some (.iload 4, 2, 0), none, some (.iload_n 3, 1, 0), some (.isub, 1, 0), some (.invokevirtual 60, 3, 0), none, none, some (.istore 6, 2, 0), none, some (.iload 6, 2, 0), none, some (.aload_n 0, 1, 0), some (.getfield 28, 3, 0), none, none, some (.arraylength, 1, 0)],
  [some (.if_icmp .ge 86, 3, 150), none, none, some (.aload_n 0, 1, 0), some (.getfield 28, 3, 0), none, none, some (.iload 6, 2, 0), none, some (.iaload, 1, 0), some (.iload 4, 2, 0), none, some (.iload_n 3, 1, 0), some (.iadd, 1, 0), some (.if_icmp .gt 72, 3, 150), none],
  [none, some (.aload_n 0, 1, 0), some (.iload 6, 2, 0), none, some (.invokevirtual 64, 3, 0), none, none, some (.iload_n 1, 1, 0), some (.isub, 1, 0), some (.invokestatic 67, 3, 0), none, none, some (.istore 7, 2, 0), none, some (.iload 7, 2, 0), none],
  [some (.iload 5, 2, 0), none, some (.if_icmp .ge 13, 3, 111), none, none, some (.iload 7, 2, 0), none, some (.istore 5, 2, 0), none, some (.aload_n 0, 1, 0), some (.iload 6, 2, 0), none, some (.putfield 51, 3, 0), none, none, some (.iload 7, 2, 0)],
  [none, some (.iload_n 2, 1, 0), some (.if_icmp .gt 30, 3, 144), none, none, some (.aload_n 0, 1, 0), some (.aload_n 0, 1, 0), some (.getfield 54, 3, 0), none, none, some (.iconst (-1), 1, 0), some (.if_icmp .ne 8, 3, 131), none, none, some (.iload 6, 2, 0), none],
  [some (.goto 7, 3, 135), none, none, some (.aload_n 0, 1, 0), some (.getfield 54, 3, 0), none, none, some (.putfield 54, 3, 0), none, none, some (.aload_n 0, 1, 0), some (.iload 6, 2, 0), none, some (.putfield 57, 3, 0), none, none],
  [some (.iinc 6 1, 3, 147), none, none, some (.goto (-90), 3, 57), none, none, some (.aload_n 0, 1, 0), some (.getfield 54, 3, 0), none, none, some (.iconst (-1), 1, 0), some (.if_icmp .ne 19, 3, 174), none, none, some (.aload_n 0, 1, 0), some (.aload_n 0, 1, 0)],
  [some (.getfield 51, 3, 0), none, none, some (.putfield 54, 3, 0), none, none, some (.aload_n 0, 1, 0), some (.aload_n 0, 1, 0), some (.getfield 51, 3, 0), none, none, some (.putfield 57, 3, 0), none, none, some (.return_, 1, 0)]]
def jm_X8_lookAt : JM := (jc_X8_lookAt, 8, 0, 0, 2, 0, yX8_lookAt, cX8_lookAt, 8, none)
theorem jd_X8_lookAt : jdOK cX8_lookAt 0 jc_X8_lookAt = true := by decide +kernel
def jc_J9_max : List (List JR) := [[some (.iload_n 0, 1, 0), some (.iload_n 1, 1, 0), some (.if_icmp .lt 7, 3, 9), none, none, some (.iload_n 0, 1, 0), some (.goto 4, 3, 10), none, none, some (.iload_n 1, 1, 0), some (.ireturn, 1, 0)]]
def jm_J9_max : JM := (jc_J9_max, 17, 0, 0, 2, 0, Lib.Math.max.name, Lib.Math.max.code, 2, (some .int))
theorem jd_J9_max : jdOK Lib.Math.max.code 0 jc_J9_max = true := by decide +kernel
def jc_J9_abs : List (List JR) := [[some (.iload_n 0, 1, 0), some (.ifCond .ge 8, 3, 9), none, none, some (.iload_n 0, 1, 0), some (.ineg, 1, 0), some (.goto 4, 3, 10), none, none, some (.iload_n 0, 1, 0), some (.ireturn, 1, 0)]]
def jm_J9_abs : JM := (jc_J9_abs, 17, 0, 0, 1, 0, Lib.Math.abs.name, Lib.Math.abs.code, 1, (some .int))
theorem jd_J9_abs : jdOK Lib.Math.abs.code 0 jc_J9_abs = true := by decide +kernel
def jc_X8_firstFrom : List (List JR) := [[some (.iconst 0, 1, 0), some (.istore_n 2, 1, 0), some (.aload_n 0, 1, 0), some (.getfield 28, 3, 0), none, none, some (.arraylength, 1, 0), some (.istore_n 3, 1, 0), some (.iconst 0, 1, 0), some (.istore 4, 2, 0), none, some (.iload 4, 2, 0), none, some (.bipush 32, 2, 0), none, some (.if_icmp .ge 43, 3, 58)],
  [none, none, some (.iload_n 2, 1, 0), some (.iload_n 3, 1, 0), some (.if_icmp .ge 38, 3, 58), none, none, some (.iload_n 2, 1, 0), some (.iload_n 3, 1, 0), some (.iadd, 1, 0), some (.iconst 2, 1, 0), some (.idiv, 1, 0), some (.istore 5, 2, 0), none, some (.aload_n 0, 1, 0), some (.getfield 28, 3, 0)],
  [none, none, some (.iload 5, 2, 0), none, some (.iaload, 1, 0), some (.iload_n 1, 1, 0), some (.if_icmp .ge 11, 3, 49), none, none, some (.iload 5, 2, 0), none, some (.iconst 1, 1, 0), some (.iadd, 1, 0), some (.istore_n 2, 1, 0), some (.goto 6, 3, 52), none],
  [none, some (.iload 5, 2, 0), none, some (.istore_n 3, 1, 0), some (.iinc 4 1, 3, 55), none, none, some (.goto (-44), 3, 11), none, none, some (.iload_n 2, 1, 0), some (.ireturn, 1, 0)]]
def jm_X8_firstFrom : JM := (jc_X8_firstFrom, 8, 0, 0, 1, 0, yX8_firstFrom, cX8_firstFrom, 6, (some .int))
theorem jd_X8_firstFrom : jdOK cX8_firstFrom 0 jc_X8_firstFrom = true := by decide +kernel
def jc_X8_sighted : List (List JR) := [[some (.aload_n 0, 1, 0), some (.iload_n 1, 1, 0), some (.invokevirtual 70, 3, 0), none, none, some (.istore_n 2, 1, 0), some (.sipush 1000, 3, 0), none, none, some (.iload_n 2, 1, 0), some (.invokestatic 73, 3, 0), none, none, some (.imul, 1, 0), some (.iload_n 2, 1, 0), some (.invokestatic 76, 3, 0)],
  [none, none, some (.iadd, 1, 0), some (.ireturn, 1, 0)]]
def jm_X8_sighted : JM := (jc_X8_sighted, 8, 0, 0, 1, 0, yX8_sighted, cX8_sighted, 3, (some .int))
theorem jd_X8_sighted : jdOK cX8_sighted 0 jc_X8_sighted = true := by decide +kernel
def jc_X8_sightedMark : List (List JR) := [[some (.iload_n 1, 1, 0), some (.ifCond .ne 8, 3, 9), none, none, some (.aload_n 0, 1, 0), some (.getfield 51, 3, 0), none, none, some (.ireturn, 1, 0), some (.iload_n 1, 1, 0), some (.iconst 1, 1, 0), some (.if_icmp .ne 10, 3, 21), none, none, some (.aload_n 0, 1, 0), some (.getfield 54, 3, 0)],
  [none, none, some (.goto 7, 3, 25), none, none, some (.aload_n 0, 1, 0), some (.getfield 57, 3, 0), none, none, some (.ireturn, 1, 0)]]
def jm_X8_sightedMark : JM := (jc_X8_sightedMark, 8, 0, 0, 1, 0, yX8_sightedMark, cX8_sightedMark, 2, (some .int))
theorem jd_X8_sightedMark : jdOK cX8_sightedMark 0 jc_X8_sightedMark = true := by decide +kernel
def jc_X8_decadeOf : List (List JR) := [[some (.iload_n 0, 1, 0), some (.sipush 900, 3, 0), none, none, some (.idiv, 1, 0), some (.ireturn, 1, 0)]]
def jm_X8_decadeOf : JM := (jc_X8_decadeOf, 8, 0, 0, 1, 0, yX8_decadeOf, cX8_decadeOf, 1, (some .int))
theorem jd_X8_decadeOf : jdOK cX8_decadeOf 0 jc_X8_decadeOf = true := by decide +kernel
def jc_X8_digitsOf : List (List JR) := [[some (.iload_n 0, 1, 0), some (.sipush 900, 3, 0), none, none, some (.irem, 1, 0), some (.bipush 100, 2, 0), none, some (.iadd, 1, 0), some (.ireturn, 1, 0)]]
def jm_X8_digitsOf : JM := (jc_X8_digitsOf, 8, 0, 0, 1, 0, yX8_digitsOf, cX8_digitsOf, 1, (some .int))
theorem jd_X8_digitsOf : jdOK cX8_digitsOf 0 jc_X8_digitsOf = true := by decide +kernel
def jc_X12_seen : List (List JR) := [[some (.aload_n 0, 1, 0), some (.iload_n 1, 1, 0), some (.iload_n 2, 1, 0), some (.invokevirtual 198, 3, 0), none, none, some (.ifCond .eq 38, 3, 44), none, none, some (.iload_n 3, 1, 0), some (.ifCond .lt 34, 3, 44), none, none, some (.iload_n 3, 1, 0), some (.sipush 4096, 3, 0), none],
  [none, some (.if_icmp .gt 27, 3, 44), none, none, some (.iload 4, 2, 0), none, some (.ifCond .lt 22, 3, 44), none, none, some (.iload 4, 2, 0), none, some (.sipush 999, 3, 0), none, none, some (.if_icmp .gt 14, 3, 44), none],
  [none, some (.iload 5, 2, 0), none, some (.ifCond .lt 9, 3, 44), none, none, some (.iload 5, 2, 0), none, some (.iconst 2, 1, 0), some (.if_icmp .le 5, 3, 46), none, none, some (.iconst (-1), 1, 0), some (.ireturn, 1, 0), some (.aload_n 0, 1, 0), some (.bipush 8, 2, 0)],
  [none, some (.iload_n 1, 1, 0), some (.imul, 1, 0), some (.iload_n 2, 1, 0), some (.iadd, 1, 0), some (.iload_n 3, 1, 0), some (.iload 4, 2, 0), none, some (.invokevirtual 222, 3, 0), none, none, some (.aload_n 0, 1, 0), some (.getfield 46, 3, 0), none, none, some (.iload 5, 2, 0)],
  [none, some (.iaload, 1, 0), some (.ireturn, 1, 0)]]
def jm_X12_seen : JM := (jc_X12_seen, 12, 0, 0, 5, 0, yX12_seen, cX12_seen, 6, (some .int))
theorem jd_X12_seen : jdOK cX12_seen 0 jc_X12_seen = true := by decide +kernel
def jc_X12_see : List (List JR) := [[some (.ldc 217, 2, 0), none, some (.istore 4, 2, 0), none, some (.iconst (-1), 1, 0), some (.istore 5, 2, 0), none, some (.iconst (-1), 1, 0), some (.istore 6, 2, 0), none, some (.iconst 0, 1, 0), some (.istore 7, 2, 0), none, some (.iload 7, 2, 0), none, some (.aload_n 0, 1, 0)],
  [some (.getfield 25, 3, 0), none, none, some (.iload_n 1, 1, 0), some (.iaload, 1, 0), some (.if_icmp .gt 126, 3, 147), none, none, some (.iload 7, 2, 0), none, some (.aload_n 0, 1, 0), some (.getfield 25, 3, 0), none, none, some (.iload_n 1, 1, 0), some (.iaload, 1, 0)],
  [some (.if_icmp .ne 8, 3, 40), none, none, some (.bipush 100, 2, 0), none, some (.goto 6, 3, 43), none, none, some (.sipush 999, 3, 0), none, none, some (.istore 8, 2, 0), none, some (.bipush 100, 2, 0), none, some (.istore 9, 2, 0)],
  [none, some (.iload 9, 2, 0), none, some (.iload 8, 2, 0), none, some (.if_icmp .gt 88, 3, 141), none, none, some (.aload_n 0, 1, 0), some (.iload_n 1, 1, 0), some (.iload 7, 2, 0), none, some (.iload 9, 2, 0), none, some (.invokevirtual 214, 3, 0), none],
  [none, some (.iload_n 2, 1, 0), some (.invokestatic 218, 3, 0), none, none, some (.istore 10, 2, 0), none, some (.iload 10, 2, 0), none, some (.iload 4, 2, 0), none, some (.if_icmp .ge 22, 3, 97), none, none, some (.iload 10, 2, 0), none],
  [some (.istore 4, 2, 0), none, some (.aload_n 0, 1, 0), some (.getfield 46, 3, 0), none, none, some (.iconst 0, 1, 0), some (.sipush 1000, 3, 0), none, none, some (.iload 7, 2, 0), none, some (.imul, 1, 0), some (.iload 9, 2, 0), none, some (.iadd, 1, 0)],
  [some (.iastore, 1, 0), some (.iload 10, 2, 0), none, some (.iload_n 3, 1, 0), some (.if_icmp .gt 35, 3, 135), none, none, some (.iload 5, 2, 0), none, some (.ifCond .ge 15, 3, 120), none, none, some (.sipush 1000, 3, 0), none, none, some (.iload 7, 2, 0)],
  [none, some (.imul, 1, 0), some (.iload 9, 2, 0), none, some (.iadd, 1, 0), some (.goto 5, 3, 122), none, none, some (.iload 5, 2, 0), none, some (.istore 5, 2, 0), none, some (.sipush 1000, 3, 0), none, none, some (.iload 7, 2, 0)],
  [none, some (.imul, 1, 0), some (.iload 9, 2, 0), none, some (.iadd, 1, 0), some (.istore 6, 2, 0), none, some (.iinc 9 1, 3, 138), none, none, some (.goto (-89), 3, 49), none, none, some (.iinc 7 1, 3, 144), none, none],
  [some (.goto (-131), 3, 13), none, none, some (.aload_n 0, 1, 0), some (.getfield 46, 3, 0), none, none, some (.iconst 1, 1, 0), some (.iload 5, 2, 0), none, some (.ifCond .ge 12, 3, 166), none, none, some (.aload_n 0, 1, 0), some (.getfield 46, 3, 0), none],
  [none, some (.iconst 0, 1, 0), some (.iaload, 1, 0), some (.goto 5, 3, 168), none, none, some (.iload 5, 2, 0), none, some (.iastore, 1, 0), some (.aload_n 0, 1, 0), some (.getfield 46, 3, 0), none, none, some (.iconst 2, 1, 0), some (.iload 5, 2, 0), none],
  [some (.ifCond .ge 12, 3, 188), none, none, some (.aload_n 0, 1, 0), some (.getfield 46, 3, 0), none, none, some (.iconst 0, 1, 0), some (.iaload, 1, 0), some (.goto 5, 3, 190), none, none, some (.iload 6, 2, 0), none, some (.iastore, 1, 0), some (.return_, 1, 0)]]
def jm_X12_see : JM := (jc_X12_see, 12, 0, 0, 3, 0, yX12_see, cX12_see, 11, none)
theorem jd_X12_see : jdOK cX12_see 0 jc_X12_see = true := by decide +kernel
def jc_X12_apart : List (List JR) := [[some (.iload_n 0, 1, 0), some (.iload_n 1, 1, 0), some (.if_icmp .ge 9, 3, 11), none, none, some (.iload_n 1, 1, 0), some (.iload_n 0, 1, 0), some (.isub, 1, 0), some (.goto 6, 3, 14), none, none, some (.iload_n 0, 1, 0), some (.iload_n 1, 1, 0), some (.isub, 1, 0), some (.ireturn, 1, 0)]]
def jm_X12_apart : JM := (jc_X12_apart, 12, 0, 0, 2, 0, yX12_apart, cX12_apart, 2, (some .int))
theorem jd_X12_apart : jdOK cX12_apart 0 jc_X12_apart = true := by decide +kernel
def jc_X11_take : List (List JR) := [[some (.aload_n 0, 1, 0), some (.iload_n 1, 1, 0), some (.invokevirtual 114, 3, 0), none, none, some (.astore_n 2, 1, 0), some (.aload_n 2, 1, 0), some (.ifnonnull 5, 3, 12), none, none, some (.iconst 0, 1, 0), some (.ireturn, 1, 0), some (.aload_n 0, 1, 0), some (.getfield 27, 3, 0), none, none],
  [some (.aload_n 2, 1, 0), some (.iload_n 1, 1, 0), some (.invokevirtual 154, 3, 0), none, none, some (.iconst 1, 1, 0), some (.ireturn, 1, 0)]]
def jm_X11_take : JM := (jc_X11_take, 11, 0, 0, 1, 0, yX11_take, cX11_take, 3, (some .boolean))
theorem jd_X11_take : jdOK cX11_take 0 jc_X11_take = true := by decide +kernel
def jc_X2_pickUp : List (List JR) := [[some (.aload_n 0, 1, 0), some (.aload_n 1, 1, 0), some (.putfield 21, 3, 0), none, none, some (.aload_n 0, 1, 0), some (.iload_n 2, 1, 0), some (.putfield 18, 3, 0), none, none, some (.aload_n 0, 1, 0), some (.iconst 0, 1, 0), some (.iconst 0, 1, 0), some (.iconst 0, 1, 0), some (.iconst 0, 1, 0), some (.invokevirtual 25, 3, 0)],
  [none, none, some (.return_, 1, 0)]]
def jm_X2_pickUp : JM := (jc_X2_pickUp, 2, 0, 0, 2, 0, yX2_pickUp, cX2_pickUp, 3, none)
theorem jd_X2_pickUp : jdOK cX2_pickUp 0 jc_X2_pickUp = true := by decide +kernel
def jc_X2_setAll : List (List JR) := [[some (.aload_n 0, 1, 0), some (.iload_n 1, 1, 0), some (.putfield 29, 3, 0), none, none, some (.aload_n 0, 1, 0), some (.iload_n 2, 1, 0), some (.putfield 32, 3, 0), none, none, some (.aload_n 0, 1, 0), some (.iload_n 3, 1, 0), some (.putfield 35, 3, 0), none, none, some (.aload_n 0, 1, 0)],
  [some (.iload 4, 2, 0), none, some (.putfield 38, 3, 0), none, none, some (.return_, 1, 0)]]
def jm_X2_setAll : JM := (jc_X2_setAll, 2, 0, 0, 4, 0, yX2_setAll, cX2_setAll, 5, none)
theorem jd_X2_setAll : jdOK cX2_setAll 0 jc_X2_setAll = true := by decide +kernel
def jc_X12_take : List (List JR) := [[some (.aload_n 0, 1, 0), some (.iload_n 1, 1, 0), some (.invokevirtual 195, 3, 0), none, none, some (.ifCond .ne 5, 3, 10), none, none, some (.iconst 0, 1, 0), some (.ireturn, 1, 0), some (.aload_n 0, 1, 0), some (.iload_n 1, 1, 0), some (.putfield 43, 3, 0), none, none, some (.aload_n 0, 1, 0)],
  [some (.iconst 0, 1, 0), some (.putfield 226, 3, 0), none, none, some (.aload_n 0, 1, 0), some (.iconst 0, 1, 0), some (.putfield 229, 3, 0), none, none, some (.aload_n 0, 1, 0), some (.iconst 0, 1, 0), some (.putfield 232, 3, 0), none, none, some (.aload_n 0, 1, 0), some (.iconst 0, 1, 0)],
  [some (.putfield 235, 3, 0), none, none, some (.iconst 1, 1, 0), some (.ireturn, 1, 0)]]
def jm_X12_take : JM := (jc_X12_take, 12, 0, 0, 1, 0, yX12_take, cX12_take, 2, (some .boolean))
theorem jd_X12_take : jdOK cX12_take 0 jc_X12_take = true := by decide +kernel
def jc_X11_hair : List (List JR) := [[some (.aload_n 0, 1, 0), some (.getfield 27, 3, 0), none, none, some (.iload_n 1, 1, 0), some (.invokevirtual 158, 3, 0), none, none, some (.astore 4, 2, 0), none, some (.aload 4, 2, 0), none, some (.ifnull 31, 3, 43), none, none, some (.iload_n 2, 1, 0)],
  [some (.iload_n 3, 1, 0), some (.invokestatic 162, 3, 0), none, none, some (.ifCond .eq 23, 3, 43), none, none, some (.aload_n 0, 1, 0), some (.getfield 27, 3, 0), none, none, some (.aload 4, 2, 0), none, some (.aload 4, 2, 0), none, some (.iload_n 2, 1, 0)],
  [some (.iload_n 3, 1, 0), some (.invokevirtual 165, 3, 0), none, none, some (.iconst 0, 1, 0), some (.invokevirtual 168, 3, 0), none, none, some (.ifCond .ne 5, 3, 45), none, none, some (.iconst (-1), 1, 0), some (.ireturn, 1, 0), some (.aload_n 0, 1, 0), some (.getfield 27, 3, 0), none],
  [none, some (.getfield 172, 3, 0), none, none, some (.ireturn, 1, 0)]]
def jm_X11_hair : JM := (jc_X11_hair, 11, 0, 0, 3, 0, yX11_hair, cX11_hair, 5, (some .int))
theorem jd_X11_hair : jdOK cX11_hair 0 jc_X11_hair = true := by decide +kernel
def jc_X2_scaleInHand : List (List JR) := [[some (.aload_n 0, 1, 0), some (.getfield 21, 3, 0), none, none, some (.ifnonnull 7, 3, 11), none, none, some (.aconst_null, 1, 0), some (.goto 11, 3, 19), none, none, some (.aload_n 0, 1, 0), some (.getfield 21, 3, 0), none, none, some (.iload_n 1, 1, 0)],
  [some (.invokevirtual 50, 3, 0), none, none, some (.areturn, 1, 0)]]
def jm_X2_scaleInHand : JM := (jc_X2_scaleInHand, 2, 0, 0, 1, 0, yX2_scaleInHand, cX2_scaleInHand, 2, (some (.object "SlideWorks$Scale")))
theorem jd_X2_scaleInHand : jdOK cX2_scaleInHand 0 jc_X2_scaleInHand = true := by decide +kernel
def jc_X11_isNumber : List (List JR) := [[some (.iload_n 0, 1, 0), some (.bipush 100, 2, 0), none, some (.if_icmp .lt 26, 3, 29), none, none, some (.iload_n 0, 1, 0), some (.sipush 999, 3, 0), none, none, some (.if_icmp .gt 19, 3, 29), none, none, some (.iload_n 1, 1, 0), some (.bipush (-99), 2, 0), none],
  [some (.if_icmp .lt 13, 3, 29), none, none, some (.iload_n 1, 1, 0), some (.bipush 99, 2, 0), none, some (.if_icmp .gt 7, 3, 29), none, none, some (.iconst 1, 1, 0), some (.goto 4, 3, 30), none, none, some (.iconst 0, 1, 0), some (.ireturn, 1, 0)]]
def jm_X11_isNumber : JM := (jc_X11_isNumber, 11, 0, 0, 2, 0, yX11_isNumber, cX11_isNumber, 2, (some .boolean))
theorem jd_X11_isNumber : jdOK cX11_isNumber 0 jc_X11_isNumber = true := by decide +kernel
def jc_X8_markOfNumber : List (List JR) := [[some (.iload_n 2, 1, 0), some (.aload_n 0, 1, 0), some (.getfield 15, 3, 0), none, none, some (.invokestatic 41, 3, 0), none, none, some (.iload_n 1, 1, 0), some (.invokestatic 44, 3, 0), none, none, some (.ireturn, 1, 0)]]
def jm_X8_markOfNumber : JM := (jc_X8_markOfNumber, 8, 0, 0, 2, 0, yX8_markOfNumber, cX8_markOfNumber, 3, (some .int))
theorem jd_X8_markOfNumber : jdOK cX8_markOfNumber 0 jc_X8_markOfNumber = true := by decide +kernel
def jc_J9_floorMod_7cf53 : List (List JR) := [[some (.iload_n 0, 1, 0), some (.iload_n 1, 1, 0), some (.irem, 1, 0), some (.istore_n 2, 1, 0), some (.iload_n 0, 1, 0), some (.iload_n 1, 1, 0), some (.ixor, 1, 0), some (.ifCond .ge 11, 3, 18), none, none, some (.iload_n 2, 1, 0), some (.ifCond .eq 7, 3, 18), none, none, some (.iload_n 2, 1, 0), some (.iload_n 1, 1, 0)],
  [some (.iadd, 1, 0), some (.ireturn, 1, 0), some (.iload_n 2, 1, 0), some (.ireturn, 1, 0)]]
def jm_J9_floorMod_7cf53 : JM := (jc_J9_floorMod_7cf53, 17, 0, 0, 2, 0, yJ9_floorMod_7cf53, cJ9_floorMod_7cf53, 3, (some .int))
theorem jd_J9_floorMod_7cf53 : jdOK cJ9_floorMod_7cf53 0 jc_J9_floorMod_7cf53 = true := by decide +kernel
def jc_X2_bringHair : List (List JR) := [[some (.aload_n 1, 1, 0), some (.iload_n 2, 1, 0), some (.invokevirtual 56, 3, 0), none, none, some (.aload_n 1, 1, 0), some (.getfield 62, 3, 0), none, none, some (.ifCond .eq 7, 3, 16), none, none, some (.iconst 0, 1, 0), some (.goto 7, 3, 20), none, none],
  [some (.aload_n 0, 1, 0), some (.getfield 29, 3, 0), none, none, some (.iadd, 1, 0), some (.istore 4, 2, 0), none, some (.aload_n 0, 1, 0), some (.iload 4, 2, 0), none, some (.aload_n 1, 1, 0), some (.getfield 62, 3, 0), none, none, some (.ifCond .eq 7, 3, 37), none],
  [none, some (.iconst 0, 1, 0), some (.goto 7, 3, 41), none, none, some (.aload_n 0, 1, 0), some (.getfield 35, 3, 0), none, none, some (.iload_n 3, 1, 0), some (.iadd, 1, 0), some (.invokevirtual 66, 3, 0), none, none, some (.ireturn, 1, 0)]]
def jm_X2_bringHair : JM := (jc_X2_bringHair, 2, 0, 0, 3, 0, yX2_bringHair, cX2_bringHair, 5, (some .boolean))
theorem jd_X2_bringHair : jdOK cX2_bringHair 0 jc_X2_bringHair = true := by decide +kernel
def jc_X2_putHair : List (List JR) := [[some (.iload_n 1, 1, 0), some (.ifCond .lt 10, 3, 11), none, none, some (.iload_n 1, 1, 0), some (.sipush 4096, 3, 0), none, none, some (.if_icmp .le 5, 3, 13), none, none, some (.iconst 0, 1, 0), some (.ireturn, 1, 0), some (.aload_n 0, 1, 0), some (.iload_n 1, 1, 0), some (.putfield 32, 3, 0)],
  [none, none, some (.aload_n 0, 1, 0), some (.aload_n 0, 1, 0), some (.getfield 9, 3, 0), none, none, some (.iload_n 2, 1, 0), some (.iadd, 1, 0), some (.putfield 38, 3, 0), none, none, some (.aload_n 0, 1, 0), some (.dup, 1, 0), some (.getfield 44, 3, 0), none],
  [none, some (.iconst 1, 1, 0), some (.iadd, 1, 0), some (.putfield 44, 3, 0), none, none, some (.iconst 1, 1, 0), some (.ireturn, 1, 0)]]
def jm_X2_putHair : JM := (jc_X2_putHair, 2, 0, 0, 2, 0, yX2_putHair, cX2_putHair, 3, (some .boolean))
theorem jd_X2_putHair : jdOK cX2_putHair 0 jc_X2_putHair = true := by decide +kernel
def jc_X12_hair : List (List JR) := [[some (.aload_n 0, 1, 0), some (.getfield 43, 3, 0), none, none, some (.ifCond .lt 23, 3, 27), none, none, some (.aload_n 0, 1, 0), some (.aload_n 0, 1, 0), some (.getfield 43, 3, 0), none, none, some (.iload_n 1, 1, 0), some (.invokevirtual 198, 3, 0), none, none],
  [some (.ifCond .eq 11, 3, 27), none, none, some (.iload_n 2, 1, 0), some (.iload_n 3, 1, 0), some (.invokestatic 238, 3, 0), none, none, some (.ifCond .ne 5, 3, 29), none, none, some (.iconst (-1), 1, 0), some (.ireturn, 1, 0), some (.bipush 8, 2, 0), none, some (.aload_n 0, 1, 0)],
  [some (.getfield 43, 3, 0), none, none, some (.imul, 1, 0), some (.iload_n 1, 1, 0), some (.iadd, 1, 0), some (.istore 4, 2, 0), none, some (.aload_n 0, 1, 0), some (.iload 4, 2, 0), none, some (.iload_n 3, 1, 0), some (.aload_n 0, 1, 0), some (.getfield 25, 3, 0), none, none],
  [some (.iload 4, 2, 0), none, some (.iaload, 1, 0), some (.invokestatic 241, 3, 0), none, none, some (.iload_n 2, 1, 0), some (.iconst 0, 1, 0), some (.invokevirtual 244, 3, 0), none, none, some (.ifCond .eq 10, 3, 69), none, none, some (.aload_n 0, 1, 0), some (.getfield 229, 3, 0)],
  [none, none, some (.goto 4, 3, 70), none, none, some (.iconst (-1), 1, 0), some (.ireturn, 1, 0)]]
def jm_X12_hair : JM := (jc_X12_hair, 12, 0, 0, 3, 0, yX12_hair, cX12_hair, 5, (some .int))
theorem jd_X12_hair : jdOK cX12_hair 0 jc_X12_hair = true := by decide +kernel
def jc_X12_isNumber : List (List JR) := [[some (.iload_n 0, 1, 0), some (.invokestatic 188, 3, 0), none, none, some (.ifCond .eq 19, 3, 23), none, none, some (.iload_n 1, 1, 0), some (.bipush (-99), 2, 0), none, some (.if_icmp .lt 13, 3, 23), none, none, some (.iload_n 1, 1, 0), some (.bipush 99, 2, 0), none],
  [some (.if_icmp .gt 7, 3, 23), none, none, some (.iconst 1, 1, 0), some (.goto 4, 3, 24), none, none, some (.iconst 0, 1, 0), some (.ireturn, 1, 0)]]
def jm_X12_isNumber : JM := (jc_X12_isNumber, 12, 0, 0, 2, 0, yX12_isNumber, cX12_isNumber, 2, (some .boolean))
theorem jd_X12_isNumber : jdOK cX12_isNumber 0 jc_X12_isNumber = true := by decide +kernel
def jc_X12_decade : List (List JR) := [[some (.iload_n 0, 1, 0), some (.iload_n 1, 1, 0), some (.irem, 1, 0), some (.istore_n 2, 1, 0), some (.iload_n 2, 1, 0), some (.ifCond .ge 9, 3, 14), none, none, some (.iload_n 2, 1, 0), some (.iload_n 1, 1, 0), some (.iadd, 1, 0), some (.goto 4, 3, 15), none, none, some (.iload_n 2, 1, 0), some (.ireturn, 1, 0)]]
def jm_X12_decade : JM := (jc_X12_decade, 12, 0, 0, 2, 0, yX12_decade, cX12_decade, 3, (some .int))
theorem jd_X12_decade : jdOK cX12_decade 0 jc_X12_decade = true := by decide +kernel
def jc_X12_hairTo : List (List JR) := [[some (.aload_n 0, 1, 0), some (.iload_n 1, 1, 0), some (.iload_n 2, 1, 0), some (.iload_n 3, 1, 0), some (.invokevirtual 214, 3, 0), none, none, some (.aload_n 0, 1, 0), some (.getfield 21, 3, 0), none, none, some (.iload_n 1, 1, 0), some (.baload, 1, 0), some (.ifCond .eq 7, 3, 20), none, none],
  [some (.iconst 0, 1, 0), some (.goto 7, 3, 24), none, none, some (.aload_n 0, 1, 0), some (.getfield 226, 3, 0), none, none, some (.iadd, 1, 0), some (.istore 5, 2, 0), none, some (.iload 5, 2, 0), none, some (.ifCond .lt 11, 3, 40), none, none],
  [some (.iload 5, 2, 0), none, some (.sipush 4096, 3, 0), none, none, some (.if_icmp .le 5, 3, 42), none, none, some (.iconst 0, 1, 0), some (.ireturn, 1, 0), some (.aload_n 0, 1, 0), some (.iload 5, 2, 0), none, some (.putfield 229, 3, 0), none, none],
  [some (.aload_n 0, 1, 0), some (.aload_n 0, 1, 0), some (.getfield 34, 3, 0), none, none, some (.iload 4, 2, 0), none, some (.iadd, 1, 0), some (.aload_n 0, 1, 0), some (.getfield 21, 3, 0), none, none, some (.iload_n 1, 1, 0), some (.baload, 1, 0), some (.ifCond .eq 7, 3, 69), none],
  [none, some (.iconst 0, 1, 0), some (.goto 7, 3, 73), none, none, some (.aload_n 0, 1, 0), some (.getfield 232, 3, 0), none, none, some (.iadd, 1, 0), some (.putfield 235, 3, 0), none, none, some (.iconst 1, 1, 0), some (.ireturn, 1, 0)]]
def jm_X12_hairTo : JM := (jc_X12_hairTo, 12, 0, 0, 4, 0, yX12_hairTo, cX12_hairTo, 6, (some .boolean))
theorem jd_X12_hairTo : jdOK cX12_hairTo 0 jc_X12_hairTo = true := by decide +kernel
def jc_X11_slide : List (List JR) := [[some (.aload_n 0, 1, 0), some (.getfield 27, 3, 0), none, none, some (.iload_n 1, 1, 0), some (.invokevirtual 158, 3, 0), none, none, some (.astore 4, 2, 0), none, some (.aload 4, 2, 0), none, some (.ifnull 19, 3, 31), none, none, some (.aload 4, 2, 0)],
  [none, some (.getfield 175, 3, 0), none, none, some (.ifCond .ne 11, 3, 31), none, none, some (.iload_n 2, 1, 0), some (.iload_n 3, 1, 0), some (.invokestatic 162, 3, 0), none, none, some (.ifCond .ne 7, 3, 35), none, none, some (.sipush (-5000), 3, 0)],
  [none, none, some (.ireturn, 1, 0), some (.aload_n 0, 1, 0), some (.getfield 27, 3, 0), none, none, some (.aload 4, 2, 0), none, some (.aload 4, 2, 0), none, some (.iload_n 2, 1, 0), some (.iload_n 3, 1, 0), some (.invokevirtual 165, 3, 0), none, none],
  [some (.invokevirtual 145, 3, 0), none, none, some (.iconst 0, 1, 0), some (.invokevirtual 179, 3, 0), none, none, some (.ifCond .eq 13, 3, 68), none, none, some (.aload_n 0, 1, 0), some (.getfield 27, 3, 0), none, none, some (.getfield 182, 3, 0), none],
  [none, some (.goto 6, 3, 71), none, none, some (.sipush (-5000), 3, 0), none, none, some (.ireturn, 1, 0)]]
def jm_X11_slide : JM := (jc_X11_slide, 11, 0, 0, 3, 0, yX11_slide, cX11_slide, 5, (some .int))
theorem jd_X11_slide : jdOK cX11_slide 0 jc_X11_slide = true := by decide +kernel
def jc_X2_bringSlide : List (List JR) := [[some (.aload_n 0, 1, 0), some (.aload_n 0, 1, 0), some (.getfield 32, 3, 0), none, none, some (.iload_n 1, 1, 0), some (.isub, 1, 0), some (.aload_n 0, 1, 0), some (.getfield 38, 3, 0), none, none, some (.aload_n 0, 1, 0), some (.getfield 9, 3, 0), none, none, some (.iadd, 1, 0)],
  [some (.iload_n 2, 1, 0), some (.iadd, 1, 0), some (.invokevirtual 72, 3, 0), none, none, some (.ireturn, 1, 0)]]
def jm_X2_bringSlide : JM := (jc_X2_bringSlide, 2, 0, 0, 2, 0, yX2_bringSlide, cX2_bringSlide, 3, (some .boolean))
theorem jd_X2_bringSlide : jdOK cX2_bringSlide 0 jc_X2_bringSlide = true := by decide +kernel
def jc_X2_putSlide : List (List JR) := [[some (.iload_n 1, 1, 0), some (.sipush (-4096), 3, 0), none, none, some (.if_icmp .lt 10, 3, 14), none, none, some (.iload_n 1, 1, 0), some (.sipush 4096, 3, 0), none, none, some (.if_icmp .le 5, 3, 16), none, none, some (.iconst 0, 1, 0), some (.ireturn, 1, 0)],
  [some (.aload_n 0, 1, 0), some (.iload_n 1, 1, 0), some (.putfield 29, 3, 0), none, none, some (.aload_n 0, 1, 0), some (.iload_n 2, 1, 0), some (.putfield 35, 3, 0), none, none, some (.aload_n 0, 1, 0), some (.dup, 1, 0), some (.getfield 41, 3, 0), none, none, some (.iconst 1, 1, 0)],
  [some (.iadd, 1, 0), some (.putfield 41, 3, 0), none, none, some (.iconst 1, 1, 0), some (.ireturn, 1, 0)]]
def jm_X2_putSlide : JM := (jc_X2_putSlide, 2, 0, 0, 2, 0, yX2_putSlide, cX2_putSlide, 3, (some .boolean))
theorem jd_X2_putSlide : jdOK cX2_putSlide 0 jc_X2_putSlide = true := by decide +kernel
def jc_X12_slide : List (List JR) := [[some (.aload_n 0, 1, 0), some (.getfield 43, 3, 0), none, none, some (.ifCond .lt 40, 3, 44), none, none, some (.aload_n 0, 1, 0), some (.aload_n 0, 1, 0), some (.getfield 43, 3, 0), none, none, some (.iload_n 1, 1, 0), some (.invokevirtual 198, 3, 0), none, none],
  [some (.ifCond .eq 28, 3, 44), none, none, some (.aload_n 0, 1, 0), some (.getfield 21, 3, 0), none, none, some (.bipush 8, 2, 0), none, some (.aload_n 0, 1, 0), some (.getfield 43, 3, 0), none, none, some (.imul, 1, 0), some (.iload_n 1, 1, 0), some (.iadd, 1, 0)],
  [some (.baload, 1, 0), some (.ifCond .ne 11, 3, 44), none, none, some (.iload_n 2, 1, 0), some (.iload_n 3, 1, 0), some (.invokestatic 238, 3, 0), none, none, some (.ifCond .ne 7, 3, 48), none, none, some (.sipush (-5000), 3, 0), none, none, some (.ireturn, 1, 0)],
  [some (.bipush 8, 2, 0), none, some (.aload_n 0, 1, 0), some (.getfield 43, 3, 0), none, none, some (.imul, 1, 0), some (.iload_n 1, 1, 0), some (.iadd, 1, 0), some (.istore 4, 2, 0), none, some (.aload_n 0, 1, 0), some (.aload_n 0, 1, 0), some (.getfield 229, 3, 0), none, none],
  [some (.aload_n 0, 1, 0), some (.iload 4, 2, 0), none, some (.iload_n 3, 1, 0), some (.aload_n 0, 1, 0), some (.getfield 25, 3, 0), none, none, some (.iload 4, 2, 0), none, some (.iaload, 1, 0), some (.invokestatic 241, 3, 0), none, none, some (.iload_n 2, 1, 0), some (.invokevirtual 214, 3, 0)],
  [none, none, some (.isub, 1, 0), some (.aload_n 0, 1, 0), some (.getfield 235, 3, 0), none, none, some (.aload_n 0, 1, 0), some (.getfield 34, 3, 0), none, none, some (.iadd, 1, 0), some (.invokevirtual 248, 3, 0), none, none, some (.ifCond .eq 10, 3, 105)],
  [none, none, some (.aload_n 0, 1, 0), some (.getfield 226, 3, 0), none, none, some (.goto 6, 3, 108), none, none, some (.sipush (-5000), 3, 0), none, none, some (.ireturn, 1, 0)]]
def jm_X12_slide : JM := (jc_X12_slide, 12, 0, 0, 3, 0, yX12_slide, cX12_slide, 5, (some .int))
theorem jd_X12_slide : jdOK cX12_slide 0 jc_X12_slide = true := by decide +kernel
def jc_X12_slideTo : List (List JR) := [[some (.iload_n 1, 1, 0), some (.sipush (-4096), 3, 0), none, none, some (.if_icmp .lt 10, 3, 14), none, none, some (.iload_n 1, 1, 0), some (.sipush 4096, 3, 0), none, none, some (.if_icmp .le 5, 3, 16), none, none, some (.iconst 0, 1, 0), some (.ireturn, 1, 0)],
  [some (.aload_n 0, 1, 0), some (.iload_n 1, 1, 0), some (.putfield 226, 3, 0), none, none, some (.aload_n 0, 1, 0), some (.iload_n 2, 1, 0), some (.putfield 232, 3, 0), none, none, some (.iconst 1, 1, 0), some (.ireturn, 1, 0)]]
def jm_X12_slideTo : JM := (jc_X12_slideTo, 12, 0, 0, 2, 0, yX12_slideTo, cX12_slideTo, 3, (some .boolean))
theorem jd_X12_slideTo : jdOK cX12_slideTo 0 jc_X12_slideTo = true := by decide +kernel
def jc_X11_index : List (List JR) := [[some (.aload_n 0, 1, 0), some (.getfield 27, 3, 0), none, none, some (.getfield 185, 3, 0), none, none, some (.ifnonnull 7, 3, 14), none, none, some (.sipush (-5000), 3, 0), none, none, some (.ireturn, 1, 0), some (.aload_n 0, 1, 0), some (.getfield 27, 3, 0)],
  [none, none, some (.iload_n 1, 1, 0), some (.ifCond .eq 9, 3, 28), none, none, some (.sipush 4096, 3, 0), none, none, some (.goto 4, 3, 29), none, none, some (.iconst 0, 1, 0), some (.iconst 0, 1, 0), some (.invokevirtual 179, 3, 0), none],
  [none, some (.ifCond .eq 13, 3, 46), none, none, some (.aload_n 0, 1, 0), some (.getfield 27, 3, 0), none, none, some (.getfield 182, 3, 0), none, none, some (.goto 6, 3, 49), none, none, some (.sipush (-5000), 3, 0), none],
  [none, some (.ireturn, 1, 0)]]
def jm_X11_index : JM := (jc_X11_index, 11, 0, 0, 1, 0, yX11_index, cX11_index, 2, (some .int))
theorem jd_X11_index : jdOK cX11_index 0 jc_X11_index = true := by decide +kernel
def jc_X12_index : List (List JR) := [[some (.aload_n 0, 1, 0), some (.getfield 43, 3, 0), none, none, some (.ifCond .ge 7, 3, 11), none, none, some (.sipush (-5000), 3, 0), none, none, some (.ireturn, 1, 0), some (.aload_n 0, 1, 0), some (.aload_n 0, 1, 0), some (.getfield 229, 3, 0), none, none],
  [some (.iload_n 1, 1, 0), some (.ifCond .eq 9, 3, 26), none, none, some (.sipush 4096, 3, 0), none, none, some (.goto 4, 3, 27), none, none, some (.iconst 0, 1, 0), some (.isub, 1, 0), some (.aload_n 0, 1, 0), some (.getfield 235, 3, 0), none, none],
  [some (.aload_n 0, 1, 0), some (.getfield 34, 3, 0), none, none, some (.iadd, 1, 0), some (.invokevirtual 248, 3, 0), none, none, some (.ifCond .eq 10, 3, 50), none, none, some (.aload_n 0, 1, 0), some (.getfield 226, 3, 0), none, none, some (.goto 6, 3, 53)],
  [none, none, some (.sipush (-5000), 3, 0), none, none, some (.ireturn, 1, 0)]]
def jm_X12_index : JM := (jc_X12_index, 12, 0, 0, 1, 0, yX12_index, cX12_index, 2, (some .int))
theorem jd_X12_index : jdOK cX12_index 0 jc_X12_index = true := by decide +kernel
def jc_X11_look : List (List JR) := [[some (.aload_n 0, 1, 0), some (.getfield 27, 3, 0), none, none, some (.iload_n 1, 1, 0), some (.invokevirtual 158, 3, 0), none, none, some (.astore_n 3, 1, 0), some (.aload_n 3, 1, 0), some (.ifnull 23, 3, 33), none, none, some (.iload_n 2, 1, 0), some (.ifCond .lt 19, 3, 33), none],
  [none, some (.iload_n 2, 1, 0), some (.iconst 2, 1, 0), some (.if_icmp .gt 14, 3, 33), none, none, some (.aload_n 0, 1, 0), some (.getfield 27, 3, 0), none, none, some (.aload_n 3, 1, 0), some (.invokevirtual 189, 3, 0), none, none, some (.ifCond .ne 5, 3, 35), none],
  [none, some (.iconst (-1), 1, 0), some (.ireturn, 1, 0), some (.aload_n 3, 1, 0), some (.iload_n 2, 1, 0), some (.invokevirtual 151, 3, 0), none, none, some (.ireturn, 1, 0)]]
def jm_X11_look : JM := (jc_X11_look, 11, 0, 0, 2, 0, yX11_look, cX11_look, 4, (some .int))
theorem jd_X11_look : jdOK cX11_look 0 jc_X11_look = true := by decide +kernel
def jc_X2_shows : List (List JR) := [[some (.aload_n 1, 1, 0), some (.getfield 62, 3, 0), none, none, some (.ifCond .eq 10, 3, 14), none, none, some (.aload_n 0, 1, 0), some (.getfield 32, 3, 0), none, none, some (.goto 12, 3, 23), none, none, some (.aload_n 0, 1, 0), some (.getfield 32, 3, 0)],
  [none, none, some (.aload_n 0, 1, 0), some (.getfield 29, 3, 0), none, none, some (.isub, 1, 0), some (.istore_n 2, 1, 0), some (.iload_n 2, 1, 0), some (.ifCond .lt 10, 3, 35), none, none, some (.iload_n 2, 1, 0), some (.sipush 4096, 3, 0), none, none],
  [some (.if_icmp .le 5, 3, 37), none, none, some (.iconst 0, 1, 0), some (.ireturn, 1, 0), some (.aload_n 1, 1, 0), some (.iload_n 2, 1, 0), some (.aload_n 0, 1, 0), some (.getfield 15, 3, 0), none, none, some (.aload_n 0, 1, 0), some (.getfield 38, 3, 0), none, none, some (.iadd, 1, 0)],
  [some (.aload_n 1, 1, 0), some (.getfield 62, 3, 0), none, none, some (.ifCond .eq 7, 3, 59), none, none, some (.iconst 0, 1, 0), some (.goto 7, 3, 63), none, none, some (.aload_n 0, 1, 0), some (.getfield 35, 3, 0), none, none, some (.iadd, 1, 0)],
  [some (.invokevirtual 75, 3, 0), none, none, some (.iconst 1, 1, 0), some (.ireturn, 1, 0)]]
def jm_X2_shows : JM := (jc_X2_shows, 2, 0, 0, 1, 0, yX2_shows, cX2_shows, 3, (some .boolean))
theorem jd_X2_shows : jdOK cX2_shows 0 jc_X2_shows = true := by decide +kernel
def jc_X12_look : List (List JR) := [[some (.aload_n 0, 1, 0), some (.getfield 43, 3, 0), none, none, some (.ifCond .lt 24, 3, 28), none, none, some (.aload_n 0, 1, 0), some (.aload_n 0, 1, 0), some (.getfield 43, 3, 0), none, none, some (.iload_n 1, 1, 0), some (.invokevirtual 198, 3, 0), none, none],
  [some (.ifCond .eq 12, 3, 28), none, none, some (.iload_n 2, 1, 0), some (.ifCond .lt 8, 3, 28), none, none, some (.iload_n 2, 1, 0), some (.iconst 2, 1, 0), some (.if_icmp .le 5, 3, 30), none, none, some (.iconst (-1), 1, 0), some (.ireturn, 1, 0), some (.aload_n 0, 1, 0), some (.bipush 8, 2, 0)],
  [none, some (.aload_n 0, 1, 0), some (.getfield 43, 3, 0), none, none, some (.imul, 1, 0), some (.iload_n 1, 1, 0), some (.iadd, 1, 0), some (.invokevirtual 251, 3, 0), none, none, some (.ifCond .eq 12, 3, 55), none, none, some (.aload_n 0, 1, 0), some (.getfield 46, 3, 0)],
  [none, none, some (.iload_n 2, 1, 0), some (.iaload, 1, 0), some (.goto 4, 3, 56), none, none, some (.iconst (-1), 1, 0), some (.ireturn, 1, 0)]]
def jm_X12_look : JM := (jc_X12_look, 12, 0, 0, 2, 0, yX12_look, cX12_look, 3, (some .int))
theorem jd_X12_look : jdOK cX12_look 0 jc_X12_look = true := by decide +kernel
def jc_X12_looks : List (List JR) := [[some (.aload_n 0, 1, 0), some (.getfield 21, 3, 0), none, none, some (.iload_n 1, 1, 0), some (.baload, 1, 0), some (.ifCond .eq 10, 3, 16), none, none, some (.aload_n 0, 1, 0), some (.getfield 229, 3, 0), none, none, some (.goto 12, 3, 25), none, none],
  [some (.aload_n 0, 1, 0), some (.getfield 229, 3, 0), none, none, some (.aload_n 0, 1, 0), some (.getfield 226, 3, 0), none, none, some (.isub, 1, 0), some (.istore_n 2, 1, 0), some (.iload_n 2, 1, 0), some (.ifCond .lt 10, 3, 37), none, none, some (.iload_n 2, 1, 0), some (.sipush 4096, 3, 0)],
  [none, none, some (.if_icmp .le 5, 3, 39), none, none, some (.iconst 0, 1, 0), some (.ireturn, 1, 0), some (.aload_n 0, 1, 0), some (.iload_n 1, 1, 0), some (.iload_n 2, 1, 0), some (.aload_n 0, 1, 0), some (.getfield 37, 3, 0), none, none, some (.aload_n 0, 1, 0), some (.getfield 235, 3, 0)],
  [none, none, some (.iadd, 1, 0), some (.aload_n 0, 1, 0), some (.getfield 21, 3, 0), none, none, some (.iload_n 1, 1, 0), some (.baload, 1, 0), some (.ifCond .eq 7, 3, 64), none, none, some (.iconst 0, 1, 0), some (.goto 7, 3, 68), none, none],
  [some (.aload_n 0, 1, 0), some (.getfield 232, 3, 0), none, none, some (.iadd, 1, 0), some (.invokevirtual 222, 3, 0), none, none, some (.iconst 1, 1, 0), some (.ireturn, 1, 0)]]
def jm_X12_looks : JM := (jc_X12_looks, 12, 0, 0, 1, 0, yX12_looks, cX12_looks, 3, (some .boolean))
theorem jd_X12_looks : jdOK cX12_looks 0 jc_X12_looks = true := by decide +kernel
def jc_X11_state : List (List JR) := [[some (.aload_n 0, 1, 0), some (.getfield 27, 3, 0), none, none, some (.getfield 185, 3, 0), none, none, some (.ifnonnull 7, 3, 14), none, none, some (.sipush (-5000), 3, 0), none, none, some (.ireturn, 1, 0), some (.iload_n 1, 1, 0), some (.tableswitch 73 0 4 #[33, 41, 49, 57, 65], 33, 0)],
  [none, none, none, none, none, none, none, none, none, none, none, none, none, none, none, none],
  [none, none, none, none, none, none, none, none, none, none, none, none, none, none, none, none],
  [some (.aload_n 0, 1, 0), some (.getfield 27, 3, 0), none, none, some (.getfield 193, 3, 0), none, none, some (.ireturn, 1, 0), some (.aload_n 0, 1, 0), some (.getfield 27, 3, 0), none, none, some (.getfield 182, 3, 0), none, none, some (.ireturn, 1, 0)],
  [some (.aload_n 0, 1, 0), some (.getfield 27, 3, 0), none, none, some (.getfield 172, 3, 0), none, none, some (.ireturn, 1, 0), some (.aload_n 0, 1, 0), some (.getfield 27, 3, 0), none, none, some (.getfield 196, 3, 0), none, none, some (.ireturn, 1, 0)],
  [some (.aload_n 0, 1, 0), some (.getfield 27, 3, 0), none, none, some (.getfield 199, 3, 0), none, none, some (.ireturn, 1, 0), some (.sipush (-5000), 3, 0), none, none, some (.ireturn, 1, 0)]]
def jm_X11_state : JM := (jc_X11_state, 11, 0, 0, 1, 0, yX11_state, cX11_state, 2, (some .int))
theorem jd_X11_state : jdOK cX11_state 0 jc_X11_state = true := by decide +kernel
def jc_X12_state : List (List JR) := [[some (.aload_n 0, 1, 0), some (.getfield 43, 3, 0), none, none, some (.ifCond .ge 7, 3, 11), none, none, some (.sipush (-5000), 3, 0), none, none, some (.ireturn, 1, 0), some (.iload_n 1, 1, 0), some (.tableswitch 61 0 4 #[36, 41, 46, 51, 56], 36, 0), none, none, none],
  [none, none, none, none, none, none, none, none, none, none, none, none, none, none, none, none],
  [none, none, none, none, none, none, none, none, none, none, none, none, none, none, none, none],
  [some (.aload_n 0, 1, 0), some (.getfield 43, 3, 0), none, none, some (.ireturn, 1, 0), some (.aload_n 0, 1, 0), some (.getfield 226, 3, 0), none, none, some (.ireturn, 1, 0), some (.aload_n 0, 1, 0), some (.getfield 229, 3, 0), none, none, some (.ireturn, 1, 0), some (.aload_n 0, 1, 0)],
  [some (.getfield 232, 3, 0), none, none, some (.ireturn, 1, 0), some (.aload_n 0, 1, 0), some (.getfield 235, 3, 0), none, none, some (.ireturn, 1, 0), some (.sipush (-5000), 3, 0), none, none, some (.ireturn, 1, 0)]]
def jm_X12_state : JM := (jc_X12_state, 12, 0, 0, 1, 0, yX12_state, cX12_state, 2, (some .int))
theorem jd_X12_state : jdOK cX12_state 0 jc_X12_state = true := by decide +kernel
def jc_X11_run : List (List JR) := [[some (.aload_n 0, 1, 0), some (.getfield 27, 3, 0), none, none, some (.getfield 185, 3, 0), none, none, some (.ifnonnull 5, 3, 12), none, none, some (.iconst (-1), 1, 0), some (.ireturn, 1, 0), some (.aload_n 0, 1, 0), some (.getfield 57, 3, 0), none, none],
  [some (.aload_n 0, 1, 0), some (.getfield 41, 3, 0), none, none, some (.invokevirtual 202, 3, 0), none, none, some (.ifCond .eq 13, 3, 36), none, none, some (.aload_n 0, 1, 0), some (.getfield 27, 3, 0), none, none, some (.getfield 206, 3, 0), none],
  [none, some (.goto 5, 3, 38), none, none, some (.bipush (-2), 2, 0), none, some (.ireturn, 1, 0)]]
def jm_X11_run : JM := (jc_X11_run, 11, 0, 0, 0, 0, yX11_run, cX11_run, 1, (some .int))
theorem jd_X11_run : jdOK cX11_run 0 jc_X11_run = true := by decide +kernel
def jc_X7_perform_0 : List JR := [some (.aload_n 0, 1, 0), some (.getfield 9, 3, 0), none, none, some (.getfield 74, 3, 0), none, none, some (.istore_n 2, 1, 0), some (.aload_n 0, 1, 0), some (.getfield 9, 3, 0), none, none, some (.getfield 79, 3, 0), none, none, some (.istore_n 3, 1, 0)]
theorem jd_X7_perform_0 : jdRow cX7_perform 0 jc_X7_perform_0 = true := by decide +kernel
def jc_X7_perform_1 : List JR := [some (.aload_n 0, 1, 0), some (.getfield 9, 3, 0), none, none, some (.getfield 82, 3, 0), none, none, some (.istore 4, 2, 0), none, some (.aload_n 0, 1, 0), some (.getfield 9, 3, 0), none, none, some (.getfield 85, 3, 0), none, none]
theorem jd_X7_perform_1 : jdRow cX7_perform 16 jc_X7_perform_1 = true := by decide +kernel
def jc_X7_perform_2 : List JR := [some (.istore 5, 2, 0), none, some (.aload_n 0, 1, 0), some (.aload_n 1, 1, 0), some (.putfield 88, 3, 0), none, none, some (.aload_n 0, 1, 0), some (.getfield 9, 3, 0), none, none, some (.invokevirtual 92, 3, 0), none, none, some (.aload_n 0, 1, 0), some (.getfield 27, 3, 0)]
theorem jd_X7_perform_2 : jdRow cX7_perform 32 jc_X7_perform_2 = true := by decide +kernel
def jc_X7_perform_3 : List JR := [none, none, some (.invokestatic 66, 3, 0), none, none, some (.aload_n 0, 1, 0), some (.iconst 0, 1, 0), some (.putfield 95, 3, 0), none, none, some (.aload_n 0, 1, 0), some (.iconst 0, 1, 0), some (.putfield 98, 3, 0), none, none, some (.iconst 0, 1, 0)]
theorem jd_X7_perform_3 : jdRow cX7_perform 48 jc_X7_perform_3 = true := by decide +kernel
def jc_X7_perform_4 : List JR := [some (.istore 6, 2, 0), none, some (.iconst 0, 1, 0), some (.istore 7, 2, 0), none, some (.iload 7, 2, 0), none, some (.ldc 101, 2, 0), none, some (.if_icmp .ge 205, 3, 278), none, none, some (.aload_n 0, 1, 0), some (.getfield 98, 3, 0), none, none]
theorem jd_X7_perform_4 : jdRow cX7_perform 64 jc_X7_perform_4 = true := by decide +kernel
def jc_X7_perform_5 : List JR := [some (.aload_n 0, 1, 0), some (.getfield 88, 3, 0), none, none, some (.getfield 102, 3, 0), none, none, some (.if_icmp .ge 191, 3, 278), none, none, some (.iload 6, 2, 0), none, some (.ifCond .ne 186, 3, 278), none, none, some (.aload_n 0, 1, 0)]
theorem jd_X7_perform_5 : jdRow cX7_perform 80 jc_X7_perform_5 = true := by decide +kernel
def jc_X7_perform_6 : List JR := [some (.getfield 88, 3, 0), none, none, some (.aload_n 0, 1, 0), some (.getfield 98, 3, 0), none, none, some (.invokevirtual 105, 3, 0), none, none, some (.tableswitch 160 4 20 #[82, 113, 151, 122, 160, 131, 160, 160, 160, 160, 160, 104, 160, 160, 160, 91, 91], 82, 0), none, none, none, none, none]
theorem jd_X7_perform_6 : jdRow cX7_perform 96 jc_X7_perform_6 = true := by decide +kernel
def jc_X7_perform_7 : List JR := [none, none, none, none, none, none, none, none, none, none, none, none, none, none, none, none]
theorem jd_X7_perform_7 : jdRow cX7_perform 112 jc_X7_perform_7 = true := by decide +kernel
def jc_X7_perform_8 : List JR := [none, none, none, none, none, none, none, none, none, none, none, none, none, none, none, none]
theorem jd_X7_perform_8 : jdRow cX7_perform 128 jc_X7_perform_8 = true := by decide +kernel
def jc_X7_perform_9 : List JR := [none, none, none, none, none, none, none, none, none, none, none, none, none, none, none, none]
theorem jd_X7_perform_9 : jdRow cX7_perform 144 jc_X7_perform_9 = true := by decide +kernel
def jc_X7_perform_10 : List JR := [none, none, none, none, none, none, none, none, none, none, none, none, none, none, none, none]
theorem jd_X7_perform_10 : jdRow cX7_perform 160 jc_X7_perform_10 = true := by decide +kernel
def jc_X7_perform_11 : List JR := [none, none, none, none, none, none, none, none, none, none, none, none, some (.aload_n 0, 1, 0), some (.invokevirtual 108, 3, 0), none, none]
theorem jd_X7_perform_11 : jdRow cX7_perform 176 jc_X7_perform_11 = true := by decide +kernel
def jc_X7_perform_12 : List JR := [some (.istore 6, 2, 0), none, some (.goto 78, 3, 272), none, none, some (.aload_n 0, 1, 0), some (.dup, 1, 0), some (.getfield 98, 3, 0), none, none, some (.iconst 1, 1, 0), some (.iadd, 1, 0), some (.putfield 98, 3, 0), none, none, some (.goto 65, 3, 272)]
theorem jd_X7_perform_12 : jdRow cX7_perform 192 jc_X7_perform_12 = true := by decide +kernel
def jc_X7_perform_13 : List JR := [none, none, some (.aload_n 0, 1, 0), some (.invokevirtual 112, 3, 0), none, none, some (.istore 6, 2, 0), none, some (.goto 56, 3, 272), none, none, some (.aload_n 0, 1, 0), some (.invokevirtual 115, 3, 0), none, none, some (.istore 6, 2, 0)]
theorem jd_X7_perform_13 : jdRow cX7_perform 208 jc_X7_perform_13 = true := by decide +kernel
def jc_X7_perform_14 : List JR := [none, some (.goto 47, 3, 272), none, none, some (.aload_n 0, 1, 0), some (.invokevirtual 118, 3, 0), none, none, some (.istore 6, 2, 0), none, some (.goto 38, 3, 272), none, none, some (.aload_n 0, 1, 0), some (.aload_n 0, 1, 0), some (.getfield 88, 3, 0)]
theorem jd_X7_perform_14 : jdRow cX7_perform 224 jc_X7_perform_14 = true := by decide +kernel
def jc_X7_perform_15 : List JR := [none, none, some (.aload_n 0, 1, 0), some (.getfield 98, 3, 0), none, none, some (.invokevirtual 121, 3, 0), none, none, some (.iconst 1, 1, 0), some (.iadd, 1, 0), some (.putfield 98, 3, 0), none, none, some (.goto 18, 3, 272), none]
theorem jd_X7_perform_15 : jdRow cX7_perform 240 jc_X7_perform_15 = true := by decide +kernel
def jc_X7_perform_16 : List JR := [none, some (.aload_n 0, 1, 0), some (.invokevirtual 124, 3, 0), none, none, some (.istore 6, 2, 0), none, some (.goto 9, 3, 272), none, none, some (.aload_n 0, 1, 0), some (.invokevirtual 127, 3, 0), none, none, some (.istore 6, 2, 0), none]
theorem jd_X7_perform_16 : jdRow cX7_perform 256 jc_X7_perform_16 = true := by decide +kernel
def jc_X7_perform_17 : List JR := [some (.iinc 7 1, 3, 275), none, none, some (.goto (-206), 3, 69), none, none, some (.iload 6, 2, 0), none, some (.ifCond .eq 39, 3, 319), none, none, some (.aload_n 0, 1, 0), some (.getfield 9, 3, 0), none, none, some (.iload_n 2, 1, 0)]
theorem jd_X7_perform_17 : jdRow cX7_perform 272 jc_X7_perform_17 = true := by decide +kernel
def jc_X7_perform_18 : List JR := [some (.iload_n 3, 1, 0), some (.iload 4, 2, 0), none, some (.iload 5, 2, 0), none, some (.invokevirtual 130, 3, 0), none, none, some (.aload_n 0, 1, 0), some (.iload 6, 2, 0), none, some (.putfield 134, 3, 0), none, none, some (.aload_n 0, 1, 0), some (.aload_n 0, 1, 0)]
theorem jd_X7_perform_18 : jdRow cX7_perform 288 jc_X7_perform_18 = true := by decide +kernel
def jc_X7_perform_19 : List JR := [some (.getfield 88, 3, 0), none, none, some (.aload_n 0, 1, 0), some (.getfield 137, 3, 0), none, none, some (.invokevirtual 140, 3, 0), none, none, some (.putfield 58, 3, 0), none, none, some (.iconst 0, 1, 0), some (.ireturn, 1, 0), some (.aload_n 0, 1, 0)]
theorem jd_X7_perform_19 : jdRow cX7_perform 304 jc_X7_perform_19 = true := by decide +kernel
def jc_X7_perform_20 : List JR := [some (.getfield 23, 3, 0), none, none, some (.astore 7, 2, 0), none, some (.aload_n 0, 1, 0), some (.aload_n 0, 1, 0), some (.getfield 27, 3, 0), none, none, some (.putfield 23, 3, 0), none, none, some (.aload_n 0, 1, 0), some (.aload 7, 2, 0), none]
theorem jd_X7_perform_20 : jdRow cX7_perform 320 jc_X7_perform_20 = true := by decide +kernel
def jc_X7_perform_21 : List JR := [some (.putfield 27, 3, 0), none, none, some (.aload_n 0, 1, 0), some (.aload_n 0, 1, 0), some (.getfield 9, 3, 0), none, none, some (.getfield 143, 3, 0), none, none, some (.putfield 146, 3, 0), none, none, some (.iconst 1, 1, 0), some (.ireturn, 1, 0)]
theorem jd_X7_perform_21 : jdRow cX7_perform 336 jc_X7_perform_21 = true := by decide +kernel
def jc_X7_perform : List (List JR) := [jc_X7_perform_0, jc_X7_perform_1, jc_X7_perform_2, jc_X7_perform_3, jc_X7_perform_4, jc_X7_perform_5, jc_X7_perform_6, jc_X7_perform_7, jc_X7_perform_8, jc_X7_perform_9, jc_X7_perform_10, jc_X7_perform_11, jc_X7_perform_12, jc_X7_perform_13, jc_X7_perform_14, jc_X7_perform_15, jc_X7_perform_16, jc_X7_perform_17, jc_X7_perform_18, jc_X7_perform_19, jc_X7_perform_20, jc_X7_perform_21]
def jm_X7_perform : JM := (jc_X7_perform, 7, 0, 0, 1, 0, yX7_perform, cX7_perform, 8, (some .boolean))
theorem jd_X7_perform : jdOK cX7_perform 0 jc_X7_perform = true := jdcons jd_X7_perform_0 (jdcons jd_X7_perform_1 (jdcons jd_X7_perform_2 (jdcons jd_X7_perform_3 (jdcons jd_X7_perform_4 (jdcons jd_X7_perform_5 (jdcons jd_X7_perform_6 (jdcons jd_X7_perform_7 (jdcons jd_X7_perform_8 (jdcons jd_X7_perform_9 (jdcons jd_X7_perform_10 (jdcons jd_X7_perform_11 (jdcons jd_X7_perform_12 (jdcons jd_X7_perform_13 (jdcons jd_X7_perform_14 (jdcons jd_X7_perform_15 (jdcons jd_X7_perform_16 (jdcons jd_X7_perform_17 (jdcons jd_X7_perform_18 (jdcons jd_X7_perform_19 (jdcons jd_X7_perform_20 (jdcons jd_X7_perform_21 (rfl))))))))))))))))))))))
def jc_X2_startCounting : List (List JR) := [[some (.aload_n 0, 1, 0), some (.iconst 0, 1, 0), some (.putfield 41, 3, 0), none, none, some (.aload_n 0, 1, 0), some (.iconst 0, 1, 0), some (.putfield 44, 3, 0), none, none, some (.aload_n 0, 1, 0), some (.iconst 0, 1, 0), some (.putfield 47, 3, 0), none, none, some (.return_, 1, 0)]]
def jm_X2_startCounting : JM := (jc_X2_startCounting, 2, 0, 0, 0, 0, yX2_startCounting, cX2_startCounting, 1, none)
theorem jd_X2_startCounting : jdOK cX2_startCounting 0 jc_X2_startCounting = true := by decide +kernel
def jc_X7_beginLet : List (List JR) := [[some (.aload_n 0, 1, 0), some (.aload_n 0, 1, 0), some (.getfield 98, 3, 0), none, none, some (.putfield 137, 3, 0), none, none, some (.aload_n 0, 1, 0), some (.iconst 0, 1, 0), some (.putfield 171, 3, 0), none, none, some (.aload_n 0, 1, 0), some (.dup, 1, 0), some (.getfield 98, 3, 0)],
  [none, none, some (.iconst 3, 1, 0), some (.iadd, 1, 0), some (.putfield 98, 3, 0), none, none, some (.aload_n 0, 1, 0), some (.invokevirtual 147, 3, 0), none, none, some (.ifCond .eq 7, 3, 34), none, none, some (.iconst 0, 1, 0), some (.goto 4, 3, 35)],
  [none, none, some (.iconst 1, 1, 0), some (.ireturn, 1, 0)]]
def jm_X7_beginLet : JM := (jc_X7_beginLet, 7, 0, 0, 0, 0, yX7_beginLet, cX7_beginLet, 1, (some .int))
theorem jd_X7_beginLet : jdOK cX7_beginLet 0 jc_X7_beginLet = true := by decide +kernel
def jc_X7_countStep : List (List JR) := [[some (.aload_n 0, 1, 0), some (.dup, 1, 0), some (.getfield 95, 3, 0), none, none, some (.iconst 1, 1, 0), some (.iadd, 1, 0), some (.putfield 95, 3, 0), none, none, some (.aload_n 0, 1, 0), some (.getfield 95, 3, 0), none, none, some (.sipush 200, 3, 0), none],
  [none, some (.if_icmp .gt 7, 3, 24), none, none, some (.iconst 1, 1, 0), some (.goto 4, 3, 25), none, none, some (.iconst 0, 1, 0), some (.ireturn, 1, 0)]]
def jm_X7_countStep : JM := (jc_X7_countStep, 7, 0, 0, 0, 0, yX7_countStep, cX7_countStep, 1, (some .boolean))
theorem jd_X7_countStep : jdOK cX7_countStep 0 jc_X7_countStep = true := by decide +kernel
def jc_X7_endLet : List (List JR) := [[some (.aload_n 0, 1, 0), some (.invokevirtual 174, 3, 0), none, none, some (.istore_n 1, 1, 0), some (.iload_n 1, 1, 0), some (.ifCond .eq 5, 3, 11), none, none, some (.iload_n 1, 1, 0), some (.ireturn, 1, 0), some (.aload_n 0, 1, 0), some (.iconst 1, 1, 0), some (.invokevirtual 177, 3, 0), none, none],
  [some (.astore_n 2, 1, 0), some (.aload_n 2, 1, 0), some (.ifnonnull 5, 3, 23), none, none, some (.iconst 2, 1, 0), some (.ireturn, 1, 0), some (.aload_n 0, 1, 0), some (.getfield 9, 3, 0), none, none, some (.aload_n 2, 1, 0), some (.invokevirtual 181, 3, 0), none, none, some (.ifCond .ne 5, 3, 36)],
  [none, none, some (.iconst 5, 1, 0), some (.ireturn, 1, 0), some (.aload_n 0, 1, 0), some (.aload_n 0, 1, 0), some (.getfield 137, 3, 0), none, none, some (.iconst 1, 1, 0), some (.iadd, 1, 0), some (.aload_n 0, 1, 0), some (.getfield 31, 3, 0), none, none, some (.invokevirtual 153, 3, 0)],
  [none, none, some (.astore_n 3, 1, 0), some (.aload_n 3, 1, 0), some (.aload_n 2, 1, 0), some (.aload_n 0, 1, 0), some (.getfield 9, 3, 0), none, none, some (.getfield 185, 3, 0), none, none, some (.invokevirtual 188, 3, 0), none, none, some (.aload_n 0, 1, 0)],
  [some (.dup, 1, 0), some (.getfield 98, 3, 0), none, none, some (.iconst 1, 1, 0), some (.iadd, 1, 0), some (.putfield 98, 3, 0), none, none, some (.aload_n 3, 1, 0), some (.invokevirtual 192, 3, 0), none, none, some (.ifCond .eq 7, 3, 84), none, none],
  [some (.iconst 3, 1, 0), some (.goto 4, 3, 85), none, none, some (.iconst 0, 1, 0), some (.ireturn, 1, 0)]]
def jm_X7_endLet : JM := (jc_X7_endLet, 7, 0, 0, 0, 0, yX7_endLet, cX7_endLet, 4, (some .int))
theorem jd_X7_endLet : jdOK cX7_endLet 0 jc_X7_endLet = true := by decide +kernel
def jc_X7_calculate : List (List JR) := [[some (.aload_n 0, 1, 0), some (.getfield 9, 3, 0), none, none, some (.aload_n 0, 1, 0), some (.iconst 1, 1, 0), some (.invokevirtual 177, 3, 0), none, none, some (.aload_n 0, 1, 0), some (.getfield 41, 3, 0), none, none, some (.iconst 0, 1, 0), some (.iaload, 1, 0), some (.aload_n 0, 1, 0)],
  [some (.getfield 45, 3, 0), none, none, some (.iconst 0, 1, 0), some (.iaload, 1, 0), some (.aload_n 0, 1, 0), some (.getfield 48, 3, 0), none, none, some (.iconst 0, 1, 0), some (.iaload, 1, 0), some (.invokevirtual 254, 3, 0), none, none, some (.istore_n 1, 1, 0), some (.aload_n 0, 1, 0)],
  [some (.iconst 0, 1, 0), some (.invokevirtual 229, 3, 0), none, none, some (.astore_n 2, 1, 0), some (.iconst 1, 1, 0), some (.istore_n 3, 1, 0), some (.iload_n 3, 1, 0), some (.aload_n 0, 1, 0), some (.getfield 171, 3, 0), none, none, some (.if_icmp .ge 96, 3, 140), none, none, some (.iload_n 3, 1, 0)],
  [some (.aload_n 0, 1, 0), some (.getfield 41, 3, 0), none, none, some (.arraylength, 1, 0), some (.if_icmp .ge 87, 3, 140), none, none, some (.iload_n 1, 1, 0), some (.ifCond .ne 83, 3, 140), none, none, some (.aload_n 0, 1, 0), some (.getfield 51, 3, 0), none, none],
  [some (.iload_n 3, 1, 0), some (.baload, 1, 0), some (.ifCond .eq 33, 3, 99), none, none, some (.aload_n 0, 1, 0), some (.getfield 9, 3, 0), none, none, some (.aload_n 2, 1, 0), some (.aload_n 0, 1, 0), some (.getfield 41, 3, 0), none, none, some (.iload_n 3, 1, 0), some (.iaload, 1, 0)],
  [some (.aload_n 0, 1, 0), some (.getfield 45, 3, 0), none, none, some (.iload_n 3, 1, 0), some (.iaload, 1, 0), some (.aload_n 0, 1, 0), some (.getfield 48, 3, 0), none, none, some (.iload_n 3, 1, 0), some (.iaload, 1, 0), some (.invokevirtual 258, 3, 0), none, none, some (.istore_n 1, 1, 0)],
  [some (.goto 38, 3, 134), none, none, some (.aload_n 0, 1, 0), some (.getfield 9, 3, 0), none, none, some (.aload_n 2, 1, 0), some (.aload_n 0, 1, 0), some (.getfield 41, 3, 0), none, none, some (.iload_n 3, 1, 0), some (.iaload, 1, 0), some (.aload_n 0, 1, 0), some (.getfield 45, 3, 0)],
  [none, none, some (.iload_n 3, 1, 0), some (.iaload, 1, 0), some (.aload_n 0, 1, 0), some (.getfield 48, 3, 0), none, none, some (.iload_n 3, 1, 0), some (.iaload, 1, 0), some (.aload_n 0, 1, 0), some (.getfield 51, 3, 0), none, none, some (.iload_n 3, 1, 0), some (.iconst 1, 1, 0)],
  [some (.isub, 1, 0), some (.baload, 1, 0), some (.invokevirtual 261, 3, 0), none, none, some (.istore_n 1, 1, 0), some (.iinc 3 1, 3, 137), none, none, some (.goto (-98), 3, 39), none, none, some (.iload_n 1, 1, 0), some (.ireturn, 1, 0)]]
def jm_X7_calculate : JM := (jc_X7_calculate, 7, 0, 0, 0, 0, yX7_calculate, cX7_calculate, 4, (some .int))
theorem jd_X7_calculate : jdOK cX7_calculate 0 jc_X7_calculate = true := by decide +kernel
def jc_X7_onBody : List (List JR) := [[some (.aload_n 0, 1, 0), some (.getfield 9, 3, 0), none, none, some (.getfield 195, 3, 0), none, none, some (.ifnonnull 7, 3, 14), none, none, some (.aconst_null, 1, 0), some (.goto 16, 3, 27), none, none, some (.aload_n 0, 1, 0), some (.getfield 9, 3, 0)],
  [none, none, some (.getfield 195, 3, 0), none, none, some (.iconst 1, 1, 0), some (.iload_n 1, 1, 0), some (.iconst 0, 1, 0), some (.invokevirtual 199, 3, 0), none, none, some (.areturn, 1, 0)]]
def jm_X7_onBody : JM := (jc_X7_onBody, 7, 0, 0, 1, 0, yX7_onBody, cX7_onBody, 2, (some (.object "SlideWorks$Scale")))
theorem jd_X7_onBody : jdOK cX7_onBody 0 jc_X7_onBody = true := by decide +kernel
def jc_X6_firstLike : List (List JR) := [[some (.iconst 0, 1, 0), some (.istore 4, 2, 0), none, some (.iload 4, 2, 0), none, some (.aload_n 0, 1, 0), some (.getfield 17, 3, 0), none, none, some (.if_icmp .ge 63, 3, 72), none, none, some (.iload 4, 2, 0), none, some (.aload_n 0, 1, 0), some (.getfield 13, 3, 0)],
  [none, none, some (.arraylength, 1, 0), some (.if_icmp .ge 53, 3, 72), none, none, some (.aload_n 0, 1, 0), some (.getfield 13, 3, 0), none, none, some (.iload 4, 2, 0), none, some (.aaload, 1, 0), some (.astore 5, 2, 0), none, some (.aload 5, 2, 0)],
  [none, some (.ifnull 33, 3, 66), none, none, some (.aload 5, 2, 0), none, some (.getfield 24, 3, 0), none, none, some (.iload_n 1, 1, 0), some (.if_icmp .ne 24, 3, 66), none, none, some (.aload 5, 2, 0), none, some (.getfield 28, 3, 0)],
  [none, none, some (.iload_n 2, 1, 0), some (.if_icmp .ne 15, 3, 66), none, none, some (.aload 5, 2, 0), none, some (.getfield 31, 3, 0), none, none, some (.iload_n 3, 1, 0), some (.if_icmp .ne 6, 3, 66), none, none, some (.aload 5, 2, 0)],
  [none, some (.areturn, 1, 0), some (.iinc 4 1, 3, 69), none, none, some (.goto (-66), 3, 3), none, none, some (.aconst_null, 1, 0), some (.areturn, 1, 0)]]
def jm_X6_firstLike : JM := (jc_X6_firstLike, 6, 0, 0, 3, 0, yX6_firstLike, cX6_firstLike, 6, (some (.object "SlideWorks$Scale")))
theorem jd_X6_firstLike : jdOK cX6_firstLike 0 jc_X6_firstLike = true := by decide +kernel
def jc_X2_startWith : List (List JR) := [[some (.aload_n 1, 1, 0), some (.ifnonnull 5, 3, 6), none, none, some (.iconst 2, 1, 0), some (.ireturn, 1, 0), some (.aload_n 0, 1, 0), some (.iload_n 3, 1, 0), some (.putfield 47, 3, 0), none, none, some (.aload_n 0, 1, 0), some (.aload_n 0, 1, 0), some (.aload_n 1, 1, 0), some (.iconst 0, 1, 0), some (.iload_n 2, 1, 0)],
  [some (.invokestatic 79, 3, 0), none, none, some (.iload 4, 2, 0), none, some (.invokevirtual 83, 3, 0), none, none, some (.invokevirtual 87, 3, 0), none, none, some (.ireturn, 1, 0)]]
def jm_X2_startWith : JM := (jc_X2_startWith, 2, 0, 0, 4, 0, yX2_startWith, cX2_startWith, 5, (some .int))
theorem jd_X2_startWith : jdOK cX2_startWith 0 jc_X2_startWith = true := by decide +kernel
def jc_X2_judge : List (List JR) := [[some (.iload_n 1, 1, 0), some (.ifCond .ne 5, 3, 6), none, none, some (.iconst 5, 1, 0), some (.ireturn, 1, 0), some (.aload_n 0, 1, 0), some (.getfield 35, 3, 0), none, none, some (.sipush 999, 3, 0), none, none, some (.if_icmp .gt 13, 3, 26), none, none],
  [some (.aload_n 0, 1, 0), some (.getfield 38, 3, 0), none, none, some (.sipush 999, 3, 0), none, none, some (.if_icmp .le 7, 3, 30), none, none, some (.iconst 4, 1, 0), some (.goto 4, 3, 31), none, none, some (.iconst 0, 1, 0), some (.ireturn, 1, 0)]]
def jm_X2_judge : JM := (jc_X2_judge, 2, 0, 0, 1, 0, yX2_judge, cX2_judge, 2, (some .int))
theorem jd_X2_judge : jdOK cX2_judge 0 jc_X2_judge = true := by decide +kernel
def jc_X7_onSlide : List (List JR) := [[some (.aload_n 0, 1, 0), some (.getfield 9, 3, 0), none, none, some (.getfield 195, 3, 0), none, none, some (.ifnonnull 7, 3, 14), none, none, some (.aconst_null, 1, 0), some (.goto 16, 3, 27), none, none, some (.aload_n 0, 1, 0), some (.getfield 9, 3, 0)],
  [none, none, some (.getfield 195, 3, 0), none, none, some (.iconst 0, 1, 0), some (.iconst 1, 1, 0), some (.iload_n 1, 1, 0), some (.invokevirtual 199, 3, 0), none, none, some (.areturn, 1, 0)]]
def jm_X7_onSlide : JM := (jc_X7_onSlide, 7, 0, 0, 1, 0, yX7_onSlide, cX7_onSlide, 2, (some (.object "SlideWorks$Scale")))
theorem jd_X7_onSlide : jdOK cX7_onSlide 0 jc_X7_onSlide = true := by decide +kernel
def jc_X2_divide : List (List JR) := [[some (.aload_n 1, 1, 0), some (.ifnonnull 5, 3, 6), none, none, some (.iconst 2, 1, 0), some (.ireturn, 1, 0), some (.aload_n 0, 1, 0), some (.aload_n 0, 1, 0), some (.aload_n 1, 1, 0), some (.iconst 0, 1, 0), some (.iload_n 2, 1, 0), some (.invokestatic 79, 3, 0), none, none, some (.invokevirtual 56, 3, 0), none],
  [none, some (.iload 4, 2, 0), none, some (.invokevirtual 91, 3, 0), none, none, some (.invokevirtual 87, 3, 0), none, none, some (.istore 5, 2, 0), none, some (.iload 5, 2, 0), none, some (.ifCond .eq 6, 3, 35), none, none],
  [some (.iload 5, 2, 0), none, some (.ireturn, 1, 0), some (.aload_n 0, 1, 0), some (.dup, 1, 0), some (.getfield 47, 3, 0), none, none, some (.iload_n 3, 1, 0), some (.isub, 1, 0), some (.putfield 47, 3, 0), none, none, some (.aload_n 0, 1, 0), some (.getfield 29, 3, 0), none],
  [none, some (.ifCond .ge 34, 3, 83), none, none, some (.aload_n 0, 1, 0), some (.dup, 1, 0), some (.getfield 47, 3, 0), none, none, some (.iconst 1, 1, 0), some (.isub, 1, 0), some (.putfield 47, 3, 0), none, none, some (.aload_n 0, 1, 0), some (.aload_n 0, 1, 0)],
  [some (.aload_n 0, 1, 0), some (.getfield 29, 3, 0), none, none, some (.sipush 4096, 3, 0), none, none, some (.iadd, 1, 0), some (.aload_n 0, 1, 0), some (.getfield 35, 3, 0), none, none, some (.invokevirtual 66, 3, 0), none, none, some (.invokevirtual 87, 3, 0)],
  [none, none, some (.ireturn, 1, 0), some (.aload_n 0, 1, 0), some (.aload_n 0, 1, 0), some (.aload_n 0, 1, 0), some (.getfield 29, 3, 0), none, none, some (.aload_n 0, 1, 0), some (.getfield 35, 3, 0), none, none, some (.invokevirtual 66, 3, 0), none, none],
  [some (.invokevirtual 87, 3, 0), none, none, some (.ireturn, 1, 0)]]
def jm_X2_divide : JM := (jc_X2_divide, 2, 0, 0, 4, 0, yX2_divide, cX2_divide, 6, (some .int))
theorem jd_X2_divide : jdOK cX2_divide 0 jc_X2_divide = true := by decide +kernel
def jc_X2_multiply : List (List JR) := [[some (.iconst 0, 1, 0), some (.istore 6, 2, 0), none, some (.iload 5, 2, 0), none, some (.ifCond .ne 18, 3, 23), none, none, some (.aload_n 0, 1, 0), some (.aload_n 0, 1, 0), some (.iconst 0, 1, 0), some (.iconst 0, 1, 0), some (.invokevirtual 91, 3, 0), none, none, some (.invokevirtual 87, 3, 0)],
  [none, none, some (.istore 6, 2, 0), none, some (.goto 20, 3, 40), none, none, some (.aload_n 0, 1, 0), some (.getfield 29, 3, 0), none, none, some (.ifCond .ge 13, 3, 40), none, none, some (.aload_n 0, 1, 0), some (.dup, 1, 0)],
  [some (.getfield 47, 3, 0), none, none, some (.iconst 1, 1, 0), some (.iadd, 1, 0), some (.putfield 47, 3, 0), none, none, some (.iload 6, 2, 0), none, some (.ifCond .eq 6, 3, 48), none, none, some (.iload 6, 2, 0), none, some (.ireturn, 1, 0)],
  [some (.aload_n 1, 1, 0), some (.ifnonnull 5, 3, 54), none, none, some (.iconst 2, 1, 0), some (.ireturn, 1, 0), some (.iconst 0, 1, 0), some (.iload_n 2, 1, 0), some (.invokestatic 79, 3, 0), none, none, some (.istore 7, 2, 0), none, some (.aload_n 1, 1, 0), some (.iload 7, 2, 0), none],
  [some (.invokevirtual 56, 3, 0), none, none, some (.aload_n 0, 1, 0), some (.getfield 29, 3, 0), none, none, some (.iadd, 1, 0), some (.istore 8, 2, 0), none, some (.iload 8, 2, 0), none, some (.sipush 4096, 3, 0), none, none, some (.if_icmp .le 43, 3, 122)],
  [none, none, some (.aload_n 0, 1, 0), some (.dup, 1, 0), some (.getfield 47, 3, 0), none, none, some (.iconst 1, 1, 0), some (.iadd, 1, 0), some (.putfield 47, 3, 0), none, none, some (.aload_n 0, 1, 0), some (.aload_n 0, 1, 0), some (.aload_n 0, 1, 0), some (.getfield 29, 3, 0)],
  [none, none, some (.sipush 4096, 3, 0), none, none, some (.isub, 1, 0), some (.aload_n 0, 1, 0), some (.getfield 35, 3, 0), none, none, some (.aload_n 0, 1, 0), some (.getfield 9, 3, 0), none, none, some (.iadd, 1, 0), some (.invokevirtual 72, 3, 0)],
  [none, none, some (.invokevirtual 87, 3, 0), none, none, some (.istore 6, 2, 0), none, some (.goto 45, 3, 164), none, none, some (.iload 8, 2, 0), none, some (.ifCond .ge 40, 3, 164), none, none, some (.aload_n 0, 1, 0)],
  [some (.dup, 1, 0), some (.getfield 47, 3, 0), none, none, some (.iconst 1, 1, 0), some (.isub, 1, 0), some (.putfield 47, 3, 0), none, none, some (.aload_n 0, 1, 0), some (.aload_n 0, 1, 0), some (.aload_n 0, 1, 0), some (.getfield 29, 3, 0), none, none, some (.sipush 4096, 3, 0)],
  [none, none, some (.iadd, 1, 0), some (.aload_n 0, 1, 0), some (.getfield 35, 3, 0), none, none, some (.aload_n 0, 1, 0), some (.getfield 9, 3, 0), none, none, some (.iadd, 1, 0), some (.invokevirtual 72, 3, 0), none, none, some (.invokevirtual 87, 3, 0)],
  [none, none, some (.istore 6, 2, 0), none, some (.iload 6, 2, 0), none, some (.ifCond .eq 6, 3, 172), none, none, some (.iload 6, 2, 0), none, some (.ireturn, 1, 0), some (.aload_n 0, 1, 0), some (.dup, 1, 0), some (.getfield 47, 3, 0), none],
  [none, some (.iload_n 3, 1, 0), some (.iadd, 1, 0), some (.putfield 47, 3, 0), none, none, some (.aload_n 0, 1, 0), some (.aload_n 0, 1, 0), some (.aload_n 1, 1, 0), some (.iload 7, 2, 0), none, some (.iload 4, 2, 0), none, some (.invokevirtual 83, 3, 0), none, none],
  [some (.invokevirtual 87, 3, 0), none, none, some (.ireturn, 1, 0)]]
def jm_X2_multiply : JM := (jc_X2_multiply, 2, 0, 0, 5, 0, yX2_multiply, cX2_multiply, 9, (some .int))
theorem jd_X2_multiply : jdOK cX2_multiply 0 jc_X2_multiply = true := by decide +kernel
def jc_X7_atomAt : List (List JR) := [[some (.aload_n 0, 1, 0), some (.getfield 88, 3, 0), none, none, some (.iload_n 1, 1, 0), some (.invokevirtual 164, 3, 0), none, none, some (.istore_n 3, 1, 0), some (.aload_n 0, 1, 0), some (.getfield 88, 3, 0), none, none, some (.iload_n 1, 1, 0), some (.invokevirtual 105, 3, 0), none],
  [none, some (.iconst 3, 1, 0), some (.if_icmp .ne 18, 3, 36), none, none, some (.aload_n 2, 1, 0), some (.iload_n 3, 1, 0), some (.aload_n 0, 1, 0), some (.getfield 88, 3, 0), none, none, some (.iload_n 1, 1, 0), some (.invokevirtual 121, 3, 0), none, none, some (.invokevirtual 167, 3, 0)],
  [none, none, some (.aload_n 2, 1, 0), some (.areturn, 1, 0), some (.iload_n 3, 1, 0), some (.ifCond .lt 28, 3, 65), none, none, some (.iload_n 3, 1, 0), some (.aload_n 0, 1, 0), some (.getfield 27, 3, 0), none, none, some (.arraylength, 1, 0), some (.if_icmp .ge 19, 3, 65), none],
  [none, some (.aload_n 0, 1, 0), some (.getfield 27, 3, 0), none, none, some (.iload_n 3, 1, 0), some (.aaload, 1, 0), some (.ifnull 10, 3, 65), none, none, some (.aload_n 0, 1, 0), some (.getfield 27, 3, 0), none, none, some (.iload_n 3, 1, 0), some (.aaload, 1, 0)],
  [some (.areturn, 1, 0), some (.aload_n 2, 1, 0), some (.iconst 0, 1, 0), some (.putfield 62, 3, 0), none, none, some (.aload_n 2, 1, 0), some (.areturn, 1, 0)]]
def jm_X7_atomAt : JM := (jc_X7_atomAt, 7, 0, 0, 2, 0, yX7_atomAt, cX7_atomAt, 4, (some (.object "SlideWorks$Value")))
theorem jd_X7_atomAt : jdOK cX7_atomAt 0 jc_X7_atomAt = true := by decide +kernel
def jc_X10_setAlike : List (List JR) := [[some (.aload_n 0, 1, 0), some (.iconst 1, 1, 0), some (.putfield 9, 3, 0), none, none, some (.aload_n 0, 1, 0), some (.iload_n 1, 1, 0), some (.putfield 15, 3, 0), none, none, some (.aload_n 0, 1, 0), some (.iload_n 2, 1, 0), some (.putfield 19, 3, 0), none, none, some (.aload_n 0, 1, 0)],
  [some (.iload_n 1, 1, 0), some (.putfield 22, 3, 0), none, none, some (.aload_n 0, 1, 0), some (.iload_n 2, 1, 0), some (.putfield 25, 3, 0), none, none, some (.aload_n 0, 1, 0), some (.iload_n 1, 1, 0), some (.putfield 28, 3, 0), none, none, some (.aload_n 0, 1, 0), some (.iload_n 2, 1, 0)],
  [some (.putfield 31, 3, 0), none, none, some (.return_, 1, 0)]]
def jm_X10_setAlike : JM := (jc_X10_setAlike, 10, 0, 0, 2, 0, yX10_setAlike, cX10_setAlike, 3, none)
theorem jd_X10_setAlike : jdOK cX10_setAlike 0 jc_X10_setAlike = true := by decide +kernel
def jc_X10_setSighted : List (List JR) := [[some (.aload_n 1, 1, 0), some (.iconst 0, 1, 0), some (.invokevirtual 34, 3, 0), none, none, some (.istore_n 3, 1, 0), some (.aload_n 1, 1, 0), some (.iconst 1, 1, 0), some (.invokevirtual 34, 3, 0), none, none, some (.istore 4, 2, 0), none, some (.aload_n 1, 1, 0), some (.iconst 2, 1, 0), some (.invokevirtual 34, 3, 0)],
  [none, none, some (.istore 5, 2, 0), none, some (.aload_n 0, 1, 0), some (.iconst 1, 1, 0), some (.putfield 9, 3, 0), none, none, some (.aload_n 0, 1, 0), some (.iload_n 3, 1, 0), some (.invokestatic 40, 3, 0), none, none, some (.putfield 15, 3, 0), none],
  [none, some (.aload_n 0, 1, 0), some (.iload_n 2, 1, 0), some (.iload_n 3, 1, 0), some (.invokestatic 43, 3, 0), none, none, some (.iadd, 1, 0), some (.putfield 19, 3, 0), none, none, some (.aload_n 0, 1, 0), some (.iload 4, 2, 0), none, some (.invokestatic 40, 3, 0), none],
  [none, some (.putfield 22, 3, 0), none, none, some (.aload_n 0, 1, 0), some (.iload_n 2, 1, 0), some (.iload 4, 2, 0), none, some (.invokestatic 43, 3, 0), none, none, some (.iadd, 1, 0), some (.putfield 25, 3, 0), none, none, some (.aload_n 0, 1, 0)],
  [some (.iload 5, 2, 0), none, some (.invokestatic 40, 3, 0), none, none, some (.putfield 28, 3, 0), none, none, some (.aload_n 0, 1, 0), some (.iload_n 2, 1, 0), some (.iload 5, 2, 0), none, some (.invokestatic 43, 3, 0), none, none, some (.iadd, 1, 0)],
  [some (.putfield 31, 3, 0), none, none, some (.return_, 1, 0)]]
def jm_X10_setSighted : JM := (jc_X10_setSighted, 10, 0, 0, 2, 0, yX10_setSighted, cX10_setSighted, 6, none)
theorem jd_X10_setSighted : jdOK cX10_setSighted 0 jc_X10_setSighted = true := by decide +kernel
def jc_X10_isBeyond : List (List JR) := [[some (.aload_n 0, 1, 0), some (.getfield 19, 3, 0), none, none, some (.aload_n 0, 1, 0), some (.getfield 25, 3, 0), none, none, some (.aload_n 0, 1, 0), some (.getfield 31, 3, 0), none, none, some (.invokestatic 46, 3, 0), none, none, some (.invokestatic 46, 3, 0)],
  [none, none, some (.istore_n 1, 1, 0), some (.aload_n 0, 1, 0), some (.getfield 19, 3, 0), none, none, some (.aload_n 0, 1, 0), some (.getfield 25, 3, 0), none, none, some (.aload_n 0, 1, 0), some (.getfield 31, 3, 0), none, none, some (.invokestatic 52, 3, 0)],
  [none, none, some (.invokestatic 52, 3, 0), none, none, some (.istore_n 2, 1, 0), some (.iload_n 1, 1, 0), some (.bipush (-99), 2, 0), none, some (.if_icmp .lt 9, 3, 50), none, none, some (.iload_n 2, 1, 0), some (.bipush 99, 2, 0), none, some (.if_icmp .le 7, 3, 54)],
  [none, none, some (.iconst 1, 1, 0), some (.goto 4, 3, 55), none, none, some (.iconst 0, 1, 0), some (.ireturn, 1, 0)]]
def jm_X10_isBeyond : JM := (jc_X10_isBeyond, 10, 0, 0, 0, 0, yX10_isBeyond, cX10_isBeyond, 3, (some .boolean))
theorem jd_X10_isBeyond : jdOK cX10_isBeyond 0 jc_X10_isBeyond = true := by decide +kernel
def jc_J9_min : List (List JR) := [[some (.iload_n 0, 1, 0), some (.iload_n 1, 1, 0), some (.if_icmp .gt 7, 3, 9), none, none, some (.iload_n 0, 1, 0), some (.goto 4, 3, 10), none, none, some (.iload_n 1, 1, 0), some (.ireturn, 1, 0)]]
def jm_J9_min : JM := (jc_J9_min, 17, 0, 0, 2, 0, Lib.Math.min.name, Lib.Math.min.code, 2, (some .int))
theorem jd_J9_min : jdOK Lib.Math.min.code 0 jc_J9_min = true := by decide +kernel
def jc_X7_beginTurns : List (List JR) := [[some (.aload_n 0, 1, 0), some (.aload_n 0, 1, 0), some (.getfield 98, 3, 0), none, none, some (.putfield 137, 3, 0), none, none, some (.aload_n 0, 1, 0), some (.invokevirtual 147, 3, 0), none, none, some (.ifCond .ne 5, 3, 17), none, none, some (.iconst 1, 1, 0)],
  [some (.ireturn, 1, 0), some (.aload_n 0, 1, 0), some (.getfield 88, 3, 0), none, none, some (.aload_n 0, 1, 0), some (.getfield 98, 3, 0), none, none, some (.iconst 1, 1, 0), some (.iadd, 1, 0), some (.invokevirtual 121, 3, 0), none, none, some (.istore_n 1, 1, 0), some (.aload_n 0, 1, 0)],
  [some (.getfield 98, 3, 0), none, none, some (.ifCond .lt 25, 3, 60), none, none, some (.aload_n 0, 1, 0), some (.getfield 98, 3, 0), none, none, some (.aload_n 0, 1, 0), some (.getfield 55, 3, 0), none, none, some (.arraylength, 1, 0), some (.if_icmp .ge 13, 3, 60)],
  [none, none, some (.aload_n 0, 1, 0), some (.getfield 55, 3, 0), none, none, some (.aload_n 0, 1, 0), some (.getfield 98, 3, 0), none, none, some (.iload_n 1, 1, 0), some (.iastore, 1, 0), some (.aload_n 0, 1, 0), some (.iload_n 1, 1, 0), some (.ifCond .le 12, 3, 74), none],
  [none, some (.aload_n 0, 1, 0), some (.getfield 98, 3, 0), none, none, some (.iconst 2, 1, 0), some (.iadd, 1, 0), some (.goto 16, 3, 87), none, none, some (.aload_n 0, 1, 0), some (.getfield 88, 3, 0), none, none, some (.aload_n 0, 1, 0), some (.getfield 98, 3, 0)],
  [none, none, some (.invokevirtual 121, 3, 0), none, none, some (.iconst 1, 1, 0), some (.iadd, 1, 0), some (.putfield 98, 3, 0), none, none, some (.iconst 0, 1, 0), some (.ireturn, 1, 0)]]
def jm_X7_beginTurns : JM := (jc_X7_beginTurns, 7, 0, 0, 0, 0, yX7_beginTurns, cX7_beginTurns, 2, (some .int))
theorem jd_X7_beginTurns : jdOK cX7_beginTurns 0 jc_X7_beginTurns = true := by decide +kernel
def jc_X7_choose : List (List JR) := [[some (.aload_n 0, 1, 0), some (.aload_n 0, 1, 0), some (.getfield 98, 3, 0), none, none, some (.putfield 137, 3, 0), none, none, some (.aload_n 0, 1, 0), some (.invokevirtual 147, 3, 0), none, none, some (.ifCond .ne 5, 3, 17), none, none, some (.iconst 1, 1, 0)],
  [some (.ireturn, 1, 0), some (.aload_n 0, 1, 0), some (.getfield 88, 3, 0), none, none, some (.aload_n 0, 1, 0), some (.getfield 98, 3, 0), none, none, some (.iconst 1, 1, 0), some (.iadd, 1, 0), some (.invokevirtual 105, 3, 0), none, none, some (.bipush 8, 2, 0), none],
  [some (.if_icmp .ne 7, 3, 39), none, none, some (.iconst 1, 1, 0), some (.goto 4, 3, 40), none, none, some (.iconst 0, 1, 0), some (.istore_n 1, 1, 0), some (.iload_n 1, 1, 0), some (.ifCond .eq 12, 3, 54), none, none, some (.aload_n 0, 1, 0), some (.getfield 98, 3, 0), none],
  [none, some (.iconst 2, 1, 0), some (.iadd, 1, 0), some (.goto 9, 3, 60), none, none, some (.aload_n 0, 1, 0), some (.getfield 98, 3, 0), none, none, some (.iconst 1, 1, 0), some (.iadd, 1, 0), some (.istore_n 2, 1, 0), some (.aload_n 0, 1, 0), some (.iload_n 2, 1, 0), some (.aload_n 0, 1, 0)],
  [some (.getfield 31, 3, 0), none, none, some (.invokevirtual 153, 3, 0), none, none, some (.astore_n 3, 1, 0), some (.aload_n 0, 1, 0), some (.iload_n 2, 1, 0), some (.iconst 2, 1, 0), some (.iadd, 1, 0), some (.aload_n 0, 1, 0), some (.getfield 35, 3, 0), none, none, some (.invokevirtual 153, 3, 0)],
  [none, none, some (.astore 4, 2, 0), none, some (.aload_n 3, 1, 0), some (.getfield 62, 3, 0), none, none, some (.ifCond .eq 11, 3, 99), none, none, some (.aload 4, 2, 0), none, some (.getfield 62, 3, 0), none, none],
  [some (.ifCond .ne 6, 3, 102), none, none, some (.bipush 6, 2, 0), none, some (.ireturn, 1, 0), some (.aload_n 0, 1, 0), some (.getfield 88, 3, 0), none, none, some (.iload_n 2, 1, 0), some (.iconst 1, 1, 0), some (.iadd, 1, 0), some (.invokevirtual 105, 3, 0), none, none],
  [some (.bipush 18, 2, 0), none, some (.if_icmp .ne 7, 3, 121), none, none, some (.iconst 1, 1, 0), some (.goto 4, 3, 122), none, none, some (.iconst 0, 1, 0), some (.istore 5, 2, 0), none, some (.iload 5, 2, 0), none, some (.ifCond .eq 13, 3, 139), none],
  [none, some (.aload_n 3, 1, 0), some (.aload 4, 2, 0), none, some (.iload_n 1, 1, 0), some (.invokevirtual 157, 3, 0), none, none, some (.goto 10, 3, 146), none, none, some (.aload_n 3, 1, 0), some (.aload 4, 2, 0), none, some (.iload_n 1, 1, 0), some (.invokevirtual 161, 3, 0)],
  [none, none, some (.istore 6, 2, 0), none, some (.aload_n 0, 1, 0), some (.iload 6, 2, 0), none, some (.ifCond .eq 9, 3, 160), none, none, some (.iload_n 2, 1, 0), some (.iconst 3, 1, 0), some (.iadd, 1, 0), some (.goto 16, 3, 173), none, none],
  [some (.aload_n 0, 1, 0), some (.getfield 88, 3, 0), none, none, some (.aload_n 0, 1, 0), some (.getfield 98, 3, 0), none, none, some (.invokevirtual 121, 3, 0), none, none, some (.iconst 1, 1, 0), some (.iadd, 1, 0), some (.putfield 98, 3, 0), none, none],
  [some (.iconst 0, 1, 0), some (.ireturn, 1, 0)]]
def jm_X7_choose : JM := (jc_X7_choose, 7, 0, 0, 0, 0, yX7_choose, cX7_choose, 7, (some .int))
theorem jd_X7_choose : jdOK cX7_choose 0 jc_X7_choose = true := by decide +kernel
def jc_X10_isLess : List (List JR) := [[some (.iload_n 2, 1, 0), some (.ifCond .eq 23, 3, 24), none, none, some (.aload_n 0, 1, 0), some (.getfield 28, 3, 0), none, none, some (.aload_n 0, 1, 0), some (.getfield 31, 3, 0), none, none, some (.aload_n 1, 1, 0), some (.getfield 22, 3, 0), none, none],
  [some (.aload_n 1, 1, 0), some (.getfield 25, 3, 0), none, none, some (.invokestatic 60, 3, 0), none, none, some (.ireturn, 1, 0), some (.aload_n 0, 1, 0), some (.getfield 15, 3, 0), none, none, some (.aload_n 0, 1, 0), some (.getfield 19, 3, 0), none, none],
  [some (.aload_n 1, 1, 0), some (.getfield 15, 3, 0), none, none, some (.aload_n 1, 1, 0), some (.getfield 19, 3, 0), none, none, some (.invokestatic 60, 3, 0), none, none, some (.ireturn, 1, 0)]]
def jm_X10_isLess : JM := (jc_X10_isLess, 10, 0, 0, 2, 0, yX10_isLess, cX10_isLess, 3, (some .boolean))
theorem jd_X10_isLess : jdOK cX10_isLess 0 jc_X10_isLess = true := by decide +kernel
def jc_X10_isBelow : List (List JR) := [[some (.iload_n 1, 1, 0), some (.iload_n 3, 1, 0), some (.if_icmp .lt 13, 3, 15), none, none, some (.iload_n 1, 1, 0), some (.iload_n 3, 1, 0), some (.if_icmp .ne 12, 3, 19), none, none, some (.iload_n 0, 1, 0), some (.iload_n 2, 1, 0), some (.if_icmp .ge 7, 3, 19), none, none, some (.iconst 1, 1, 0)],
  [some (.goto 4, 3, 20), none, none, some (.iconst 0, 1, 0), some (.ireturn, 1, 0)]]
def jm_X10_isBelow : JM := (jc_X10_isBelow, 10, 0, 0, 4, 0, yX10_isBelow, cX10_isBelow, 4, (some .boolean))
theorem jd_X10_isBelow : jdOK cX10_isBelow 0 jc_X10_isBelow = true := by decide +kernel
def jc_X10_isSame : List (List JR) := [[some (.iload_n 2, 1, 0), some (.ifCond .eq 45, 3, 46), none, none, some (.aload_n 0, 1, 0), some (.invokevirtual 64, 3, 0), none, none, some (.ifCond .eq 36, 3, 44), none, none, some (.aload_n 1, 1, 0), some (.invokevirtual 64, 3, 0), none, none, some (.ifCond .eq 29, 3, 44)],
  [none, none, some (.aload_n 0, 1, 0), some (.getfield 22, 3, 0), none, none, some (.aload_n 1, 1, 0), some (.getfield 22, 3, 0), none, none, some (.if_icmp .ne 18, 3, 44), none, none, some (.aload_n 0, 1, 0), some (.getfield 25, 3, 0), none],
  [none, some (.aload_n 1, 1, 0), some (.getfield 25, 3, 0), none, none, some (.if_icmp .ne 7, 3, 44), none, none, some (.iconst 1, 1, 0), some (.goto 4, 3, 45), none, none, some (.iconst 0, 1, 0), some (.ireturn, 1, 0), some (.aload_n 0, 1, 0), some (.getfield 15, 3, 0)],
  [none, none, some (.aload_n 1, 1, 0), some (.getfield 15, 3, 0), none, none, some (.if_icmp .ne 18, 3, 72), none, none, some (.aload_n 0, 1, 0), some (.getfield 19, 3, 0), none, none, some (.aload_n 1, 1, 0), some (.getfield 19, 3, 0), none],
  [none, some (.if_icmp .ne 7, 3, 72), none, none, some (.iconst 1, 1, 0), some (.goto 4, 3, 73), none, none, some (.iconst 0, 1, 0), some (.ireturn, 1, 0)]]
def jm_X10_isSame : JM := (jc_X10_isSame, 10, 0, 0, 2, 0, yX10_isSame, cX10_isSame, 3, (some .boolean))
theorem jd_X10_isSame : jdOK cX10_isSame 0 jc_X10_isSame = true := by decide +kernel
def jc_X10_isSure : List (List JR) := [[some (.aload_n 0, 1, 0), some (.getfield 22, 3, 0), none, none, some (.aload_n 0, 1, 0), some (.getfield 28, 3, 0), none, none, some (.if_icmp .ne 18, 3, 26), none, none, some (.aload_n 0, 1, 0), some (.getfield 25, 3, 0), none, none, some (.aload_n 0, 1, 0)],
  [some (.getfield 31, 3, 0), none, none, some (.if_icmp .ne 7, 3, 26), none, none, some (.iconst 1, 1, 0), some (.goto 4, 3, 27), none, none, some (.iconst 0, 1, 0), some (.ireturn, 1, 0)]]
def jm_X10_isSure : JM := (jc_X10_isSure, 10, 0, 0, 0, 0, yX10_isSure, cX10_isSure, 1, (some .boolean))
theorem jd_X10_isSure : jdOK cX10_isSure 0 jc_X10_isSure = true := by decide +kernel
def jc_X7_endTurn : List (List JR) := [[some (.aload_n 0, 1, 0), some (.getfield 88, 3, 0), none, none, some (.aload_n 0, 1, 0), some (.getfield 98, 3, 0), none, none, some (.invokevirtual 121, 3, 0), none, none, some (.istore_n 1, 1, 0), some (.aload_n 0, 1, 0), some (.getfield 88, 3, 0), none, none],
  [some (.iload_n 1, 1, 0), some (.invokevirtual 105, 3, 0), none, none, some (.iconst 5, 1, 0), some (.if_icmp .ne 20, 3, 41), none, none, some (.iload_n 1, 1, 0), some (.ifCond .lt 16, 3, 41), none, none, some (.iload_n 1, 1, 0), some (.aload_n 0, 1, 0), some (.getfield 55, 3, 0), none],
  [none, some (.arraylength, 1, 0), some (.if_icmp .ge 7, 3, 41), none, none, some (.iconst 1, 1, 0), some (.goto 4, 3, 42), none, none, some (.iconst 0, 1, 0), some (.istore_n 2, 1, 0), some (.iload_n 2, 1, 0), some (.ifCond .eq 13, 3, 57), none, none, some (.aload_n 0, 1, 0)],
  [some (.getfield 55, 3, 0), none, none, some (.iload_n 1, 1, 0), some (.iaload, 1, 0), some (.iconst 1, 1, 0), some (.if_icmp .gt 15, 3, 69), none, none, some (.aload_n 0, 1, 0), some (.dup, 1, 0), some (.getfield 98, 3, 0), none, none, some (.iconst 1, 1, 0), some (.iadd, 1, 0)],
  [some (.putfield 98, 3, 0), none, none, some (.iconst 0, 1, 0), some (.ireturn, 1, 0), some (.aload_n 0, 1, 0), some (.iload_n 1, 1, 0), some (.putfield 137, 3, 0), none, none, some (.aload_n 0, 1, 0), some (.invokevirtual 147, 3, 0), none, none, some (.ifCond .ne 5, 3, 83), none],
  [none, some (.iconst 1, 1, 0), some (.ireturn, 1, 0), some (.aload_n 0, 1, 0), some (.getfield 55, 3, 0), none, none, some (.iload_n 1, 1, 0), some (.dup2, 1, 0), some (.iaload, 1, 0), some (.iconst 1, 1, 0), some (.isub, 1, 0), some (.iastore, 1, 0), some (.aload_n 0, 1, 0), some (.iload_n 1, 1, 0), some (.iconst 2, 1, 0)],
  [some (.iadd, 1, 0), some (.putfield 98, 3, 0), none, none, some (.iconst 0, 1, 0), some (.ireturn, 1, 0)]]
def jm_X7_endTurn : JM := (jc_X7_endTurn, 7, 0, 0, 0, 0, yX7_endTurn, cX7_endTurn, 3, (some .int))
theorem jd_X7_endTurn : jdOK cX7_endTurn 0 jc_X7_endTurn = true := by decide +kernel
def jc_X7_raise : List (List JR) := [[some (.aload_n 0, 1, 0), some (.invokevirtual 147, 3, 0), none, none, some (.ifCond .ne 5, 3, 9), none, none, some (.iconst 1, 1, 0), some (.ireturn, 1, 0), some (.aload_n 0, 1, 0), some (.getfield 88, 3, 0), none, none, some (.aload_n 0, 1, 0), some (.getfield 98, 3, 0), none],
  [none, some (.invokevirtual 105, 3, 0), none, none, some (.istore_n 1, 1, 0), some (.iload_n 1, 1, 0), some (.iconst 3, 1, 0), some (.if_icmp .eq 8, 3, 31), none, none, some (.iload_n 1, 1, 0), some (.iconst 2, 1, 0), some (.if_icmp .ne 7, 3, 35), none, none, some (.iconst 1, 1, 0)],
  [some (.goto 4, 3, 36), none, none, some (.iconst 0, 1, 0), some (.istore_n 2, 1, 0), some (.aload_n 0, 1, 0), some (.iload_n 2, 1, 0), some (.ifCond .eq 10, 3, 49), none, none, some (.aload_n 0, 1, 0), some (.getfield 98, 3, 0), none, none, some (.goto 9, 3, 55), none],
  [none, some (.aload_n 0, 1, 0), some (.getfield 98, 3, 0), none, none, some (.iconst 1, 1, 0), some (.iadd, 1, 0), some (.aload_n 0, 1, 0), some (.getfield 31, 3, 0), none, none, some (.invokevirtual 153, 3, 0), none, none, some (.astore_n 3, 1, 0), some (.aload_n 3, 1, 0)],
  [some (.getfield 62, 3, 0), none, none, some (.ifCond .ne 6, 3, 73), none, none, some (.bipush 6, 2, 0), none, some (.ireturn, 1, 0), some (.iload_n 2, 1, 0), some (.ifCond .ne 41, 3, 115), none, none, some (.aload_n 0, 1, 0), some (.aload_n 3, 1, 0), some (.aload_n 0, 1, 0)],
  [some (.iload_n 1, 1, 0), some (.invokevirtual 205, 3, 0), none, none, some (.aload_n 0, 1, 0), some (.iload_n 1, 1, 0), some (.invokevirtual 208, 3, 0), none, none, some (.iload_n 1, 1, 0), some (.aload_n 3, 1, 0), some (.getfield 211, 3, 0), none, none, some (.invokestatic 214, 3, 0), none],
  [none, some (.invokevirtual 218, 3, 0), none, none, some (.istore 4, 2, 0), none, some (.iload 4, 2, 0), none, some (.ifCond .eq 6, 3, 110), none, none, some (.iload 4, 2, 0), none, some (.ireturn, 1, 0), some (.aload_n 0, 1, 0), some (.getfield 38, 3, 0)],
  [none, none, some (.astore_n 3, 1, 0), some (.aload_n 0, 1, 0), some (.getfield 171, 3, 0), none, none, some (.aload_n 0, 1, 0), some (.getfield 41, 3, 0), none, none, some (.arraylength, 1, 0), some (.if_icmp .ge 89, 3, 213), none, none, some (.aload_n 0, 1, 0)],
  [some (.getfield 41, 3, 0), none, none, some (.aload_n 0, 1, 0), some (.getfield 171, 3, 0), none, none, some (.aload_n 3, 1, 0), some (.getfield 222, 3, 0), none, none, some (.iastore, 1, 0), some (.aload_n 0, 1, 0), some (.getfield 45, 3, 0), none, none],
  [some (.aload_n 0, 1, 0), some (.getfield 171, 3, 0), none, none, some (.aload_n 3, 1, 0), some (.getfield 211, 3, 0), none, none, some (.iastore, 1, 0), some (.aload_n 0, 1, 0), some (.getfield 48, 3, 0), none, none, some (.aload_n 0, 1, 0), some (.getfield 171, 3, 0), none],
  [none, some (.aload_n 3, 1, 0), some (.aload_n 0, 1, 0), some (.getfield 15, 3, 0), none, none, some (.iconst 1, 1, 0), some (.invokevirtual 225, 3, 0), none, none, some (.iastore, 1, 0), some (.aload_n 0, 1, 0), some (.getfield 51, 3, 0), none, none, some (.aload_n 0, 1, 0)],
  [some (.getfield 171, 3, 0), none, none, some (.aload_n 0, 1, 0), some (.getfield 88, 3, 0), none, none, some (.aload_n 0, 1, 0), some (.getfield 98, 3, 0), none, none, some (.iconst 1, 1, 0), some (.isub, 1, 0), some (.invokevirtual 105, 3, 0), none, none],
  [some (.bipush 20, 2, 0), none, some (.if_icmp .ne 7, 3, 201), none, none, some (.iconst 1, 1, 0), some (.goto 4, 3, 202), none, none, some (.iconst 0, 1, 0), some (.bastore, 1, 0), some (.aload_n 0, 1, 0), some (.dup, 1, 0), some (.getfield 171, 3, 0), none, none],
  [some (.iconst 1, 1, 0), some (.iadd, 1, 0), some (.putfield 171, 3, 0), none, none, some (.aload_n 0, 1, 0), some (.dup, 1, 0), some (.getfield 98, 3, 0), none, none, some (.iload_n 2, 1, 0), some (.ifCond .eq 7, 3, 226), none, none, some (.iconst 1, 1, 0), some (.goto 4, 3, 227)],
  [none, none, some (.iconst 2, 1, 0), some (.iadd, 1, 0), some (.putfield 98, 3, 0), none, none, some (.iconst 0, 1, 0), some (.ireturn, 1, 0)]]
def jm_X7_raise : JM := (jc_X7_raise, 7, 0, 0, 0, 0, yX7_raise, cX7_raise, 5, (some .int))
theorem jd_X7_raise : jdOK cX7_raise 0 jc_X7_raise = true := by decide +kernel
def jc_X7_scaleToSet : List (List JR) := [[some (.iload_n 1, 1, 0), some (.tableswitch 45 12 14 #[27, 33, 39], 27, 0), none, none, none, none, none, none, none, none, none, none, none, none, none, none],
  [none, none, none, none, none, none, none, none, none, none, none, none, some (.aload_n 0, 1, 0), some (.iconst 2, 1, 0), some (.invokevirtual 177, 3, 0), none],
  [none, some (.areturn, 1, 0), some (.aload_n 0, 1, 0), some (.iconst 3, 1, 0), some (.invokevirtual 177, 3, 0), none, none, some (.areturn, 1, 0), some (.aload_n 0, 1, 0), some (.iconst 0, 1, 0), some (.invokevirtual 229, 3, 0), none, none, some (.areturn, 1, 0), some (.aload_n 0, 1, 0), some (.iconst 1, 1, 0)],
  [some (.invokevirtual 177, 3, 0), none, none, some (.areturn, 1, 0)]]
def jm_X7_scaleToSet : JM := (jc_X7_scaleToSet, 7, 0, 0, 1, 0, yX7_scaleToSet, cX7_scaleToSet, 2, (some (.object "SlideWorks$Scale")))
theorem jd_X7_scaleToSet : jdOK cX7_scaleToSet 0 jc_X7_scaleToSet = true := by decide +kernel
def jc_X7_scaleToRead : List (List JR) := [[some (.iload_n 1, 1, 0), some (.tableswitch 53 10 14 #[35, 41, 53, 53, 47], 35, 0), none, none, none, none, none, none, none, none, none, none, none, none, none, none],
  [none, none, none, none, none, none, none, none, none, none, none, none, none, none, none, none],
  [none, none, none, none, some (.aload_n 0, 1, 0), some (.iconst 2, 1, 0), some (.invokevirtual 177, 3, 0), none, none, some (.areturn, 1, 0), some (.aload_n 0, 1, 0), some (.iconst 3, 1, 0), some (.invokevirtual 177, 3, 0), none, none, some (.areturn, 1, 0)],
  [some (.aload_n 0, 1, 0), some (.iconst 1, 1, 0), some (.invokevirtual 229, 3, 0), none, none, some (.areturn, 1, 0), some (.aload_n 0, 1, 0), some (.iconst 1, 1, 0), some (.invokevirtual 177, 3, 0), none, none, some (.areturn, 1, 0)]]
def jm_X7_scaleToRead : JM := (jc_X7_scaleToRead, 7, 0, 0, 1, 0, yX7_scaleToRead, cX7_scaleToRead, 2, (some (.object "SlideWorks$Scale")))
theorem jd_X7_scaleToRead : jdOK cX7_scaleToRead 0 jc_X7_scaleToRead = true := by decide +kernel
def jc_X7_placeToRead : List (List JR) := [[some (.iload_n 0, 1, 0), some (.tableswitch 51 10 13 #[31, 35, 39, 45], 31, 0), none, none, none, none, none, none, none, none, none, none, none, none, none, none],
  [none, none, none, none, none, none, none, none, none, none, none, none, none, none, none, none],
  [some (.iconst 2, 1, 0), some (.iload_n 1, 1, 0), some (.imul, 1, 0), some (.ireturn, 1, 0), some (.iconst 3, 1, 0), some (.iload_n 1, 1, 0), some (.imul, 1, 0), some (.ireturn, 1, 0), some (.iload_n 1, 1, 0), some (.iconst 2, 1, 0), some (.invokestatic 233, 3, 0), none, none, some (.ireturn, 1, 0), some (.iload_n 1, 1, 0), some (.iconst 3, 1, 0)],
  [some (.invokestatic 233, 3, 0), none, none, some (.ireturn, 1, 0), some (.iconst (-1), 1, 0), some (.iload_n 1, 1, 0), some (.isub, 1, 0), some (.ireturn, 1, 0)]]
def jm_X7_placeToRead : JM := (jc_X7_placeToRead, 7, 0, 0, 2, 0, yX7_placeToRead, cX7_placeToRead, 2, (some .int))
theorem jd_X7_placeToRead : jdOK cX7_placeToRead 0 jc_X7_placeToRead = true := by decide +kernel
def jc_J9_floorDiv_7cf53 : List (List JR) := [[some (.iload_n 0, 1, 0), some (.iload_n 1, 1, 0), some (.idiv, 1, 0), some (.istore_n 2, 1, 0), some (.iload_n 0, 1, 0), some (.iload_n 1, 1, 0), some (.ixor, 1, 0), some (.ifCond .ge 14, 3, 21), none, none, some (.iload_n 2, 1, 0), some (.iload_n 1, 1, 0), some (.imul, 1, 0), some (.iload_n 0, 1, 0), some (.if_icmp .eq 7, 3, 21), none],
  [none, some (.iload_n 2, 1, 0), some (.iconst 1, 1, 0), some (.isub, 1, 0), some (.ireturn, 1, 0), some (.iload_n 2, 1, 0), some (.ireturn, 1, 0)]]
def jm_J9_floorDiv_7cf53 : JM := (jc_J9_floorDiv_7cf53, 17, 0, 0, 2, 0, yJ9_floorDiv_7cf53, cJ9_floorDiv_7cf53, 3, (some .int))
theorem jd_J9_floorDiv_7cf53 : jdOK cJ9_floorDiv_7cf53 0 jc_J9_floorDiv_7cf53 = true := by decide +kernel
def jc_X7_lookAcross : List (List JR) := [[some (.aload_n 2, 1, 0), some (.ifnonnull 5, 3, 6), none, none, some (.iconst 2, 1, 0), some (.ireturn, 1, 0), some (.aload_n 2, 1, 0), some (.aload_n 1, 1, 0), some (.getfield 222, 3, 0), none, none, some (.aload_n 1, 1, 0), some (.getfield 211, 3, 0), none, none, some (.invokevirtual 238, 3, 0)],
  [none, none, some (.istore 5, 2, 0), none, some (.aload_n 0, 1, 0), some (.getfield 9, 3, 0), none, none, some (.aload_n 0, 1, 0), some (.getfield 9, 3, 0), none, none, some (.aload_n 2, 1, 0), some (.iload 5, 2, 0), none, some (.aload_n 1, 1, 0)],
  [some (.aload_n 0, 1, 0), some (.getfield 15, 3, 0), none, none, some (.aload_n 2, 1, 0), some (.getfield 243, 3, 0), none, none, some (.invokevirtual 225, 3, 0), none, none, some (.invokevirtual 246, 3, 0), none, none, some (.invokevirtual 250, 3, 0), none],
  [none, some (.istore 6, 2, 0), none, some (.iload 6, 2, 0), none, some (.ifCond .eq 6, 3, 59), none, none, some (.iload 6, 2, 0), none, some (.ireturn, 1, 0), some (.aload_n 3, 1, 0), some (.ifnonnull 5, 3, 65), none, none, some (.iconst 2, 1, 0)],
  [some (.ireturn, 1, 0), some (.aload_n 0, 1, 0), some (.getfield 9, 3, 0), none, none, some (.aload_n 3, 1, 0), some (.invokevirtual 181, 3, 0), none, none, some (.ifCond .ne 5, 3, 78), none, none, some (.iconst 5, 1, 0), some (.ireturn, 1, 0), some (.aload_n 0, 1, 0), some (.getfield 38, 3, 0)],
  [none, none, some (.aload_n 3, 1, 0), some (.iload 4, 2, 0), none, some (.invokevirtual 188, 3, 0), none, none, some (.aload_n 0, 1, 0), some (.getfield 38, 3, 0), none, none, some (.invokevirtual 192, 3, 0), none, none, some (.ifCond .eq 7, 3, 102)],
  [none, none, some (.iconst 3, 1, 0), some (.goto 4, 3, 103), none, none, some (.iconst 0, 1, 0), some (.ireturn, 1, 0)]]
def jm_X7_lookAcross : JM := (jc_X7_lookAcross, 7, 0, 0, 4, 0, yX7_lookAcross, cX7_lookAcross, 7, (some .int))
theorem jd_X7_lookAcross : jdOK cX7_lookAcross 0 jc_X7_lookAcross = true := by decide +kernel
def jc_X10_looseBy : List (List JR) := [[some (.aload_n 1, 1, 0), some (.aload_n 0, 1, 0), some (.getfield 15, 3, 0), none, none, some (.aload_n 0, 1, 0), some (.getfield 19, 3, 0), none, none, some (.invokevirtual 55, 3, 0), none, none, some (.istore_n 3, 1, 0), some (.iload_n 3, 1, 0), some (.aload_n 1, 1, 0), some (.aload_n 0, 1, 0)],
  [some (.getfield 22, 3, 0), none, none, some (.aload_n 0, 1, 0), some (.getfield 25, 3, 0), none, none, some (.invokevirtual 55, 3, 0), none, none, some (.isub, 1, 0), some (.istore 4, 2, 0), none, some (.aload_n 1, 1, 0), some (.aload_n 0, 1, 0), some (.getfield 28, 3, 0)],
  [none, none, some (.aload_n 0, 1, 0), some (.getfield 31, 3, 0), none, none, some (.invokevirtual 55, 3, 0), none, none, some (.iload_n 3, 1, 0), some (.isub, 1, 0), some (.istore 5, 2, 0), none, some (.iload 4, 2, 0), none, some (.iload 5, 2, 0)],
  [none, some (.invokestatic 52, 3, 0), none, none, some (.iload_n 2, 1, 0), some (.iadd, 1, 0), some (.iconst 1, 1, 0), some (.isub, 1, 0), some (.iconst 1, 1, 0), some (.iload_n 2, 1, 0), some (.invokestatic 52, 3, 0), none, none, some (.idiv, 1, 0), some (.ireturn, 1, 0)]]
def jm_X10_looseBy : JM := (jc_X10_looseBy, 10, 0, 0, 2, 0, yX10_looseBy, cX10_looseBy, 6, (some .int))
theorem jd_X10_looseBy : jdOK cX10_looseBy 0 jc_X10_looseBy = true := by decide +kernel
def jc_X3_reachOf : List (List JR) := [[some (.aload_n 0, 1, 0), some (.iload_n 1, 1, 0), some (.invokevirtual 37, 3, 0), none, none, some (.sipush 4096, 3, 0), none, none, some (.iload_n 2, 1, 0), some (.imul, 1, 0), some (.iadd, 1, 0), some (.ireturn, 1, 0)]]
def jm_X3_reachOf : JM := (jc_X3_reachOf, 3, 0, 0, 2, 0, yX3_reachOf, cX3_reachOf, 3, (some .int))
theorem jd_X3_reachOf : jdOK cX3_reachOf 0 jc_X3_reachOf = true := by decide +kernel
def jc_X12_run : List (List JR) := [[some (.aload_n 0, 1, 0), some (.getfield 43, 3, 0), none, none, some (.ifCond .ge 5, 3, 9), none, none, some (.iconst (-1), 1, 0), some (.ireturn, 1, 0), some (.aload_n 0, 1, 0), some (.getfield 226, 3, 0), none, none, some (.istore_n 1, 1, 0), some (.aload_n 0, 1, 0), some (.getfield 229, 3, 0)],
  [none, none, some (.istore_n 2, 1, 0), some (.aload_n 0, 1, 0), some (.getfield 232, 3, 0), none, none, some (.istore_n 3, 1, 0), some (.aload_n 0, 1, 0), some (.getfield 235, 3, 0), none, none, some (.istore 4, 2, 0), none, some (.aload_n 0, 1, 0), some (.iconst 0, 1, 0)],
  [some (.putfield 377, 3, 0), none, none, some (.aload_n 0, 1, 0), some (.iconst 0, 1, 0), some (.putfield 417, 3, 0), none, none, some (.aload_n 0, 1, 0), some (.iconst 0, 1, 0), some (.putfield 392, 3, 0), none, none, some (.iconst 0, 1, 0), some (.istore 5, 2, 0), none],
  [some (.iload 5, 2, 0), none, some (.bipush 12, 2, 0), none, some (.if_icmp .ge 17, 3, 69), none, none, some (.aload_n 0, 1, 0), some (.getfield 107, 3, 0), none, none, some (.iload 5, 2, 0), none, some (.iconst 0, 1, 0), some (.bastore, 1, 0), some (.iinc 5 1, 3, 66)],
  [none, none, some (.goto (-18), 3, 48), none, none, some (.aload_n 0, 1, 0), some (.invokevirtual 451, 3, 0), none, none, some (.ifCond .ne 43, 3, 116), none, none, some (.aload_n 0, 1, 0), some (.iload_n 1, 1, 0), some (.putfield 226, 3, 0), none],
  [none, some (.aload_n 0, 1, 0), some (.iload_n 2, 1, 0), some (.putfield 229, 3, 0), none, none, some (.aload_n 0, 1, 0), some (.iload_n 3, 1, 0), some (.putfield 232, 3, 0), none, none, some (.aload_n 0, 1, 0), some (.iload 4, 2, 0), none, some (.putfield 235, 3, 0), none],
  [none, some (.aload_n 0, 1, 0), some (.aload_n 0, 1, 0), some (.getfield 374, 3, 0), none, none, some (.putfield 454, 3, 0), none, none, some (.aload_n 0, 1, 0), some (.aload_n 0, 1, 0), some (.getfield 442, 3, 0), none, none, some (.putfield 116, 3, 0), none],
  [none, some (.bipush (-2), 2, 0), none, some (.ireturn, 1, 0), some (.iconst 0, 1, 0), some (.istore 5, 2, 0), none, some (.iload 5, 2, 0), none, some (.bipush 12, 2, 0), none, some (.if_icmp .ge 23, 3, 146), none, none, some (.aload_n 0, 1, 0), some (.getfield 101, 3, 0)],
  [none, none, some (.iload 5, 2, 0), none, some (.aload_n 0, 1, 0), some (.getfield 107, 3, 0), none, none, some (.iload 5, 2, 0), none, some (.baload, 1, 0), some (.bastore, 1, 0), some (.iinc 5 1, 3, 143), none, none, some (.goto (-24), 3, 119)],
  [none, none, some (.iconst 0, 1, 0), some (.istore 5, 2, 0), none, some (.iload 5, 2, 0), none, some (.bipush 72, 2, 0), none, some (.if_icmp .ge 23, 3, 176), none, none, some (.aload_n 0, 1, 0), some (.getfield 104, 3, 0), none, none],
  [some (.iload 5, 2, 0), none, some (.aload_n 0, 1, 0), some (.getfield 110, 3, 0), none, none, some (.iload 5, 2, 0), none, some (.iaload, 1, 0), some (.iastore, 1, 0), some (.iinc 5 1, 3, 173), none, none, some (.goto (-24), 3, 149), none, none],
  [some (.aload_n 0, 1, 0), some (.aload_n 0, 1, 0), some (.getfield 392, 3, 0), none, none, some (.putfield 457, 3, 0), none, none, some (.aload_n 0, 1, 0), some (.getfield 417, 3, 0), none, none, some (.ireturn, 1, 0)]]
def jm_X12_run : JM := (jc_X12_run, 12, 0, 0, 0, 0, yX12_run, cX12_run, 6, (some .int))
theorem jd_X12_run : jdOK cX12_run 0 jc_X12_run = true := by decide +kernel
def jc_X12_goes : List (List JR) := [[some (.iconst 0, 1, 0), some (.istore_n 1, 1, 0), some (.iload_n 1, 1, 0), some (.aload_n 0, 1, 0), some (.getfield 49, 3, 0), none, none, some (.iconst 0, 1, 0), some (.iaload, 1, 0), some (.if_icmp .ge 251, 3, 260), none, none, some (.iload_n 1, 1, 0), some (.iconst 1, 1, 0), some (.iadd, 1, 0), some (.istore_n 2, 1, 0)],
  [some (.aload_n 0, 1, 0), some (.aload_n 0, 1, 0), some (.getfield 55, 3, 0), none, none, some (.iload_n 1, 1, 0), some (.iaload, 1, 0), some (.putfield 442, 3, 0), none, none, some (.aload_n 0, 1, 0), some (.getfield 52, 3, 0), none, none, some (.iload_n 1, 1, 0), some (.iaload, 1, 0)],
  [some (.ifCond .ne 20, 3, 52), none, none, some (.aload_n 0, 1, 0), some (.invokevirtual 398, 3, 0), none, none, some (.ifCond .eq 11, 3, 50), none, none, some (.aload_n 0, 1, 0), some (.iload_n 1, 1, 0), some (.invokevirtual 445, 3, 0), none, none, some (.ifCond .ne 208, 3, 255)],
  [none, none, some (.iconst 0, 1, 0), some (.ireturn, 1, 0), some (.aload_n 0, 1, 0), some (.getfield 52, 3, 0), none, none, some (.iload_n 1, 1, 0), some (.iaload, 1, 0), some (.iconst 1, 1, 0), some (.if_icmp .ne 54, 3, 113), none, none, some (.aload_n 0, 1, 0), some (.invokevirtual 398, 3, 0)],
  [none, none, some (.ifCond .ne 5, 3, 71), none, none, some (.iconst 0, 1, 0), some (.ireturn, 1, 0), some (.aload_n 0, 1, 0), some (.getfield 119, 3, 0), none, none, some (.aload_n 0, 1, 0), some (.getfield 61, 3, 0), none, none, some (.iload_n 1, 1, 0)],
  [some (.iaload, 1, 0), some (.aload_n 0, 1, 0), some (.getfield 58, 3, 0), none, none, some (.iload_n 1, 1, 0), some (.iaload, 1, 0), some (.iconst 1, 1, 0), some (.isub, 1, 0), some (.iastore, 1, 0), some (.aload_n 0, 1, 0), some (.getfield 58, 3, 0), none, none, some (.iload_n 1, 1, 0), some (.iaload, 1, 0)],
  [some (.ifCond .ne 12, 3, 108), none, none, some (.aload_n 0, 1, 0), some (.getfield 64, 3, 0), none, none, some (.iload_n 1, 1, 0), some (.iaload, 1, 0), some (.goto 4, 3, 109), none, none, some (.iload_n 2, 1, 0), some (.istore_n 2, 1, 0), some (.goto 145, 3, 255), none],
  [none, some (.aload_n 0, 1, 0), some (.getfield 52, 3, 0), none, none, some (.iload_n 1, 1, 0), some (.iaload, 1, 0), some (.bipush 10, 2, 0), none, some (.if_icmp .ne 51, 3, 172), none, none, some (.aload_n 0, 1, 0), some (.getfield 119, 3, 0), none, none],
  [some (.aload_n 0, 1, 0), some (.getfield 61, 3, 0), none, none, some (.iload_n 1, 1, 0), some (.iaload, 1, 0), some (.iaload, 1, 0), some (.ifCond .le 120, 3, 255), none, none, some (.aload_n 0, 1, 0), some (.invokevirtual 398, 3, 0), none, none, some (.ifCond .ne 5, 3, 147), none],
  [none, some (.iconst 0, 1, 0), some (.ireturn, 1, 0), some (.aload_n 0, 1, 0), some (.getfield 119, 3, 0), none, none, some (.aload_n 0, 1, 0), some (.getfield 61, 3, 0), none, none, some (.iload_n 1, 1, 0), some (.iaload, 1, 0), some (.dup2, 1, 0), some (.iaload, 1, 0), some (.iconst 1, 1, 0)],
  [some (.isub, 1, 0), some (.iastore, 1, 0), some (.aload_n 0, 1, 0), some (.getfield 64, 3, 0), none, none, some (.iload_n 1, 1, 0), some (.iaload, 1, 0), some (.istore_n 2, 1, 0), some (.goto 86, 3, 255), none, none, some (.aload_n 0, 1, 0), some (.getfield 52, 3, 0), none, none],
  [some (.iload_n 1, 1, 0), some (.iaload, 1, 0), some (.iconst 2, 1, 0), some (.if_icmp .ne 69, 3, 248), none, none, some (.aload_n 0, 1, 0), some (.invokevirtual 398, 3, 0), none, none, some (.ifCond .eq 33, 3, 219), none, none, some (.aload_n 0, 1, 0), some (.aload_n 0, 1, 0), some (.getfield 61, 3, 0)],
  [none, none, some (.iload_n 1, 1, 0), some (.iaload, 1, 0), some (.iconst 0, 1, 0), some (.invokevirtual 401, 3, 0), none, none, some (.ifCond .eq 19, 3, 219), none, none, some (.aload_n 0, 1, 0), some (.aload_n 0, 1, 0), some (.getfield 61, 3, 0), none, none],
  [some (.iload_n 1, 1, 0), some (.iaload, 1, 0), some (.iconst 1, 1, 0), some (.iadd, 1, 0), some (.iconst 1, 1, 0), some (.invokevirtual 401, 3, 0), none, none, some (.ifCond .ne 5, 3, 221), none, none, some (.iconst 0, 1, 0), some (.ireturn, 1, 0), some (.aload_n 0, 1, 0), some (.aload_n 0, 1, 0), some (.getfield 58, 3, 0)],
  [none, none, some (.iload_n 1, 1, 0), some (.iaload, 1, 0), some (.invokevirtual 448, 3, 0), none, none, some (.ifCond .eq 7, 3, 238), none, none, some (.iload_n 2, 1, 0), some (.goto 9, 3, 244), none, none, some (.aload_n 0, 1, 0), some (.getfield 64, 3, 0)],
  [none, none, some (.iload_n 1, 1, 0), some (.iaload, 1, 0), some (.istore_n 2, 1, 0), some (.goto 10, 3, 255), none, none, some (.aload_n 0, 1, 0), some (.getfield 64, 3, 0), none, none, some (.iload_n 1, 1, 0), some (.iaload, 1, 0), some (.istore_n 2, 1, 0), some (.iload_n 2, 1, 0)],
  [some (.istore_n 1, 1, 0), some (.goto (-255), 3, 2), none, none, some (.iconst 1, 1, 0), some (.ireturn, 1, 0)]]
def jm_X12_goes : JM := (jc_X12_goes, 12, 0, 0, 0, 0, yX12_goes, cX12_goes, 3, (some .boolean))
theorem jd_X12_goes : jdOK cX12_goes 0 jc_X12_goes = true := by decide +kernel
def jc_X12_counts : List (List JR) := [[some (.aload_n 0, 1, 0), some (.getfield 377, 3, 0), none, none, some (.sipush 200, 3, 0), none, none, some (.if_icmp .ne 9, 3, 16), none, none, some (.aload_n 0, 1, 0), some (.iconst 1, 1, 0), some (.invokevirtual 380, 3, 0), none, none, some (.ireturn, 1, 0)],
  [some (.aload_n 0, 1, 0), some (.dup, 1, 0), some (.getfield 377, 3, 0), none, none, some (.iconst 1, 1, 0), some (.iadd, 1, 0), some (.putfield 377, 3, 0), none, none, some (.iconst 1, 1, 0), some (.ireturn, 1, 0)]]
def jm_X12_counts : JM := (jc_X12_counts, 12, 0, 0, 0, 0, yX12_counts, cX12_counts, 1, (some .boolean))
theorem jd_X12_counts : jdOK cX12_counts 0 jc_X12_counts = true := by decide +kernel
def jc_X12_breaks : List (List JR) := [[some (.aload_n 0, 1, 0), some (.iload_n 1, 1, 0), some (.putfield 374, 3, 0), none, none, some (.iconst 0, 1, 0), some (.ireturn, 1, 0)]]
def jm_X12_breaks : JM := (jc_X12_breaks, 12, 0, 0, 1, 0, yX12_breaks, cX12_breaks, 2, (some .boolean))
theorem jd_X12_breaks : jdOK cX12_breaks 0 jc_X12_breaks = true := by decide +kernel
def jc_X12_lets : List (List JR) := [[some (.aload_n 0, 1, 0), some (.getfield 64, 3, 0), none, none, some (.iload_n 1, 1, 0), some (.iaload, 1, 0), some (.aload_n 0, 1, 0), some (.getfield 61, 3, 0), none, none, some (.iload_n 1, 1, 0), some (.iaload, 1, 0), some (.isub, 1, 0), some (.istore_n 2, 1, 0), some (.iconst 0, 1, 0), some (.istore_n 3, 1, 0)],
  [some (.iload_n 3, 1, 0), some (.iload_n 2, 1, 0), some (.if_icmp .ge 27, 3, 45), none, none, some (.aload_n 0, 1, 0), some (.aload_n 0, 1, 0), some (.getfield 61, 3, 0), none, none, some (.iload_n 1, 1, 0), some (.iaload, 1, 0), some (.iload_n 3, 1, 0), some (.iadd, 1, 0), some (.iload_n 3, 1, 0), some (.invokevirtual 426, 3, 0)],
  [none, none, some (.ifCond .ne 5, 3, 39), none, none, some (.iconst 0, 1, 0), some (.ireturn, 1, 0), some (.iinc 3 1, 3, 42), none, none, some (.goto (-26), 3, 16), none, none, some (.aload_n 0, 1, 0), some (.iconst 1, 1, 0), some (.iconst 1, 1, 0)],
  [some (.iconst 0, 1, 0), some (.invokevirtual 404, 3, 0), none, none, some (.istore_n 3, 1, 0), some (.aload_n 0, 1, 0), some (.aload_n 0, 1, 0), some (.getfield 113, 3, 0), none, none, some (.iconst 1, 1, 0), some (.iaload, 1, 0), some (.putfield 420, 3, 0), none, none, some (.aload_n 0, 1, 0)],
  [some (.iload_n 3, 1, 0), some (.iconst 0, 1, 0), some (.invokevirtual 408, 3, 0), none, none, some (.ifCond .ne 5, 3, 74), none, none, some (.iconst 0, 1, 0), some (.ireturn, 1, 0), some (.iconst 1, 1, 0), some (.istore 4, 2, 0), none, some (.iload 4, 2, 0), none, some (.iload_n 2, 1, 0)],
  [some (.if_icmp .ge 97, 3, 177), none, none, some (.aload_n 0, 1, 0), some (.getfield 73, 3, 0), none, none, some (.aload_n 0, 1, 0), some (.getfield 61, 3, 0), none, none, some (.iload_n 1, 1, 0), some (.iaload, 1, 0), some (.iload 4, 2, 0), none, some (.iadd, 1, 0)],
  [some (.iaload, 1, 0), some (.iconst 1, 1, 0), some (.if_icmp .ne 7, 3, 105), none, none, some (.iconst 1, 1, 0), some (.goto 4, 3, 106), none, none, some (.iconst 0, 1, 0), some (.istore 5, 2, 0), none, some (.iload 4, 2, 0), none, some (.iconst 1, 1, 0), some (.if_icmp .le 27, 3, 138)],
  [none, none, some (.aload_n 0, 1, 0), some (.getfield 73, 3, 0), none, none, some (.aload_n 0, 1, 0), some (.getfield 61, 3, 0), none, none, some (.iload_n 1, 1, 0), some (.iaload, 1, 0), some (.iload 4, 2, 0), none, some (.iadd, 1, 0), some (.iconst 1, 1, 0)],
  [some (.isub, 1, 0), some (.iaload, 1, 0), some (.iconst 1, 1, 0), some (.if_icmp .ne 7, 3, 138), none, none, some (.iconst 1, 1, 0), some (.goto 4, 3, 139), none, none, some (.iconst 0, 1, 0), some (.istore 6, 2, 0), none, some (.iload 5, 2, 0), none, some (.ifCond .eq 15, 3, 158)],
  [none, none, some (.aload_n 0, 1, 0), some (.iload 4, 2, 0), none, some (.invokevirtual 429, 3, 0), none, none, some (.ifCond .eq 17, 3, 169), none, none, some (.goto 16, 3, 171), none, none, some (.aload_n 0, 1, 0), some (.iload 4, 2, 0)],
  [none, some (.iload 6, 2, 0), none, some (.invokevirtual 432, 3, 0), none, none, some (.ifCond .ne 5, 3, 171), none, none, some (.iconst 0, 1, 0), some (.ireturn, 1, 0), some (.iinc 4 1, 3, 174), none, none, some (.goto (-97), 3, 77), none],
  [none, some (.aload_n 0, 1, 0), some (.iload_n 3, 1, 0), some (.iconst 0, 1, 0), some (.aload_n 0, 1, 0), some (.getfield 420, 3, 0), none, none, some (.invokevirtual 411, 3, 0), none, none, some (.ifCond .ne 5, 3, 192), none, none, some (.iconst 0, 1, 0), some (.ireturn, 1, 0)],
  [some (.aload_n 0, 1, 0), some (.getfield 58, 3, 0), none, none, some (.iload_n 1, 1, 0), some (.iaload, 1, 0), some (.istore 4, 2, 0), none, some (.aload_n 0, 1, 0), some (.getfield 107, 3, 0), none, none, some (.iload 4, 2, 0), none, some (.iconst 1, 1, 0), some (.bastore, 1, 0)],
  [some (.iconst 0, 1, 0), some (.istore 5, 2, 0), none, some (.iload 5, 2, 0), none, some (.bipush 6, 2, 0), none, some (.if_icmp .ge 29, 3, 244), none, none, some (.aload_n 0, 1, 0), some (.getfield 110, 3, 0), none, none, some (.bipush 6, 2, 0), none],
  [some (.iload 4, 2, 0), none, some (.imul, 1, 0), some (.iload 5, 2, 0), none, some (.iadd, 1, 0), some (.aload_n 0, 1, 0), some (.getfield 113, 3, 0), none, none, some (.iload 5, 2, 0), none, some (.iaload, 1, 0), some (.iastore, 1, 0), some (.iinc 5 1, 3, 241), none],
  [none, some (.goto (-30), 3, 211), none, none, some (.iconst 1, 1, 0), some (.ireturn, 1, 0)]]
def jm_X12_lets : JM := (jc_X12_lets, 12, 0, 0, 1, 0, yX12_lets, cX12_lets, 7, (some .boolean))
theorem jd_X12_lets : jdOK cX12_lets 0 jc_X12_lets = true := by decide +kernel
def jc_X12_power : List (List JR) := [[some (.aload_n 0, 1, 0), some (.invokevirtual 398, 3, 0), none, none, some (.ifCond .eq 12, 3, 16), none, none, some (.aload_n 0, 1, 0), some (.iload_n 1, 1, 0), some (.iload_n 2, 1, 0), some (.invokevirtual 401, 3, 0), none, none, some (.ifCond .ne 5, 3, 18), none, none],
  [some (.iconst 0, 1, 0), some (.ireturn, 1, 0), some (.aload_n 0, 1, 0), some (.getfield 113, 3, 0), none, none, some (.bipush 6, 2, 0), none, some (.iload_n 2, 1, 0), some (.imul, 1, 0), some (.iconst 1, 1, 0), some (.iadd, 1, 0), some (.iaload, 1, 0), some (.istore_n 3, 1, 0), some (.aload_n 0, 1, 0), some (.getfield 70, 3, 0)],
  [none, none, some (.iload_n 1, 1, 0), some (.iaload, 1, 0), some (.tableswitch 235 6 10 #[36, 75, 114, 155, 196], 36, 0), none, none, none, none, none, none, none, none, none, none, none],
  [none, none, none, none, none, none, none, none, none, none, none, none, none, none, none, none],
  [none, none, none, none, none, none, none, none, some (.aload_n 0, 1, 0), some (.aload_n 0, 1, 0), some (.iconst 1, 1, 0), some (.iconst 1, 1, 0), some (.iconst 0, 1, 0), some (.invokevirtual 404, 3, 0), none, none],
  [some (.iload_n 2, 1, 0), some (.invokevirtual 408, 3, 0), none, none, some (.ifCond .eq 25, 3, 109), none, none, some (.aload_n 0, 1, 0), some (.aload_n 0, 1, 0), some (.iconst 1, 1, 0), some (.iconst 2, 1, 0), some (.iconst 0, 1, 0), some (.invokevirtual 404, 3, 0), none, none, some (.iload_n 2, 1, 0)],
  [some (.iconst 2, 1, 0), some (.iload_n 3, 1, 0), some (.imul, 1, 0), some (.invokevirtual 411, 3, 0), none, none, some (.ifCond .eq 7, 3, 109), none, none, some (.iconst 1, 1, 0), some (.goto 4, 3, 110), none, none, some (.iconst 0, 1, 0), some (.ireturn, 1, 0), some (.aload_n 0, 1, 0)],
  [some (.aload_n 0, 1, 0), some (.iconst 1, 1, 0), some (.iconst 1, 1, 0), some (.iconst 0, 1, 0), some (.invokevirtual 404, 3, 0), none, none, some (.iload_n 2, 1, 0), some (.invokevirtual 408, 3, 0), none, none, some (.ifCond .eq 25, 3, 148), none, none, some (.aload_n 0, 1, 0), some (.aload_n 0, 1, 0)],
  [some (.iconst 1, 1, 0), some (.iconst 3, 1, 0), some (.iconst 0, 1, 0), some (.invokevirtual 404, 3, 0), none, none, some (.iload_n 2, 1, 0), some (.iconst 3, 1, 0), some (.iload_n 3, 1, 0), some (.imul, 1, 0), some (.invokevirtual 411, 3, 0), none, none, some (.ifCond .eq 7, 3, 148), none, none],
  [some (.iconst 1, 1, 0), some (.goto 4, 3, 149), none, none, some (.iconst 0, 1, 0), some (.ireturn, 1, 0), some (.aload_n 0, 1, 0), some (.aload_n 0, 1, 0), some (.iconst 1, 1, 0), some (.iconst 2, 1, 0), some (.iconst 0, 1, 0), some (.invokevirtual 404, 3, 0), none, none, some (.iload_n 2, 1, 0), some (.invokevirtual 408, 3, 0)],
  [none, none, some (.ifCond .eq 27, 3, 189), none, none, some (.aload_n 0, 1, 0), some (.aload_n 0, 1, 0), some (.iconst 1, 1, 0), some (.iconst 1, 1, 0), some (.iconst 0, 1, 0), some (.invokevirtual 404, 3, 0), none, none, some (.iload_n 2, 1, 0), some (.iload_n 3, 1, 0), some (.iconst 2, 1, 0)],
  [some (.invokestatic 414, 3, 0), none, none, some (.invokevirtual 411, 3, 0), none, none, some (.ifCond .eq 7, 3, 189), none, none, some (.iconst 1, 1, 0), some (.goto 4, 3, 190), none, none, some (.iconst 0, 1, 0), some (.ireturn, 1, 0), some (.aload_n 0, 1, 0)],
  [some (.aload_n 0, 1, 0), some (.iconst 1, 1, 0), some (.iconst 3, 1, 0), some (.iconst 0, 1, 0), some (.invokevirtual 404, 3, 0), none, none, some (.iload_n 2, 1, 0), some (.invokevirtual 408, 3, 0), none, none, some (.ifCond .eq 27, 3, 230), none, none, some (.aload_n 0, 1, 0), some (.aload_n 0, 1, 0)],
  [some (.iconst 1, 1, 0), some (.iconst 1, 1, 0), some (.iconst 0, 1, 0), some (.invokevirtual 404, 3, 0), none, none, some (.iload_n 2, 1, 0), some (.iload_n 3, 1, 0), some (.iconst 3, 1, 0), some (.invokestatic 414, 3, 0), none, none, some (.invokevirtual 411, 3, 0), none, none, some (.ifCond .eq 7, 3, 230)],
  [none, none, some (.iconst 1, 1, 0), some (.goto 4, 3, 231), none, none, some (.iconst 0, 1, 0), some (.ireturn, 1, 0), some (.aload_n 0, 1, 0), some (.aload_n 0, 1, 0), some (.iconst 0, 1, 0), some (.iconst 1, 1, 0), some (.iconst 0, 1, 0), some (.invokevirtual 404, 3, 0), none, none],
  [some (.iload_n 2, 1, 0), some (.invokevirtual 408, 3, 0), none, none, some (.ifCond .eq 25, 3, 269), none, none, some (.aload_n 0, 1, 0), some (.aload_n 0, 1, 0), some (.iconst 0, 1, 0), some (.iconst 1, 1, 0), some (.iconst 1, 1, 0), some (.invokevirtual 404, 3, 0), none, none, some (.iload_n 2, 1, 0)],
  [some (.iconst (-1), 1, 0), some (.iload_n 3, 1, 0), some (.isub, 1, 0), some (.invokevirtual 411, 3, 0), none, none, some (.ifCond .eq 7, 3, 269), none, none, some (.iconst 1, 1, 0), some (.goto 4, 3, 270), none, none, some (.iconst 0, 1, 0), some (.ireturn, 1, 0), some (.iconst 1, 1, 0)],
  [some (.ireturn, 1, 0)]]
def jm_X12_power : JM := (jc_X12_power, 12, 0, 0, 2, 0, yX12_power, cX12_power, 4, (some .boolean))
theorem jd_X12_power : jdOK cX12_power 0 jc_X12_power = true := by decide +kernel
def jc_X12_asked : List (List JR) := [[some (.aload_n 0, 1, 0), some (.getfield 76, 3, 0), none, none, some (.iload_n 1, 1, 0), some (.iaload, 1, 0), some (.istore_n 3, 1, 0), some (.iload_n 3, 1, 0), some (.ifCond .lt 19, 3, 27), none, none, some (.aload_n 0, 1, 0), some (.getfield 107, 3, 0), none, none, some (.iload_n 3, 1, 0)],
  [some (.baload, 1, 0), some (.ifCond .ne 10, 3, 27), none, none, some (.aload_n 0, 1, 0), some (.bipush 6, 2, 0), none, some (.invokevirtual 380, 3, 0), none, none, some (.ireturn, 1, 0), some (.iconst 0, 1, 0), some (.istore 4, 2, 0), none, some (.iload 4, 2, 0), none],
  [some (.bipush 6, 2, 0), none, some (.if_icmp .ge 62, 3, 96), none, none, some (.aload_n 0, 1, 0), some (.getfield 113, 3, 0), none, none, some (.bipush 6, 2, 0), none, some (.iload_n 2, 1, 0), some (.imul, 1, 0), some (.iload 4, 2, 0), none, some (.iadd, 1, 0)],
  [some (.iload_n 3, 1, 0), some (.ifCond .lt 18, 3, 67), none, none, some (.aload_n 0, 1, 0), some (.getfield 110, 3, 0), none, none, some (.bipush 6, 2, 0), none, some (.iload_n 3, 1, 0), some (.imul, 1, 0), some (.iload 4, 2, 0), none, some (.iadd, 1, 0), some (.iaload, 1, 0)],
  [some (.goto 25, 3, 89), none, none, some (.iload 4, 2, 0), none, some (.iconst 2, 1, 0), some (.irem, 1, 0), some (.ifCond .ne 12, 3, 83), none, none, some (.aload_n 0, 1, 0), some (.getfield 79, 3, 0), none, none, some (.iload_n 1, 1, 0), some (.iaload, 1, 0)],
  [some (.goto 9, 3, 89), none, none, some (.aload_n 0, 1, 0), some (.getfield 82, 3, 0), none, none, some (.iload_n 1, 1, 0), some (.iaload, 1, 0), some (.iastore, 1, 0), some (.iinc 4 1, 3, 93), none, none, some (.goto (-63), 3, 30), none, none],
  [some (.iconst 1, 1, 0), some (.ireturn, 1, 0)]]
def jm_X12_asked : JM := (jc_X12_asked, 12, 0, 0, 2, 0, yX12_asked, cX12_asked, 5, (some .boolean))
theorem jd_X12_asked : jdOK cX12_asked 0 jc_X12_asked = true := by decide +kernel
def jc_X12_find : List (List JR) := [[some (.iconst 0, 1, 0), some (.istore 4, 2, 0), none, some (.iload 4, 2, 0), none, some (.aload_n 0, 1, 0), some (.getfield 17, 3, 0), none, none, some (.aload_n 0, 1, 0), some (.getfield 43, 3, 0), none, none, some (.iaload, 1, 0), some (.if_icmp .ge 57, 3, 71), none],
  [none, some (.bipush 8, 2, 0), none, some (.aload_n 0, 1, 0), some (.getfield 43, 3, 0), none, none, some (.imul, 1, 0), some (.iload 4, 2, 0), none, some (.iadd, 1, 0), some (.istore 5, 2, 0), none, some (.aload_n 0, 1, 0), some (.getfield 21, 3, 0), none],
  [none, some (.iload 5, 2, 0), none, some (.baload, 1, 0), some (.iload_n 1, 1, 0), some (.if_icmp .ne 28, 3, 65), none, none, some (.aload_n 0, 1, 0), some (.getfield 25, 3, 0), none, none, some (.iload 5, 2, 0), none, some (.iaload, 1, 0), some (.iload_n 2, 1, 0)],
  [some (.if_icmp .ne 17, 3, 65), none, none, some (.aload_n 0, 1, 0), some (.getfield 28, 3, 0), none, none, some (.iload 5, 2, 0), none, some (.baload, 1, 0), some (.iload_n 3, 1, 0), some (.if_icmp .ne 6, 3, 65), none, none, some (.iload 5, 2, 0), none],
  [some (.ireturn, 1, 0), some (.iinc 4 1, 3, 68), none, none, some (.goto (-65), 3, 3), none, none, some (.iconst (-1), 1, 0), some (.ireturn, 1, 0)]]
def jm_X12_find : JM := (jc_X12_find, 12, 0, 0, 3, 0, yX12_find, cX12_find, 6, (some .int))
theorem jd_X12_find : jdOK cX12_find 0 jc_X12_find = true := by decide +kernel
def jc_X12_hairBy : List (List JR) := [[some (.iload_n 1, 1, 0), some (.ifCond .ge 9, 3, 10), none, none, some (.aload_n 0, 1, 0), some (.iconst 2, 1, 0), some (.invokevirtual 380, 3, 0), none, none, some (.ireturn, 1, 0), some (.aload_n 0, 1, 0), some (.iload_n 1, 1, 0), some (.aload_n 0, 1, 0), some (.getfield 113, 3, 0), none, none],
  [some (.bipush 6, 2, 0), none, some (.iload_n 2, 1, 0), some (.imul, 1, 0), some (.iconst 1, 1, 0), some (.iadd, 1, 0), some (.iaload, 1, 0), some (.aload_n 0, 1, 0), some (.getfield 25, 3, 0), none, none, some (.iload_n 1, 1, 0), some (.iaload, 1, 0), some (.invokestatic 241, 3, 0), none, none],
  [some (.aload_n 0, 1, 0), some (.getfield 113, 3, 0), none, none, some (.bipush 6, 2, 0), none, some (.iload_n 2, 1, 0), some (.imul, 1, 0), some (.iaload, 1, 0), some (.aload_n 0, 1, 0), some (.iload_n 2, 1, 0), some (.aload_n 0, 1, 0), some (.getfield 25, 3, 0), none, none, some (.iload_n 1, 1, 0)],
  [some (.iaload, 1, 0), some (.invokevirtual 389, 3, 0), none, none, some (.invokevirtual 244, 3, 0), none, none, some (.ifCond .ne 9, 3, 64), none, none, some (.aload_n 0, 1, 0), some (.iconst 5, 1, 0), some (.invokevirtual 380, 3, 0), none, none, some (.ireturn, 1, 0)],
  [some (.aload_n 0, 1, 0), some (.dup, 1, 0), some (.getfield 392, 3, 0), none, none, some (.iconst 1, 1, 0), some (.iadd, 1, 0), some (.putfield 392, 3, 0), none, none, some (.aload_n 0, 1, 0), some (.invokevirtual 395, 3, 0), none, none, some (.ireturn, 1, 0)]]
def jm_X12_hairBy : JM := (jc_X12_hairBy, 12, 0, 0, 2, 0, yX12_hairBy, cX12_hairBy, 3, (some .boolean))
theorem jd_X12_hairBy : jdOK cX12_hairBy 0 jc_X12_hairBy = true := by decide +kernel
def jc_X12_loose : List (List JR) := [[some (.aload_n 0, 1, 0), some (.iload_n 1, 1, 0), some (.iconst 0, 1, 0), some (.invokevirtual 386, 3, 0), none, none, some (.aload_n 0, 1, 0), some (.iload_n 1, 1, 0), some (.iconst 1, 1, 0), some (.invokevirtual 386, 3, 0), none, none, some (.isub, 1, 0), some (.istore_n 3, 1, 0), some (.aload_n 0, 1, 0), some (.iload_n 1, 1, 0)],
  [some (.iconst 2, 1, 0), some (.invokevirtual 386, 3, 0), none, none, some (.aload_n 0, 1, 0), some (.iload_n 1, 1, 0), some (.iconst 0, 1, 0), some (.invokevirtual 386, 3, 0), none, none, some (.isub, 1, 0), some (.istore 4, 2, 0), none, some (.iload_n 3, 1, 0), some (.iload 4, 2, 0), none],
  [some (.if_icmp .le 7, 3, 39), none, none, some (.iload_n 3, 1, 0), some (.goto 5, 3, 41), none, none, some (.iload 4, 2, 0), none, some (.istore 5, 2, 0), none, some (.iload 5, 2, 0), none, some (.ifCond .gt 7, 3, 52), none, none],
  [some (.iconst 0, 1, 0), some (.goto 11, 3, 60), none, none, some (.iload 5, 2, 0), none, some (.iload_n 2, 1, 0), some (.iadd, 1, 0), some (.iconst 1, 1, 0), some (.isub, 1, 0), some (.iload_n 2, 1, 0), some (.idiv, 1, 0), some (.ireturn, 1, 0)]]
def jm_X12_loose : JM := (jc_X12_loose, 12, 0, 0, 2, 0, yX12_loose, cX12_loose, 6, (some .int))
theorem jd_X12_loose : jdOK cX12_loose 0 jc_X12_loose = true := by decide +kernel
def jc_X12_reachAt : List (List JR) := [[some (.aload_n 0, 1, 0), some (.aload_n 0, 1, 0), some (.getfield 113, 3, 0), none, none, some (.bipush 6, 2, 0), none, some (.iload_n 1, 1, 0), some (.imul, 1, 0), some (.iconst 2, 1, 0), some (.iload_n 2, 1, 0), some (.imul, 1, 0), some (.iadd, 1, 0), some (.iaload, 1, 0), some (.aload_n 0, 1, 0), some (.getfield 113, 3, 0)],
  [none, none, some (.bipush 6, 2, 0), none, some (.iload_n 1, 1, 0), some (.imul, 1, 0), some (.iconst 2, 1, 0), some (.iload_n 2, 1, 0), some (.imul, 1, 0), some (.iadd, 1, 0), some (.iconst 1, 1, 0), some (.iadd, 1, 0), some (.iaload, 1, 0), some (.invokevirtual 383, 3, 0), none, none],
  [some (.ireturn, 1, 0)]]
def jm_X12_reachAt : JM := (jc_X12_reachAt, 12, 0, 0, 2, 0, yX12_reachAt, cX12_reachAt, 3, (some .int))
theorem jd_X12_reachAt : jdOK cX12_reachAt 0 jc_X12_reachAt = true := by decide +kernel
def jc_X12_reach : List (List JR) := [[some (.aload_n 0, 1, 0), some (.getfield 40, 3, 0), none, none, some (.iload_n 1, 1, 0), some (.iaload, 1, 0), some (.sipush 4096, 3, 0), none, none, some (.iload_n 2, 1, 0), some (.imul, 1, 0), some (.iadd, 1, 0), some (.ireturn, 1, 0)]]
def jm_X12_reach : JM := (jc_X12_reach, 12, 0, 0, 2, 0, yX12_reach, cX12_reach, 3, (some .int))
theorem jd_X12_reach : jdOK cX12_reach 0 jc_X12_reach = true := by decide +kernel
def jc_X12_isHeld : List (List JR) := [[some (.aload_n 0, 1, 0), some (.getfield 232, 3, 0), none, none, some (.sipush 999, 3, 0), none, none, some (.if_icmp .gt 13, 3, 20), none, none, some (.aload_n 0, 1, 0), some (.getfield 235, 3, 0), none, none, some (.sipush 999, 3, 0), none],
  [none, some (.if_icmp .le 11, 3, 28), none, none, some (.aload_n 0, 1, 0), some (.iconst 4, 1, 0), some (.invokevirtual 380, 3, 0), none, none, some (.ifCond .eq 7, 3, 32), none, none, some (.iconst 1, 1, 0), some (.goto 4, 3, 33), none, none],
  [some (.iconst 0, 1, 0), some (.ireturn, 1, 0)]]
def jm_X12_isHeld : JM := (jc_X12_isHeld, 12, 0, 0, 0, 0, yX12_isHeld, cX12_isHeld, 1, (some .boolean))
theorem jd_X12_isHeld : jdOK cX12_isHeld 0 jc_X12_isHeld = true := by decide +kernel
def jc_X12_lookBy : List (List JR) := [[some (.iload_n 1, 1, 0), some (.ifCond .ge 9, 3, 10), none, none, some (.aload_n 0, 1, 0), some (.iconst 2, 1, 0), some (.invokevirtual 380, 3, 0), none, none, some (.ireturn, 1, 0), some (.aload_n 0, 1, 0), some (.iload_n 1, 1, 0), some (.invokevirtual 251, 3, 0), none, none, some (.ifCond .ne 9, 3, 24)],
  [none, none, some (.aload_n 0, 1, 0), some (.iconst 5, 1, 0), some (.invokevirtual 380, 3, 0), none, none, some (.ireturn, 1, 0), some (.iconst 1, 1, 0), some (.istore 4, 2, 0), none, some (.iconst 0, 1, 0), some (.istore 5, 2, 0), none, some (.iload 5, 2, 0), none],
  [some (.iconst 3, 1, 0), some (.if_icmp .ge 111, 3, 144), none, none, some (.aload_n 0, 1, 0), some (.getfield 113, 3, 0), none, none, some (.bipush 6, 2, 0), none, some (.iload_n 2, 1, 0), some (.imul, 1, 0), some (.iconst 2, 1, 0), some (.iload 5, 2, 0), none, some (.imul, 1, 0)],
  [some (.iadd, 1, 0), some (.aload_n 0, 1, 0), some (.getfield 46, 3, 0), none, none, some (.iload 5, 2, 0), none, some (.iaload, 1, 0), some (.sipush 1000, 3, 0), none, none, some (.irem, 1, 0), some (.iastore, 1, 0), some (.aload_n 0, 1, 0), some (.getfield 113, 3, 0), none],
  [none, some (.bipush 6, 2, 0), none, some (.iload_n 2, 1, 0), some (.imul, 1, 0), some (.iconst 2, 1, 0), some (.iload 5, 2, 0), none, some (.imul, 1, 0), some (.iadd, 1, 0), some (.iconst 1, 1, 0), some (.iadd, 1, 0), some (.iload_n 3, 1, 0), some (.aload_n 0, 1, 0), some (.getfield 46, 3, 0), none],
  [none, some (.iload 5, 2, 0), none, some (.iaload, 1, 0), some (.sipush 1000, 3, 0), none, none, some (.idiv, 1, 0), some (.iadd, 1, 0), some (.iastore, 1, 0), some (.iload 4, 2, 0), none, some (.ifCond .eq 43, 3, 135), none, none, some (.aload_n 0, 1, 0)],
  [some (.getfield 113, 3, 0), none, none, some (.bipush 6, 2, 0), none, some (.iload_n 2, 1, 0), some (.imul, 1, 0), some (.iconst 2, 1, 0), some (.iload 5, 2, 0), none, some (.imul, 1, 0), some (.iadd, 1, 0), some (.iaload, 1, 0), some (.aload_n 0, 1, 0), some (.getfield 113, 3, 0), none],
  [none, some (.bipush 6, 2, 0), none, some (.iload_n 2, 1, 0), some (.imul, 1, 0), some (.iconst 2, 1, 0), some (.iload 5, 2, 0), none, some (.imul, 1, 0), some (.iadd, 1, 0), some (.iconst 1, 1, 0), some (.iadd, 1, 0), some (.iaload, 1, 0), some (.invokestatic 238, 3, 0), none, none],
  [some (.ifCond .eq 7, 3, 135), none, none, some (.iconst 1, 1, 0), some (.goto 4, 3, 136), none, none, some (.iconst 0, 1, 0), some (.istore 4, 2, 0), none, some (.iinc 5 1, 3, 141), none, none, some (.goto (-111), 3, 30), none, none],
  [some (.iload 4, 2, 0), none, some (.ifCond .ne 11, 3, 157), none, none, some (.aload_n 0, 1, 0), some (.iconst 3, 1, 0), some (.invokevirtual 380, 3, 0), none, none, some (.ifCond .eq 7, 3, 161), none, none, some (.iconst 1, 1, 0), some (.goto 4, 3, 162), none],
  [none, some (.iconst 0, 1, 0), some (.ireturn, 1, 0)]]
def jm_X12_lookBy : JM := (jc_X12_lookBy, 12, 0, 0, 3, 0, yX12_lookBy, cX12_lookBy, 6, (some .boolean))
theorem jd_X12_lookBy : jdOK cX12_lookBy 0 jc_X12_lookBy = true := by decide +kernel
def jc_X12_floored : List (List JR) := [[some (.iload_n 0, 1, 0), some (.iload_n 1, 1, 0), some (.idiv, 1, 0), some (.istore_n 2, 1, 0), some (.iload_n 0, 1, 0), some (.iload_n 1, 1, 0), some (.irem, 1, 0), some (.ifCond .ge 9, 3, 16), none, none, some (.iload_n 2, 1, 0), some (.iconst 1, 1, 0), some (.isub, 1, 0), some (.goto 4, 3, 17), none, none],
  [some (.iload_n 2, 1, 0), some (.ireturn, 1, 0)]]
def jm_X12_floored : JM := (jc_X12_floored, 12, 0, 0, 2, 0, yX12_floored, cX12_floored, 3, (some .int))
theorem jd_X12_floored : jdOK cX12_floored 0 jc_X12_floored = true := by decide +kernel
def jc_X12_overBy : List (List JR) := [[some (.aload_n 0, 1, 0), some (.iconst 0, 1, 0), some (.iconst 1, 1, 0), some (.iconst 0, 1, 0), some (.invokevirtual 404, 3, 0), none, none, some (.istore_n 2, 1, 0), some (.iload_n 2, 1, 0), some (.ifCond .ge 9, 3, 18), none, none, some (.aload_n 0, 1, 0), some (.iconst 2, 1, 0), some (.invokevirtual 380, 3, 0), none],
  [none, some (.ireturn, 1, 0), some (.aload_n 0, 1, 0), some (.aload_n 0, 1, 0), some (.getfield 229, 3, 0), none, none, some (.aload_n 0, 1, 0), some (.iload_n 2, 1, 0), some (.iconst 0, 1, 0), some (.aload_n 0, 1, 0), some (.getfield 113, 3, 0), none, none, some (.bipush 6, 2, 0), none],
  [some (.iload_n 1, 1, 0), some (.imul, 1, 0), some (.iaload, 1, 0), some (.invokevirtual 214, 3, 0), none, none, some (.isub, 1, 0), some (.aload_n 0, 1, 0), some (.getfield 235, 3, 0), none, none, some (.aload_n 0, 1, 0), some (.getfield 34, 3, 0), none, none, some (.iadd, 1, 0)],
  [some (.aload_n 0, 1, 0), some (.iload_n 1, 1, 0), some (.iconst 1, 1, 0), some (.invokevirtual 389, 3, 0), none, none, some (.iadd, 1, 0), some (.invokevirtual 423, 3, 0), none, none, some (.ifCond .ne 5, 3, 63), none, none, some (.iconst 0, 1, 0), some (.ireturn, 1, 0), some (.aload_n 0, 1, 0)],
  [some (.getfield 226, 3, 0), none, none, some (.ifCond .ge 14, 3, 81), none, none, some (.aload_n 0, 1, 0), some (.getfield 226, 3, 0), none, none, some (.sipush 4096, 3, 0), none, none, some (.iadd, 1, 0), some (.goto 7, 3, 85), none],
  [none, some (.aload_n 0, 1, 0), some (.getfield 226, 3, 0), none, none, some (.istore_n 3, 1, 0), some (.aload_n 0, 1, 0), some (.dup, 1, 0), some (.getfield 420, 3, 0), none, none, some (.aload_n 0, 1, 0), some (.getfield 226, 3, 0), none, none, some (.ifCond .ge 7, 3, 102)],
  [none, none, some (.iconst 1, 1, 0), some (.goto 4, 3, 103), none, none, some (.iconst 0, 1, 0), some (.isub, 1, 0), some (.putfield 420, 3, 0), none, none, some (.iload_n 3, 1, 0), some (.ifCond .lt 10, 3, 118), none, none, some (.iload_n 3, 1, 0)],
  [some (.sipush 4096, 3, 0), none, none, some (.if_icmp .le 9, 3, 124), none, none, some (.aload_n 0, 1, 0), some (.iconst 5, 1, 0), some (.invokevirtual 380, 3, 0), none, none, some (.ireturn, 1, 0), some (.aload_n 0, 1, 0), some (.iload_n 3, 1, 0), some (.putfield 229, 3, 0), none],
  [none, some (.aload_n 0, 1, 0), some (.aload_n 0, 1, 0), some (.getfield 232, 3, 0), none, none, some (.aload_n 0, 1, 0), some (.getfield 34, 3, 0), none, none, some (.iadd, 1, 0), some (.putfield 235, 3, 0), none, none, some (.aload_n 0, 1, 0), some (.dup, 1, 0)],
  [some (.getfield 392, 3, 0), none, none, some (.iconst 1, 1, 0), some (.iadd, 1, 0), some (.putfield 392, 3, 0), none, none, some (.aload_n 0, 1, 0), some (.dup, 1, 0), some (.getfield 420, 3, 0), none, none, some (.aload_n 0, 1, 0), some (.getfield 113, 3, 0), none],
  [none, some (.bipush 6, 2, 0), none, some (.iload_n 1, 1, 0), some (.imul, 1, 0), some (.iconst 1, 1, 0), some (.iadd, 1, 0), some (.iaload, 1, 0), some (.isub, 1, 0), some (.putfield 420, 3, 0), none, none, some (.aload_n 0, 1, 0), some (.invokevirtual 395, 3, 0), none, none],
  [some (.ireturn, 1, 0)]]
def jm_X12_overBy : JM := (jc_X12_overBy, 12, 0, 0, 1, 0, yX12_overBy, cX12_overBy, 4, (some .boolean))
theorem jd_X12_overBy : jdOK cX12_overBy 0 jc_X12_overBy = true := by decide +kernel
def jc_X12_slideBy : List (List JR) := [[some (.aload_n 0, 1, 0), some (.iload_n 1, 1, 0), some (.iload_n 2, 1, 0), some (.invokevirtual 248, 3, 0), none, none, some (.ifCond .ne 9, 3, 15), none, none, some (.aload_n 0, 1, 0), some (.iconst 5, 1, 0), some (.invokevirtual 380, 3, 0), none, none, some (.ireturn, 1, 0), some (.aload_n 0, 1, 0)],
  [some (.dup, 1, 0), some (.getfield 417, 3, 0), none, none, some (.iconst 1, 1, 0), some (.iadd, 1, 0), some (.putfield 417, 3, 0), none, none, some (.aload_n 0, 1, 0), some (.invokevirtual 395, 3, 0), none, none, some (.ireturn, 1, 0)]]
def jm_X12_slideBy : JM := (jc_X12_slideBy, 12, 0, 0, 2, 0, yX12_slideBy, cX12_slideBy, 3, (some .boolean))
theorem jd_X12_slideBy : jdOK cX12_slideBy 0 jc_X12_slideBy = true := by decide +kernel
def jc_X12_timesBy : List (List JR) := [[some (.iload_n 2, 1, 0), some (.ifCond .eq 27, 3, 28), none, none, some (.aload_n 0, 1, 0), some (.dup, 1, 0), some (.getfield 420, 3, 0), none, none, some (.aload_n 0, 1, 0), some (.getfield 226, 3, 0), none, none, some (.ifCond .ge 7, 3, 20), none, none],
  [some (.iconst 1, 1, 0), some (.goto 4, 3, 21), none, none, some (.iconst 0, 1, 0), some (.iadd, 1, 0), some (.putfield 420, 3, 0), none, none, some (.goto 25, 3, 50), none, none, some (.aload_n 0, 1, 0), some (.aload_n 0, 1, 0), some (.getfield 229, 3, 0), none],
  [none, some (.aload_n 0, 1, 0), some (.getfield 235, 3, 0), none, none, some (.aload_n 0, 1, 0), some (.getfield 34, 3, 0), none, none, some (.iadd, 1, 0), some (.invokevirtual 423, 3, 0), none, none, some (.ifCond .ne 5, 3, 50), none, none],
  [some (.iconst 0, 1, 0), some (.ireturn, 1, 0), some (.aload_n 0, 1, 0), some (.iconst 0, 1, 0), some (.iconst 1, 1, 0), some (.iconst 0, 1, 0), some (.invokevirtual 404, 3, 0), none, none, some (.istore_n 3, 1, 0), some (.iload_n 3, 1, 0), some (.ifCond .ge 9, 3, 68), none, none, some (.aload_n 0, 1, 0), some (.iconst 2, 1, 0)],
  [some (.invokevirtual 380, 3, 0), none, none, some (.ireturn, 1, 0), some (.aload_n 0, 1, 0), some (.iload_n 3, 1, 0), some (.iconst 0, 1, 0), some (.aload_n 0, 1, 0), some (.getfield 113, 3, 0), none, none, some (.bipush 6, 2, 0), none, some (.iload_n 1, 1, 0), some (.imul, 1, 0), some (.iaload, 1, 0)],
  [some (.invokevirtual 214, 3, 0), none, none, some (.aload_n 0, 1, 0), some (.getfield 226, 3, 0), none, none, some (.iadd, 1, 0), some (.istore 4, 2, 0), none, some (.iload 4, 2, 0), none, some (.sipush 4096, 3, 0), none, none, some (.if_icmp .le 39, 3, 134)],
  [none, none, some (.aload_n 0, 1, 0), some (.dup, 1, 0), some (.getfield 420, 3, 0), none, none, some (.iconst 1, 1, 0), some (.iadd, 1, 0), some (.putfield 420, 3, 0), none, none, some (.aload_n 0, 1, 0), some (.aload_n 0, 1, 0), some (.getfield 226, 3, 0), none],
  [none, some (.sipush 4096, 3, 0), none, none, some (.isub, 1, 0), some (.aload_n 0, 1, 0), some (.getfield 232, 3, 0), none, none, some (.aload_n 0, 1, 0), some (.getfield 34, 3, 0), none, none, some (.iadd, 1, 0), some (.invokevirtual 423, 3, 0), none],
  [none, some (.ifCond .ne 46, 3, 175), none, none, some (.iconst 0, 1, 0), some (.ireturn, 1, 0), some (.iload 4, 2, 0), none, some (.ifCond .ge 39, 3, 175), none, none, some (.aload_n 0, 1, 0), some (.dup, 1, 0), some (.getfield 420, 3, 0), none, none],
  [some (.iconst 1, 1, 0), some (.isub, 1, 0), some (.putfield 420, 3, 0), none, none, some (.aload_n 0, 1, 0), some (.aload_n 0, 1, 0), some (.getfield 226, 3, 0), none, none, some (.sipush 4096, 3, 0), none, none, some (.iadd, 1, 0), some (.aload_n 0, 1, 0), some (.getfield 232, 3, 0)],
  [none, none, some (.aload_n 0, 1, 0), some (.getfield 34, 3, 0), none, none, some (.iadd, 1, 0), some (.invokevirtual 423, 3, 0), none, none, some (.ifCond .ne 5, 3, 175), none, none, some (.iconst 0, 1, 0), some (.ireturn, 1, 0), some (.aload_n 0, 1, 0)],
  [some (.dup, 1, 0), some (.getfield 420, 3, 0), none, none, some (.aload_n 0, 1, 0), some (.getfield 113, 3, 0), none, none, some (.bipush 6, 2, 0), none, some (.iload_n 1, 1, 0), some (.imul, 1, 0), some (.iconst 1, 1, 0), some (.iadd, 1, 0), some (.iaload, 1, 0), some (.iadd, 1, 0)],
  [some (.putfield 420, 3, 0), none, none, some (.aload_n 0, 1, 0), some (.iload_n 3, 1, 0), some (.iload_n 1, 1, 0), some (.invokevirtual 408, 3, 0), none, none, some (.ireturn, 1, 0)]]
def jm_X12_timesBy : JM := (jc_X12_timesBy, 12, 0, 0, 2, 0, yX12_timesBy, cX12_timesBy, 5, (some .boolean))
theorem jd_X12_timesBy : jdOK cX12_timesBy 0 jc_X12_timesBy = true := by decide +kernel
def jc_X12_holds : List (List JR) := [[some (.iload_n 1, 1, 0), some (.iconst 2, 1, 0), some (.irem, 1, 0), some (.iconst 1, 1, 0), some (.if_icmp .ne 7, 3, 11), none, none, some (.iconst 1, 1, 0), some (.goto 4, 3, 12), none, none, some (.iconst 0, 1, 0), some (.istore_n 2, 1, 0), some (.iload_n 1, 1, 0), some (.iconst 2, 1, 0), some (.if_icmp .ge 28, 3, 43)],
  [none, none, some (.aload_n 0, 1, 0), some (.iconst 0, 1, 0), some (.iload_n 2, 1, 0), some (.ifCond .eq 7, 3, 28), none, none, some (.iconst 2, 1, 0), some (.goto 4, 3, 29), none, none, some (.iconst 0, 1, 0), some (.iconst 1, 1, 0), some (.iload_n 2, 1, 0), some (.ifCond .eq 7, 3, 38)],
  [none, none, some (.iconst 1, 1, 0), some (.goto 4, 3, 39), none, none, some (.iconst 0, 1, 0), some (.invokevirtual 436, 3, 0), none, none, some (.ireturn, 1, 0), some (.iload_n 2, 1, 0), some (.ifCond .eq 44, 3, 88), none, none, some (.aload_n 0, 1, 0)],
  [some (.iconst 0, 1, 0), some (.iconst 1, 1, 0), some (.iconst 0, 1, 0), some (.iconst 2, 1, 0), some (.invokevirtual 439, 3, 0), none, none, some (.ifCond .eq 29, 3, 84), none, none, some (.aload_n 0, 1, 0), some (.iconst 0, 1, 0), some (.iconst 1, 1, 0), some (.iconst 1, 1, 0), some (.iconst 1, 1, 0), some (.invokevirtual 439, 3, 0)],
  [none, none, some (.ifCond .eq 18, 3, 84), none, none, some (.aload_n 0, 1, 0), some (.iconst 0, 1, 0), some (.iconst 1, 1, 0), some (.iconst 1, 1, 0), some (.iconst 2, 1, 0), some (.invokevirtual 439, 3, 0), none, none, some (.ifCond .eq 7, 3, 84), none, none],
  [some (.iconst 1, 1, 0), some (.goto 15, 3, 96), none, none, some (.iconst 0, 1, 0), some (.goto 11, 3, 96), none, none, some (.aload_n 0, 1, 0), some (.iconst 0, 1, 0), some (.iconst 0, 1, 0), some (.iconst 1, 1, 0), some (.iconst 0, 1, 0), some (.invokevirtual 439, 3, 0), none, none],
  [some (.ireturn, 1, 0)]]
def jm_X12_holds : JM := (jc_X12_holds, 12, 0, 0, 1, 0, yX12_holds, cX12_holds, 3, (some .boolean))
theorem jd_X12_holds : jdOK cX12_holds 0 jc_X12_holds = true := by decide +kernel
def jc_X12_isLess : List (List JR) := [[some (.aload_n 0, 1, 0), some (.getfield 113, 3, 0), none, none, some (.bipush 6, 2, 0), none, some (.iload_n 1, 1, 0), some (.imul, 1, 0), some (.iconst 2, 1, 0), some (.iload_n 2, 1, 0), some (.imul, 1, 0), some (.iadd, 1, 0), some (.iconst 1, 1, 0), some (.iadd, 1, 0), some (.iaload, 1, 0), some (.istore 5, 2, 0)],
  [none, some (.aload_n 0, 1, 0), some (.getfield 113, 3, 0), none, none, some (.bipush 6, 2, 0), none, some (.iload_n 3, 1, 0), some (.imul, 1, 0), some (.iconst 2, 1, 0), some (.iload 4, 2, 0), none, some (.imul, 1, 0), some (.iadd, 1, 0), some (.iconst 1, 1, 0), some (.iadd, 1, 0)],
  [some (.iaload, 1, 0), some (.istore 6, 2, 0), none, some (.iload 5, 2, 0), none, some (.iload 6, 2, 0), none, some (.if_icmp .eq 18, 3, 57), none, none, some (.iload 5, 2, 0), none, some (.iload 6, 2, 0), none, some (.if_icmp .ge 7, 3, 53), none],
  [none, some (.iconst 1, 1, 0), some (.goto 42, 3, 92), none, none, some (.iconst 0, 1, 0), some (.goto 38, 3, 92), none, none, some (.aload_n 0, 1, 0), some (.getfield 113, 3, 0), none, none, some (.bipush 6, 2, 0), none, some (.iload_n 1, 1, 0)],
  [some (.imul, 1, 0), some (.iconst 2, 1, 0), some (.iload_n 2, 1, 0), some (.imul, 1, 0), some (.iadd, 1, 0), some (.iaload, 1, 0), some (.aload_n 0, 1, 0), some (.getfield 113, 3, 0), none, none, some (.bipush 6, 2, 0), none, some (.iload_n 3, 1, 0), some (.imul, 1, 0), some (.iconst 2, 1, 0), some (.iload 4, 2, 0)],
  [none, some (.imul, 1, 0), some (.iadd, 1, 0), some (.iaload, 1, 0), some (.if_icmp .ge 7, 3, 91), none, none, some (.iconst 1, 1, 0), some (.goto 4, 3, 92), none, none, some (.iconst 0, 1, 0), some (.ireturn, 1, 0)]]
def jm_X12_isLess : JM := (jc_X12_isLess, 12, 0, 0, 4, 0, yX12_isLess, cX12_isLess, 7, (some .boolean))
theorem jd_X12_isLess : jdOK cX12_isLess 0 jc_X12_isLess = true := by decide +kernel
def jc_X12_alike : List (List JR) := [[some (.aload_n 0, 1, 0), some (.getfield 113, 3, 0), none, none, some (.bipush 6, 2, 0), none, some (.iload_n 1, 1, 0), some (.imul, 1, 0), some (.iconst 2, 1, 0), some (.iload_n 2, 1, 0), some (.imul, 1, 0), some (.iadd, 1, 0), some (.iaload, 1, 0), some (.aload_n 0, 1, 0), some (.getfield 113, 3, 0), none],
  [none, some (.bipush 6, 2, 0), none, some (.iload_n 3, 1, 0), some (.imul, 1, 0), some (.iconst 2, 1, 0), some (.iload 4, 2, 0), none, some (.imul, 1, 0), some (.iadd, 1, 0), some (.iaload, 1, 0), some (.if_icmp .ne 41, 3, 68), none, none, some (.aload_n 0, 1, 0), some (.getfield 113, 3, 0)],
  [none, none, some (.bipush 6, 2, 0), none, some (.iload_n 1, 1, 0), some (.imul, 1, 0), some (.iconst 2, 1, 0), some (.iload_n 2, 1, 0), some (.imul, 1, 0), some (.iadd, 1, 0), some (.iconst 1, 1, 0), some (.iadd, 1, 0), some (.iaload, 1, 0), some (.aload_n 0, 1, 0), some (.getfield 113, 3, 0), none],
  [none, some (.bipush 6, 2, 0), none, some (.iload_n 3, 1, 0), some (.imul, 1, 0), some (.iconst 2, 1, 0), some (.iload 4, 2, 0), none, some (.imul, 1, 0), some (.iadd, 1, 0), some (.iconst 1, 1, 0), some (.iadd, 1, 0), some (.iaload, 1, 0), some (.if_icmp .ne 7, 3, 68), none, none],
  [some (.iconst 1, 1, 0), some (.goto 4, 3, 69), none, none, some (.iconst 0, 1, 0), some (.ireturn, 1, 0)]]
def jm_X12_alike : JM := (jc_X12_alike, 12, 0, 0, 4, 0, yX12_alike, cX12_alike, 5, (some .boolean))
theorem jd_X12_alike : jdOK cX12_alike 0 jc_X12_alike = true := by decide +kernel
def jc_X11_broke : List (List JR) := [[some (.aload_n 0, 1, 0), some (.getfield 57, 3, 0), none, none, some (.getfield 209, 3, 0), none, none, some (.ireturn, 1, 0)]]
def jm_X11_broke : JM := (jc_X11_broke, 11, 0, 0, 0, 0, yX11_broke, cX11_broke, 1, (some .int))
theorem jd_X11_broke : jdOK cX11_broke 0 jc_X11_broke = true := by decide +kernel
def jc_X12_broke : List (List JR) := [[some (.aload_n 0, 1, 0), some (.getfield 454, 3, 0), none, none, some (.ireturn, 1, 0)]]
def jm_X12_broke : JM := (jc_X12_broke, 12, 0, 0, 0, 0, yX12_broke, cX12_broke, 1, (some .int))
theorem jd_X12_broke : jdOK cX12_broke 0 jc_X12_broke = true := by decide +kernel
def jc_X11_where : List (List JR) := [[some (.aload_n 0, 1, 0), some (.getfield 57, 3, 0), none, none, some (.getfield 212, 3, 0), none, none, some (.ireturn, 1, 0)]]
def jm_X11_where : JM := (jc_X11_where, 11, 0, 0, 0, 0, yX11_where, cX11_where, 1, (some .int))
theorem jd_X11_where : jdOK cX11_where 0 jc_X11_where = true := by decide +kernel
def jc_X12_where : List (List JR) := [[some (.aload_n 0, 1, 0), some (.getfield 116, 3, 0), none, none, some (.ireturn, 1, 0)]]
def jm_X12_where : JM := (jc_X12_where, 12, 0, 0, 0, 0, yX12_where, cX12_where, 1, (some .int))
theorem jd_X12_where : jdOK cX12_where 0 jc_X12_where = true := by decide +kernel
def jc_X11_moves : List (List JR) := [[some (.aload_n 0, 1, 0), some (.getfield 57, 3, 0), none, none, some (.getfield 215, 3, 0), none, none, some (.ireturn, 1, 0)]]
def jm_X11_moves : JM := (jc_X11_moves, 11, 0, 0, 0, 0, yX11_moves, cX11_moves, 1, (some .int))
theorem jd_X11_moves : jdOK cX11_moves 0 jc_X11_moves = true := by decide +kernel
def jc_X12_moves : List (List JR) := [[some (.aload_n 0, 1, 0), some (.getfield 457, 3, 0), none, none, some (.ireturn, 1, 0)]]
def jm_X12_moves : JM := (jc_X12_moves, 12, 0, 0, 0, 0, yX12_moves, cX12_moves, 1, (some .int))
theorem jd_X12_moves : jdOK cX12_moves 0 jc_X12_moves = true := by decide +kernel
def jc_X11_value : List (List JR) := [[some (.iload_n 1, 1, 0), some (.ifCond .lt 14, 3, 15), none, none, some (.iload_n 1, 1, 0), some (.aload_n 0, 1, 0), some (.getfield 41, 3, 0), none, none, some (.getfield 218, 3, 0), none, none, some (.if_icmp .lt 7, 3, 19), none, none, some (.sipush (-1000), 3, 0)],
  [none, none, some (.ireturn, 1, 0), some (.aload_n 0, 1, 0), some (.getfield 57, 3, 0), none, none, some (.iload_n 1, 1, 0), some (.iload_n 2, 1, 0), some (.invokevirtual 221, 3, 0), none, none, some (.ireturn, 1, 0)]]
def jm_X11_value : JM := (jc_X11_value, 11, 0, 0, 2, 0, yX11_value, cX11_value, 3, (some .int))
theorem jd_X11_value : jdOK cX11_value 0 jc_X11_value = true := by decide +kernel
def jc_X7_keptPart : List (List JR) := [[some (.iload_n 1, 1, 0), some (.ifCond .lt 21, 3, 22), none, none, some (.iload_n 1, 1, 0), some (.aload_n 0, 1, 0), some (.getfield 23, 3, 0), none, none, some (.arraylength, 1, 0), some (.if_icmp .ge 12, 3, 22), none, none, some (.aload_n 0, 1, 0), some (.getfield 23, 3, 0), none],
  [none, some (.iload_n 1, 1, 0), some (.aaload, 1, 0), some (.goto 4, 3, 23), none, none, some (.aconst_null, 1, 0), some (.astore_n 3, 1, 0), some (.aload_n 3, 1, 0), some (.ifnull 18, 3, 43), none, none, some (.aload_n 3, 1, 0), some (.getfield 62, 3, 0), none, none],
  [some (.ifCond .eq 11, 3, 43), none, none, some (.aload_n 3, 1, 0), some (.iload_n 2, 1, 0), some (.invokevirtual 70, 3, 0), none, none, some (.goto 6, 3, 46), none, none, some (.sipush (-1000), 3, 0), none, none, some (.ireturn, 1, 0)]]
def jm_X7_keptPart : JM := (jc_X7_keptPart, 7, 0, 0, 2, 0, yX7_keptPart, cX7_keptPart, 4, (some .int))
theorem jd_X7_keptPart : jdOK cX7_keptPart 0 jc_X7_keptPart = true := by decide +kernel
def jc_X10_partAt : List (List JR) := [[some (.iload_n 1, 1, 0), some (.tableswitch 69 0 5 #[39, 44, 49, 54, 59, 64], 39, 0), none, none, none, none, none, none, none, none, none, none, none, none, none, none],
  [none, none, none, none, none, none, none, none, none, none, none, none, none, none, none, none],
  [none, none, none, none, none, none, none, none, some (.aload_n 0, 1, 0), some (.getfield 15, 3, 0), none, none, some (.ireturn, 1, 0), some (.aload_n 0, 1, 0), some (.getfield 19, 3, 0), none],
  [none, some (.ireturn, 1, 0), some (.aload_n 0, 1, 0), some (.getfield 22, 3, 0), none, none, some (.ireturn, 1, 0), some (.aload_n 0, 1, 0), some (.getfield 25, 3, 0), none, none, some (.ireturn, 1, 0), some (.aload_n 0, 1, 0), some (.getfield 28, 3, 0), none, none],
  [some (.ireturn, 1, 0), some (.aload_n 0, 1, 0), some (.getfield 31, 3, 0), none, none, some (.ireturn, 1, 0), some (.sipush (-1000), 3, 0), none, none, some (.ireturn, 1, 0)]]
def jm_X10_partAt : JM := (jc_X10_partAt, 10, 0, 0, 1, 0, yX10_partAt, cX10_partAt, 2, (some .int))
theorem jd_X10_partAt : jdOK cX10_partAt 0 jc_X10_partAt = true := by decide +kernel
def jc_X12_value : List (List JR) := [[some (.iload_n 1, 1, 0), some (.ifCond .lt 31, 3, 32), none, none, some (.iload_n 1, 1, 0), some (.aload_n 0, 1, 0), some (.getfield 85, 3, 0), none, none, some (.iconst 0, 1, 0), some (.iaload, 1, 0), some (.if_icmp .ge 21, 3, 32), none, none, some (.iload_n 2, 1, 0), some (.ifCond .lt 17, 3, 32)],
  [none, none, some (.iload_n 2, 1, 0), some (.iconst 5, 1, 0), some (.if_icmp .gt 12, 3, 32), none, none, some (.aload_n 0, 1, 0), some (.getfield 101, 3, 0), none, none, some (.iload_n 1, 1, 0), some (.baload, 1, 0), some (.ifCond .ne 9, 3, 38), none, none],
  [some (.sipush (-1000), 3, 0), none, none, some (.goto 14, 3, 49), none, none, some (.aload_n 0, 1, 0), some (.getfield 104, 3, 0), none, none, some (.bipush 6, 2, 0), none, some (.iload_n 1, 1, 0), some (.imul, 1, 0), some (.iload_n 2, 1, 0), some (.iadd, 1, 0)],
  [some (.iaload, 1, 0), some (.ireturn, 1, 0)]]
def jm_X12_value : JM := (jc_X12_value, 12, 0, 0, 2, 0, yX12_value, cX12_value, 3, (some .int))
theorem jd_X12_value : jdOK cX12_value 0 jc_X12_value = true := by decide +kernel
def jc_X11_factor : List (List JR) := [[some (.iload_n 1, 1, 0), some (.iload_n 2, 1, 0), some (.invokestatic 162, 3, 0), none, none, some (.ifCond .eq 16, 3, 21), none, none, some (.aload_n 0, 1, 0), some (.getfield 66, 3, 0), none, none, some (.iload_n 1, 1, 0), some (.iload_n 2, 1, 0), some (.iload_n 3, 1, 0), some (.invokevirtual 224, 3, 0)],
  [none, none, some (.goto 4, 3, 22), none, none, some (.iconst (-1), 1, 0), some (.ireturn, 1, 0)]]
def jm_X11_factor : JM := (jc_X11_factor, 11, 0, 0, 3, 0, yX11_factor, cX11_factor, 4, (some .int))
theorem jd_X11_factor : jdOK cX11_factor 0 jc_X11_factor = true := by decide +kernel
def jc_X4_addFactor : List (List JR) := [[some (.aload_n 0, 1, 0), some (.getfield 49, 3, 0), none, none, some (.bipush 7, 2, 0), none, some (.if_icmp .lt 5, 3, 11), none, none, some (.iconst (-1), 1, 0), some (.ireturn, 1, 0), some (.aload_n 0, 1, 0), some (.getfield 11, 3, 0), none, none, some (.aload_n 0, 1, 0)],
  [some (.getfield 49, 3, 0), none, none, some (.iload_n 1, 1, 0), some (.iastore, 1, 0), some (.aload_n 0, 1, 0), some (.getfield 15, 3, 0), none, none, some (.aload_n 0, 1, 0), some (.getfield 49, 3, 0), none, none, some (.iload_n 2, 1, 0), some (.iastore, 1, 0), some (.aload_n 0, 1, 0)],
  [some (.getfield 18, 3, 0), none, none, some (.aload_n 0, 1, 0), some (.getfield 49, 3, 0), none, none, some (.iload_n 3, 1, 0), some (.bastore, 1, 0), some (.aload_n 0, 1, 0), some (.dup, 1, 0), some (.getfield 49, 3, 0), none, none, some (.iconst 1, 1, 0), some (.iadd, 1, 0)],
  [some (.putfield 49, 3, 0), none, none, some (.aload_n 0, 1, 0), some (.iconst 0, 1, 0), some (.putfield 53, 3, 0), none, none, some (.aload_n 0, 1, 0), some (.getfield 49, 3, 0), none, none, some (.iconst 1, 1, 0), some (.isub, 1, 0), some (.ireturn, 1, 0)]]
def jm_X4_addFactor : JM := (jc_X4_addFactor, 4, 0, 0, 3, 0, yX4_addFactor, cX4_addFactor, 4, (some .int))
theorem jd_X4_addFactor : jdOK cX4_addFactor 0 jc_X4_addFactor = true := by decide +kernel
def jc_X12_factor : List (List JR) := [[some (.aload_n 0, 1, 0), some (.getfield 460, 3, 0), none, none, some (.bipush 7, 2, 0), none, some (.if_icmp .eq 11, 3, 17), none, none, some (.iload_n 1, 1, 0), some (.iload_n 2, 1, 0), some (.invokestatic 238, 3, 0), none, none, some (.ifCond .ne 5, 3, 19), none],
  [none, some (.iconst (-1), 1, 0), some (.ireturn, 1, 0), some (.aload_n 0, 1, 0), some (.getfield 122, 3, 0), none, none, some (.aload_n 0, 1, 0), some (.getfield 460, 3, 0), none, none, some (.iload_n 1, 1, 0), some (.iastore, 1, 0), some (.aload_n 0, 1, 0), some (.getfield 125, 3, 0), none],
  [none, some (.aload_n 0, 1, 0), some (.getfield 460, 3, 0), none, none, some (.iload_n 2, 1, 0), some (.iastore, 1, 0), some (.aload_n 0, 1, 0), some (.getfield 128, 3, 0), none, none, some (.aload_n 0, 1, 0), some (.getfield 460, 3, 0), none, none, some (.iload_n 3, 1, 0)],
  [some (.bastore, 1, 0), some (.aload_n 0, 1, 0), some (.dup, 1, 0), some (.getfield 460, 3, 0), none, none, some (.iconst 1, 1, 0), some (.iadd, 1, 0), some (.putfield 460, 3, 0), none, none, some (.aload_n 0, 1, 0), some (.getfield 460, 3, 0), none, none, some (.iconst 1, 1, 0)],
  [some (.isub, 1, 0), some (.ireturn, 1, 0)]]
def jm_X12_factor : JM := (jc_X12_factor, 12, 0, 0, 3, 0, yX12_factor, cX12_factor, 4, (some .int))
theorem jd_X12_factor : jdOK cX12_factor 0 jc_X12_factor = true := by decide +kernel
def jc_X11_clear : List (List JR) := [[some (.aload_n 0, 1, 0), some (.getfield 66, 3, 0), none, none, some (.invokevirtual 228, 3, 0), none, none, some (.ireturn, 1, 0)]]
def jm_X11_clear : JM := (jc_X11_clear, 11, 0, 0, 0, 0, yX11_clear, cX11_clear, 1, (some .int))
theorem jd_X11_clear : jdOK cX11_clear 0 jc_X11_clear = true := by decide +kernel
def jc_X4_removeAll : List (List JR) := [[some (.aload_n 0, 1, 0), some (.getfield 49, 3, 0), none, none, some (.istore_n 1, 1, 0), some (.aload_n 0, 1, 0), some (.iconst 0, 1, 0), some (.putfield 49, 3, 0), none, none, some (.aload_n 0, 1, 0), some (.iconst 0, 1, 0), some (.putfield 53, 3, 0), none, none, some (.iload_n 1, 1, 0)],
  [some (.ireturn, 1, 0)]]
def jm_X4_removeAll : JM := (jc_X4_removeAll, 4, 0, 0, 0, 0, yX4_removeAll, cX4_removeAll, 2, (some .int))
theorem jd_X4_removeAll : jdOK cX4_removeAll 0 jc_X4_removeAll = true := by decide +kernel
def jc_X12_clear : List (List JR) := [[some (.aload_n 0, 1, 0), some (.getfield 460, 3, 0), none, none, some (.istore_n 1, 1, 0), some (.aload_n 0, 1, 0), some (.iconst 0, 1, 0), some (.putfield 460, 3, 0), none, none, some (.iload_n 1, 1, 0), some (.ireturn, 1, 0)]]
def jm_X12_clear : JM := (jc_X12_clear, 12, 0, 0, 0, 0, yX12_clear, cX12_clear, 2, (some .int))
theorem jd_X12_clear : jdOK cX12_clear 0 jc_X12_clear = true := by decide +kernel
def jc_X11_fewest : List (List JR) := [[some (.aload_n 0, 1, 0), some (.getfield 66, 3, 0), none, none, some (.getfield 232, 3, 0), none, none, some (.ifCond .ne 7, 3, 14), none, none, some (.sipush (-1000), 3, 0), none, none, some (.ireturn, 1, 0), some (.aload_n 0, 1, 0), some (.getfield 66, 3, 0)],
  [none, none, some (.invokevirtual 235, 3, 0), none, none, some (.iload_n 1, 1, 0), some (.tableswitch 50 0 2 #[26, 34, 42], 26, 0), none, none, none, none, none, none, none, none, none],
  [none, none, none, none, none, none, none, none, none, none, none, none, none, none, none, none],
  [some (.aload_n 0, 1, 0), some (.getfield 66, 3, 0), none, none, some (.getfield 238, 3, 0), none, none, some (.ireturn, 1, 0), some (.aload_n 0, 1, 0), some (.getfield 66, 3, 0), none, none, some (.getfield 241, 3, 0), none, none, some (.ireturn, 1, 0)],
  [some (.aload_n 0, 1, 0), some (.getfield 66, 3, 0), none, none, some (.getfield 244, 3, 0), none, none, some (.ireturn, 1, 0), some (.sipush (-1000), 3, 0), none, none, some (.ireturn, 1, 0)]]
def jm_X11_fewest : JM := (jc_X11_fewest, 11, 0, 0, 1, 0, yX11_fewest, cX11_fewest, 2, (some .int))
theorem jd_X11_fewest : jdOK cX11_fewest 0 jc_X11_fewest = true := by decide +kernel
def jc_X4_settle : List (List JR) := [[some (.aload_n 0, 1, 0), some (.getfield 53, 3, 0), none, none, some (.ifCond .eq 4, 3, 8), none, none, some (.return_, 1, 0), some (.aload_n 0, 1, 0), some (.iconst 1, 1, 0), some (.putfield 53, 3, 0), none, none, some (.aload_n 0, 1, 0), some (.sipush 1000, 3, 0), none],
  [none, some (.putfield 60, 3, 0), none, none, some (.aload_n 0, 1, 0), some (.sipush 1000, 3, 0), none, none, some (.putfield 63, 3, 0), none, none, some (.iconst 0, 1, 0), some (.istore_n 1, 1, 0), some (.iload_n 1, 1, 0), some (.aload_n 0, 1, 0), some (.getfield 49, 3, 0)],
  [none, none, some (.if_icmp .ge 16, 3, 50), none, none, some (.aload_n 0, 1, 0), some (.getfield 43, 3, 0), none, none, some (.iload_n 1, 1, 0), some (.iload_n 1, 1, 0), some (.iastore, 1, 0), some (.iinc 1 1, 3, 47), none, none, some (.goto (-18), 3, 29)],
  [none, none, some (.aload_n 0, 1, 0), some (.invokevirtual 66, 3, 0), none, none, some (.istore_n 1, 1, 0), some (.iconst 1, 1, 0), some (.istore_n 2, 1, 0), some (.iconst 0, 1, 0), some (.istore_n 3, 1, 0), some (.iload_n 3, 1, 0), some (.sipush 5040, 3, 0), none, none, some (.if_icmp .ge 41, 3, 104)],
  [none, none, some (.iload_n 2, 1, 0), some (.ifCond .eq 37, 3, 104), none, none, some (.iload_n 1, 1, 0), some (.ifCond .eq 17, 3, 88), none, none, some (.aload_n 0, 1, 0), some (.getfield 18, 3, 0), none, none, some (.aload_n 0, 1, 0), some (.getfield 43, 3, 0)],
  [none, none, some (.iconst 0, 1, 0), some (.iaload, 1, 0), some (.baload, 1, 0), some (.ifCond .ne 8, 3, 93), none, none, some (.aload_n 0, 1, 0), some (.iload_n 1, 1, 0), some (.invokevirtual 70, 3, 0), none, none, some (.aload_n 0, 1, 0), some (.invokevirtual 74, 3, 0), none],
  [none, some (.istore_n 2, 1, 0), some (.iinc 3 1, 3, 101), none, none, some (.goto (-42), 3, 59), none, none, some (.return_, 1, 0)]]
def jm_X4_settle : JM := (jc_X4_settle, 4, 0, 0, 0, 0, yX4_settle, cX4_settle, 4, none)
theorem jd_X4_settle : jdOK cX4_settle 0 jc_X4_settle = true := by decide +kernel
def jc_X4_hasTimes : List (List JR) := [[some (.iconst 0, 1, 0), some (.istore_n 1, 1, 0), some (.iload_n 1, 1, 0), some (.aload_n 0, 1, 0), some (.getfield 49, 3, 0), none, none, some (.if_icmp .ge 20, 3, 27), none, none, some (.aload_n 0, 1, 0), some (.getfield 18, 3, 0), none, none, some (.iload_n 1, 1, 0), some (.baload, 1, 0)],
  [some (.ifCond .ne 5, 3, 21), none, none, some (.iconst 1, 1, 0), some (.ireturn, 1, 0), some (.iinc 1 1, 3, 24), none, none, some (.goto (-22), 3, 2), none, none, some (.iconst 0, 1, 0), some (.ireturn, 1, 0)]]
def jm_X4_hasTimes : JM := (jc_X4_hasTimes, 4, 0, 0, 0, 0, yX4_hasTimes, cX4_hasTimes, 2, (some .boolean))
theorem jd_X4_hasTimes : jdOK cX4_hasTimes 0 jc_X4_hasTimes = true := by decide +kernel
def jc_X4_tryOrder : List (List JR) := [[some (.aload_n 0, 1, 0), some (.getfield 27, 3, 0), none, none, some (.iconst 0, 1, 0), some (.iconst 0, 1, 0), some (.iconst 0, 1, 0), some (.iconst 0, 1, 0), some (.invokevirtual 77, 3, 0), none, none, some (.aload_n 0, 1, 0), some (.getfield 27, 3, 0), none, none, some (.invokevirtual 81, 3, 0)],
  [none, none, some (.iconst 0, 1, 0), some (.istore_n 2, 1, 0), some (.iconst 0, 1, 0), some (.istore_n 3, 1, 0), some (.iload_n 3, 1, 0), some (.aload_n 0, 1, 0), some (.getfield 49, 3, 0), none, none, some (.if_icmp .ge 131, 3, 158), none, none, some (.aload_n 0, 1, 0), some (.getfield 43, 3, 0)],
  [none, none, some (.iload_n 3, 1, 0), some (.iaload, 1, 0), some (.istore 4, 2, 0), none, some (.iload_n 3, 1, 0), some (.ifCond .ne 37, 3, 76), none, none, some (.iload_n 1, 1, 0), some (.ifCond .eq 33, 3, 76), none, none, some (.aload_n 0, 1, 0), some (.getfield 27, 3, 0)],
  [none, none, some (.aload_n 0, 1, 0), some (.getfield 36, 3, 0), none, none, some (.aload_n 0, 1, 0), some (.getfield 11, 3, 0), none, none, some (.iload 4, 2, 0), none, some (.iaload, 1, 0), some (.aload_n 0, 1, 0), some (.getfield 15, 3, 0), none],
  [none, some (.iload 4, 2, 0), none, some (.iaload, 1, 0), some (.iconst 0, 1, 0), some (.invokevirtual 84, 3, 0), none, none, some (.pop, 1, 0), some (.goto 71, 3, 144), none, none, some (.aload_n 0, 1, 0), some (.getfield 18, 3, 0), none, none],
  [some (.iload 4, 2, 0), none, some (.baload, 1, 0), some (.ifCond .eq 33, 3, 116), none, none, some (.aload_n 0, 1, 0), some (.getfield 27, 3, 0), none, none, some (.aload_n 0, 1, 0), some (.getfield 40, 3, 0), none, none, some (.aload_n 0, 1, 0), some (.getfield 11, 3, 0)],
  [none, none, some (.iload 4, 2, 0), none, some (.iaload, 1, 0), some (.aload_n 0, 1, 0), some (.getfield 15, 3, 0), none, none, some (.iload 4, 2, 0), none, some (.iaload, 1, 0), some (.iconst 0, 1, 0), some (.invokevirtual 88, 3, 0), none, none],
  [some (.pop, 1, 0), some (.goto 31, 3, 144), none, none, some (.aload_n 0, 1, 0), some (.getfield 27, 3, 0), none, none, some (.aload_n 0, 1, 0), some (.getfield 40, 3, 0), none, none, some (.aload_n 0, 1, 0), some (.getfield 11, 3, 0), none, none],
  [some (.iload 4, 2, 0), none, some (.iaload, 1, 0), some (.aload_n 0, 1, 0), some (.getfield 15, 3, 0), none, none, some (.iload 4, 2, 0), none, some (.iaload, 1, 0), some (.iconst 0, 1, 0), some (.iload_n 2, 1, 0), some (.invokevirtual 91, 3, 0), none, none, some (.pop, 1, 0)],
  [some (.aload_n 0, 1, 0), some (.getfield 18, 3, 0), none, none, some (.iload 4, 2, 0), none, some (.baload, 1, 0), some (.istore_n 2, 1, 0), some (.iinc 3 1, 3, 155), none, none, some (.goto (-133), 3, 22), none, none, some (.aload_n 0, 1, 0), some (.getfield 27, 3, 0)],
  [none, none, some (.getfield 95, 3, 0), none, none, some (.aload_n 0, 1, 0), some (.getfield 60, 3, 0), none, none, some (.if_icmp .lt 31, 3, 200), none, none, some (.aload_n 0, 1, 0), some (.getfield 27, 3, 0), none, none],
  [some (.getfield 95, 3, 0), none, none, some (.aload_n 0, 1, 0), some (.getfield 60, 3, 0), none, none, some (.if_icmp .ne 21, 3, 204), none, none, some (.aload_n 0, 1, 0), some (.getfield 27, 3, 0), none, none, some (.getfield 98, 3, 0), none],
  [none, some (.aload_n 0, 1, 0), some (.getfield 63, 3, 0), none, none, some (.if_icmp .ge 7, 3, 204), none, none, some (.iconst 1, 1, 0), some (.goto 4, 3, 205), none, none, some (.iconst 0, 1, 0), some (.istore_n 3, 1, 0), some (.iload_n 3, 1, 0), some (.ifCond .eq 53, 3, 260)],
  [none, none, some (.aload_n 0, 1, 0), some (.aload_n 0, 1, 0), some (.getfield 27, 3, 0), none, none, some (.getfield 95, 3, 0), none, none, some (.putfield 60, 3, 0), none, none, some (.aload_n 0, 1, 0), some (.aload_n 0, 1, 0), some (.getfield 27, 3, 0)],
  [none, none, some (.getfield 98, 3, 0), none, none, some (.putfield 63, 3, 0), none, none, some (.aload_n 0, 1, 0), some (.aload_n 0, 1, 0), some (.getfield 27, 3, 0), none, none, some (.getfield 101, 3, 0), none, none],
  [some (.putfield 104, 3, 0), none, none, some (.aload_n 0, 1, 0), some (.getfield 43, 3, 0), none, none, some (.iconst 0, 1, 0), some (.aload_n 0, 1, 0), some (.getfield 46, 3, 0), none, none, some (.iconst 0, 1, 0), some (.aload_n 0, 1, 0), some (.getfield 49, 3, 0), none],
  [none, some (.invokestatic 107, 3, 0), none, none, some (.return_, 1, 0)]]
def jm_X4_tryOrder : JM := (jc_X4_tryOrder, 4, 0, 0, 1, 0, yX4_tryOrder, cX4_tryOrder, 5, none)
theorem jd_X4_tryOrder : jdOK cX4_tryOrder 0 jc_X4_tryOrder = true := by decide +kernel
def jc_X4_toNextTrial : List (List JR) := [[some (.aload_n 0, 1, 0), some (.getfield 49, 3, 0), none, none, some (.iconst 2, 1, 0), some (.isub, 1, 0), some (.istore_n 1, 1, 0), some (.iload_n 1, 1, 0), some (.ifCond .lt 26, 3, 34), none, none, some (.aload_n 0, 1, 0), some (.getfield 43, 3, 0), none, none, some (.iload_n 1, 1, 0)],
  [some (.iaload, 1, 0), some (.aload_n 0, 1, 0), some (.getfield 43, 3, 0), none, none, some (.iload_n 1, 1, 0), some (.iconst 1, 1, 0), some (.iadd, 1, 0), some (.iaload, 1, 0), some (.if_icmp .le 9, 3, 34), none, none, some (.iinc 1 (-1), 3, 31), none, none, some (.goto (-24), 3, 7)],
  [none, none, some (.iload_n 1, 1, 0), some (.ifCond .ge 5, 3, 40), none, none, some (.iconst 0, 1, 0), some (.ireturn, 1, 0), some (.aload_n 0, 1, 0), some (.getfield 49, 3, 0), none, none, some (.iconst 1, 1, 0), some (.isub, 1, 0), some (.istore_n 2, 1, 0), some (.iload_n 2, 1, 0)],
  [some (.iload_n 1, 1, 0), some (.if_icmp .le 24, 3, 73), none, none, some (.aload_n 0, 1, 0), some (.getfield 43, 3, 0), none, none, some (.iload_n 2, 1, 0), some (.iaload, 1, 0), some (.aload_n 0, 1, 0), some (.getfield 43, 3, 0), none, none, some (.iload_n 1, 1, 0), some (.iaload, 1, 0)],
  [some (.if_icmp .ge 9, 3, 73), none, none, some (.iinc 2 (-1), 3, 70), none, none, some (.goto (-23), 3, 47), none, none, some (.aload_n 0, 1, 0), some (.iload_n 1, 1, 0), some (.iload_n 2, 1, 0), some (.invokevirtual 113, 3, 0), none, none, some (.aload_n 0, 1, 0)],
  [some (.getfield 49, 3, 0), none, none, some (.iconst 1, 1, 0), some (.isub, 1, 0), some (.istore_n 3, 1, 0), some (.iload_n 1, 1, 0), some (.iconst 1, 1, 0), some (.iadd, 1, 0), some (.istore 4, 2, 0), none, some (.iload 4, 2, 0), none, some (.iload_n 3, 1, 0), some (.if_icmp .ge 19, 3, 113), none],
  [none, some (.aload_n 0, 1, 0), some (.iload 4, 2, 0), none, some (.iload_n 3, 1, 0), some (.invokevirtual 113, 3, 0), none, none, some (.iinc 3 (-1), 3, 107), none, none, some (.iinc 4 1, 3, 110), none, none, some (.goto (-19), 3, 91), none],
  [none, some (.iconst 1, 1, 0), some (.ireturn, 1, 0)]]
def jm_X4_toNextTrial : JM := (jc_X4_toNextTrial, 4, 0, 0, 0, 0, yX4_toNextTrial, cX4_toNextTrial, 5, (some .boolean))
theorem jd_X4_toNextTrial : jdOK cX4_toNextTrial 0 jc_X4_toNextTrial = true := by decide +kernel
def jc_X4_swapTrials : List (List JR) := [[some (.aload_n 0, 1, 0), some (.getfield 43, 3, 0), none, none, some (.iload_n 1, 1, 0), some (.iaload, 1, 0), some (.istore_n 3, 1, 0), some (.aload_n 0, 1, 0), some (.getfield 43, 3, 0), none, none, some (.iload_n 1, 1, 0), some (.aload_n 0, 1, 0), some (.getfield 43, 3, 0), none, none],
  [some (.iload_n 2, 1, 0), some (.iaload, 1, 0), some (.iastore, 1, 0), some (.aload_n 0, 1, 0), some (.getfield 43, 3, 0), none, none, some (.iload_n 2, 1, 0), some (.iload_n 3, 1, 0), some (.iastore, 1, 0), some (.return_, 1, 0)]]
def jm_X4_swapTrials : JM := (jc_X4_swapTrials, 4, 0, 0, 2, 0, yX4_swapTrials, cX4_swapTrials, 4, none)
theorem jd_X4_swapTrials : jdOK cX4_swapTrials 0 jc_X4_swapTrials = true := by decide +kernel
def jc_X12_fewest : List (List JR) := [[some (.aload_n 0, 1, 0), some (.invokevirtual 490, 3, 0), none, none, some (.ifCond .ne 7, 3, 11), none, none, some (.sipush (-1000), 3, 0), none, none, some (.ireturn, 1, 0), some (.iload_n 1, 1, 0), some (.tableswitch 43 0 2 #[28, 33, 38], 28, 0), none, none, none],
  [none, none, none, none, none, none, none, none, none, none, none, none, none, none, none, none],
  [none, none, none, none, none, none, none, none, some (.aload_n 0, 1, 0), some (.getfield 478, 3, 0), none, none, some (.ireturn, 1, 0), some (.aload_n 0, 1, 0), some (.getfield 481, 3, 0), none],
  [none, some (.ireturn, 1, 0), some (.aload_n 0, 1, 0), some (.getfield 484, 3, 0), none, none, some (.ireturn, 1, 0), some (.sipush (-1000), 3, 0), none, none, some (.ireturn, 1, 0)]]
def jm_X12_fewest : JM := (jc_X12_fewest, 12, 0, 0, 1, 0, yX12_fewest, cX12_fewest, 2, (some .int))
theorem jd_X12_fewest : jdOK cX12_fewest 0 jc_X12_fewest = true := by decide +kernel
def jc_X12_ordered : List (List JR) := [[some (.aload_n 0, 1, 0), some (.getfield 460, 3, 0), none, none, some (.ifCond .ne 5, 3, 9), none, none, some (.iconst 0, 1, 0), some (.ireturn, 1, 0), some (.iconst 0, 1, 0), some (.istore_n 1, 1, 0), some (.iconst 0, 1, 0), some (.istore_n 2, 1, 0), some (.iload_n 2, 1, 0), some (.aload_n 0, 1, 0), some (.getfield 460, 3, 0)],
  [none, none, some (.if_icmp .ge 35, 3, 53), none, none, some (.aload_n 0, 1, 0), some (.getfield 131, 3, 0), none, none, some (.iload_n 2, 1, 0), some (.iload_n 2, 1, 0), some (.iastore, 1, 0), some (.iload_n 1, 1, 0), some (.ifCond .ne 12, 3, 41), none, none],
  [some (.aload_n 0, 1, 0), some (.getfield 128, 3, 0), none, none, some (.iload_n 2, 1, 0), some (.baload, 1, 0), some (.ifCond .ne 7, 3, 45), none, none, some (.iconst 1, 1, 0), some (.goto 4, 3, 46), none, none, some (.iconst 0, 1, 0), some (.istore_n 1, 1, 0), some (.iinc 2 1, 3, 50)],
  [none, none, some (.goto (-37), 3, 13), none, none, some (.iconst 0, 1, 0), some (.istore_n 2, 1, 0), some (.iconst 1, 1, 0), some (.istore_n 3, 1, 0), some (.iload_n 3, 1, 0), some (.ifCond .eq 140, 3, 198), none, none, some (.iload_n 1, 1, 0), some (.ifCond .eq 17, 3, 79), none],
  [none, some (.aload_n 0, 1, 0), some (.getfield 128, 3, 0), none, none, some (.aload_n 0, 1, 0), some (.getfield 131, 3, 0), none, none, some (.iconst 0, 1, 0), some (.iaload, 1, 0), some (.baload, 1, 0), some (.ifCond .ne 114, 3, 190), none, none, some (.aload_n 0, 1, 0)],
  [some (.invokevirtual 475, 3, 0), none, none, some (.iload_n 2, 1, 0), some (.ifCond .eq 36, 3, 120), none, none, some (.aload_n 0, 1, 0), some (.getfield 463, 3, 0), none, none, some (.aload_n 0, 1, 0), some (.getfield 478, 3, 0), none, none, some (.if_icmp .lt 25, 3, 120)],
  [none, none, some (.aload_n 0, 1, 0), some (.getfield 463, 3, 0), none, none, some (.aload_n 0, 1, 0), some (.getfield 478, 3, 0), none, none, some (.if_icmp .ne 18, 3, 124), none, none, some (.aload_n 0, 1, 0), some (.getfield 466, 3, 0), none],
  [none, some (.aload_n 0, 1, 0), some (.getfield 481, 3, 0), none, none, some (.if_icmp .ge 7, 3, 124), none, none, some (.iconst 1, 1, 0), some (.goto 4, 3, 125), none, none, some (.iconst 0, 1, 0), some (.istore 4, 2, 0), none, some (.iload 4, 2, 0)],
  [none, some (.ifCond .eq 61, 3, 190), none, none, some (.iconst 1, 1, 0), some (.istore_n 2, 1, 0), some (.aload_n 0, 1, 0), some (.aload_n 0, 1, 0), some (.getfield 463, 3, 0), none, none, some (.putfield 478, 3, 0), none, none, some (.aload_n 0, 1, 0), some (.aload_n 0, 1, 0)],
  [some (.getfield 466, 3, 0), none, none, some (.putfield 481, 3, 0), none, none, some (.aload_n 0, 1, 0), some (.aload_n 0, 1, 0), some (.getfield 469, 3, 0), none, none, some (.putfield 484, 3, 0), none, none, some (.iconst 0, 1, 0), some (.istore 5, 2, 0)],
  [none, some (.iload 5, 2, 0), none, some (.aload_n 0, 1, 0), some (.getfield 460, 3, 0), none, none, some (.if_icmp .ge 23, 3, 190), none, none, some (.aload_n 0, 1, 0), some (.getfield 134, 3, 0), none, none, some (.iload 5, 2, 0), none],
  [some (.aload_n 0, 1, 0), some (.getfield 131, 3, 0), none, none, some (.iload 5, 2, 0), none, some (.iaload, 1, 0), some (.iastore, 1, 0), some (.iinc 5 1, 3, 187), none, none, some (.goto (-26), 3, 161), none, none, some (.aload_n 0, 1, 0), some (.invokevirtual 487, 3, 0)],
  [none, none, some (.istore_n 3, 1, 0), some (.goto (-138), 3, 57), none, none, some (.iconst 1, 1, 0), some (.ireturn, 1, 0)]]
def jm_X12_ordered : JM := (jc_X12_ordered, 12, 0, 0, 0, 0, yX12_ordered, cX12_ordered, 6, (some .boolean))
theorem jd_X12_ordered : jdOK cX12_ordered 0 jc_X12_ordered = true := by decide +kernel
def jc_X12_tries_0 : List JR := [some (.iconst 0, 1, 0), some (.istore_n 1, 1, 0), some (.iconst 0, 1, 0), some (.istore_n 2, 1, 0), some (.iconst 0, 1, 0), some (.istore_n 3, 1, 0), some (.aload_n 0, 1, 0), some (.iconst 0, 1, 0), some (.putfield 463, 3, 0), none, none, some (.aload_n 0, 1, 0), some (.iconst 0, 1, 0), some (.putfield 466, 3, 0), none, none]
theorem jd_X12_tries_0 : jdRow cX12_tries 0 jc_X12_tries_0 = true := by decide +kernel
def jc_X12_tries_1 : List JR := [some (.aload_n 0, 1, 0), some (.iconst 0, 1, 0), some (.putfield 469, 3, 0), none, none, some (.aload_n 0, 1, 0), some (.getfield 128, 3, 0), none, none, some (.aload_n 0, 1, 0), some (.getfield 131, 3, 0), none, none, some (.iconst 0, 1, 0), some (.iaload, 1, 0), some (.baload, 1, 0)]
theorem jd_X12_tries_1 : jdRow cX12_tries 16 jc_X12_tries_1 = true := by decide +kernel
def jc_X12_tries_2 : List JR := [some (.ifCond .ne 42, 3, 74), none, none, some (.aload_n 0, 1, 0), some (.getfield 40, 3, 0), none, none, some (.aload_n 0, 1, 0), some (.getfield 122, 3, 0), none, none, some (.aload_n 0, 1, 0), some (.getfield 131, 3, 0), none, none, some (.iconst 0, 1, 0)]
theorem jd_X12_tries_2 : jdRow cX12_tries 32 jc_X12_tries_2 = true := by decide +kernel
def jc_X12_tries_3 : List JR := [some (.iaload, 1, 0), some (.iaload, 1, 0), some (.iaload, 1, 0), some (.istore_n 2, 1, 0), some (.aload_n 0, 1, 0), some (.aload_n 0, 1, 0), some (.getfield 125, 3, 0), none, none, some (.aload_n 0, 1, 0), some (.getfield 131, 3, 0), none, none, some (.iconst 0, 1, 0), some (.iaload, 1, 0), some (.iaload, 1, 0)]
theorem jd_X12_tries_3 : jdRow cX12_tries 48 jc_X12_tries_3 = true := by decide +kernel
def jc_X12_tries_4 : List JR := [some (.putfield 469, 3, 0), none, none, some (.aload_n 0, 1, 0), some (.iconst 1, 1, 0), some (.putfield 466, 3, 0), none, none, some (.iconst 1, 1, 0), some (.istore_n 3, 1, 0), some (.iload_n 3, 1, 0), some (.istore 4, 2, 0), none, some (.iload 4, 2, 0), none, some (.aload_n 0, 1, 0)]
theorem jd_X12_tries_4 : jdRow cX12_tries 64 jc_X12_tries_4 = true := by decide +kernel
def jc_X12_tries_5 : List JR := [some (.getfield 460, 3, 0), none, none, some (.if_icmp .ge 258, 3, 341), none, none, some (.aload_n 0, 1, 0), some (.getfield 131, 3, 0), none, none, some (.iload 4, 2, 0), none, some (.iaload, 1, 0), some (.istore 5, 2, 0), none, some (.aload_n 0, 1, 0)]
theorem jd_X12_tries_5 : jdRow cX12_tries 80 jc_X12_tries_5 = true := by decide +kernel
def jc_X12_tries_6 : List JR := [some (.getfield 40, 3, 0), none, none, some (.aload_n 0, 1, 0), some (.getfield 122, 3, 0), none, none, some (.iload 5, 2, 0), none, some (.iaload, 1, 0), some (.iaload, 1, 0), some (.istore 6, 2, 0), none, some (.aload_n 0, 1, 0), some (.getfield 128, 3, 0), none]
theorem jd_X12_tries_6 : jdRow cX12_tries 96 jc_X12_tries_6 = true := by decide +kernel
def jc_X12_tries_7 : List JR := [none, some (.iload 5, 2, 0), none, some (.baload, 1, 0), some (.ifCond .eq 61, 3, 177), none, none, some (.iload_n 2, 1, 0), some (.iload 6, 2, 0), none, some (.isub, 1, 0), some (.istore_n 1, 1, 0), some (.aload_n 0, 1, 0), some (.dup, 1, 0), some (.getfield 469, 3, 0), none]
theorem jd_X12_tries_7 : jdRow cX12_tries 112 jc_X12_tries_7 = true := by decide +kernel
def jc_X12_tries_8 : List JR := [none, some (.aload_n 0, 1, 0), some (.getfield 125, 3, 0), none, none, some (.iload 5, 2, 0), none, some (.iaload, 1, 0), some (.iload_n 1, 1, 0), some (.ifCond .ge 7, 3, 144), none, none, some (.iconst 1, 1, 0), some (.goto 4, 3, 145), none, none]
theorem jd_X12_tries_8 : jdRow cX12_tries 128 jc_X12_tries_8 = true := by decide +kernel
def jc_X12_tries_9 : List JR := [some (.iconst 0, 1, 0), some (.iadd, 1, 0), some (.isub, 1, 0), some (.putfield 469, 3, 0), none, none, some (.iload_n 1, 1, 0), some (.ifCond .ge 11, 3, 162), none, none, some (.iload_n 1, 1, 0), some (.sipush 4096, 3, 0), none, none, some (.iadd, 1, 0), some (.goto 4, 3, 163)]
theorem jd_X12_tries_9 : jdRow cX12_tries 144 jc_X12_tries_9 = true := by decide +kernel
def jc_X12_tries_10 : List JR := [none, none, some (.iload_n 1, 1, 0), some (.istore_n 2, 1, 0), some (.aload_n 0, 1, 0), some (.dup, 1, 0), some (.getfield 463, 3, 0), none, none, some (.iconst 1, 1, 0), some (.iadd, 1, 0), some (.putfield 463, 3, 0), none, none, some (.goto 151, 3, 325), none]
theorem jd_X12_tries_10 : jdRow cX12_tries 160 jc_X12_tries_10 = true := by decide +kernel
def jc_X12_tries_11 : List JR := [none, some (.iload 4, 2, 0), none, some (.ifCond .le 41, 3, 220), none, none, some (.aload_n 0, 1, 0), some (.getfield 128, 3, 0), none, none, some (.aload_n 0, 1, 0), some (.getfield 131, 3, 0), none, none, some (.iload 4, 2, 0), none]
theorem jd_X12_tries_11 : jdRow cX12_tries 176 jc_X12_tries_11 = true := by decide +kernel
def jc_X12_tries_12 : List JR := [some (.iconst 1, 1, 0), some (.isub, 1, 0), some (.iaload, 1, 0), some (.baload, 1, 0), some (.ifCond .eq 24, 3, 220), none, none, some (.aload_n 0, 1, 0), some (.dup, 1, 0), some (.getfield 469, 3, 0), none, none, some (.iload_n 1, 1, 0), some (.ifCond .ge 7, 3, 212), none, none]
theorem jd_X12_tries_12 : jdRow cX12_tries 192 jc_X12_tries_12 = true := by decide +kernel
def jc_X12_tries_13 : List JR := [some (.iconst 1, 1, 0), some (.goto 4, 3, 213), none, none, some (.iconst 0, 1, 0), some (.iadd, 1, 0), some (.putfield 469, 3, 0), none, none, some (.goto 15, 3, 232), none, none, some (.iload_n 2, 1, 0), some (.istore_n 1, 1, 0), some (.aload_n 0, 1, 0), some (.dup, 1, 0)]
theorem jd_X12_tries_13 : jdRow cX12_tries 208 jc_X12_tries_13 = true := by decide +kernel
def jc_X12_tries_14 : List JR := [some (.getfield 463, 3, 0), none, none, some (.iconst 1, 1, 0), some (.iadd, 1, 0), some (.putfield 463, 3, 0), none, none, some (.iload_n 1, 1, 0), some (.iload 6, 2, 0), none, some (.iadd, 1, 0), some (.sipush 4096, 3, 0), none, none, some (.if_icmp .le 32, 3, 271)]
theorem jd_X12_tries_14 : jdRow cX12_tries 224 jc_X12_tries_14 = true := by decide +kernel
def jc_X12_tries_15 : List JR := [none, none, some (.iinc 1 (-4096), 6, 248), none, none, none, none, none, some (.aload_n 0, 1, 0), some (.dup, 1, 0), some (.getfield 469, 3, 0), none, none, some (.iconst 1, 1, 0), some (.iadd, 1, 0), some (.putfield 469, 3, 0)]
theorem jd_X12_tries_15 : jdRow cX12_tries 240 jc_X12_tries_15 = true := by decide +kernel
def jc_X12_tries_16 : List JR := [none, none, some (.aload_n 0, 1, 0), some (.dup, 1, 0), some (.getfield 463, 3, 0), none, none, some (.iconst 1, 1, 0), some (.iadd, 1, 0), some (.putfield 463, 3, 0), none, none, some (.goto 36, 3, 304), none, none, some (.iload_n 1, 1, 0)]
theorem jd_X12_tries_16 : jdRow cX12_tries 256 jc_X12_tries_16 = true := by decide +kernel
def jc_X12_tries_17 : List JR := [some (.iload 6, 2, 0), none, some (.iadd, 1, 0), some (.ifCond .ge 29, 3, 304), none, none, some (.iinc 1 4096, 6, 284), none, none, none, none, none, some (.aload_n 0, 1, 0), some (.dup, 1, 0), some (.getfield 469, 3, 0), none]
theorem jd_X12_tries_17 : jdRow cX12_tries 272 jc_X12_tries_17 = true := by decide +kernel
def jc_X12_tries_18 : List JR := [none, some (.iconst 1, 1, 0), some (.isub, 1, 0), some (.putfield 469, 3, 0), none, none, some (.aload_n 0, 1, 0), some (.dup, 1, 0), some (.getfield 463, 3, 0), none, none, some (.iconst 1, 1, 0), some (.iadd, 1, 0), some (.putfield 463, 3, 0), none, none]
theorem jd_X12_tries_18 : jdRow cX12_tries 288 jc_X12_tries_18 = true := by decide +kernel
def jc_X12_tries_19 : List JR := [some (.iload_n 1, 1, 0), some (.iload 6, 2, 0), none, some (.iadd, 1, 0), some (.istore_n 2, 1, 0), some (.aload_n 0, 1, 0), some (.dup, 1, 0), some (.getfield 469, 3, 0), none, none, some (.aload_n 0, 1, 0), some (.getfield 125, 3, 0), none, none, some (.iload 5, 2, 0), none]
theorem jd_X12_tries_19 : jdRow cX12_tries 304 jc_X12_tries_19 = true := by decide +kernel
def jc_X12_tries_20 : List JR := [some (.iaload, 1, 0), some (.iadd, 1, 0), some (.putfield 469, 3, 0), none, none, some (.aload_n 0, 1, 0), some (.dup, 1, 0), some (.getfield 466, 3, 0), none, none, some (.iconst 1, 1, 0), some (.iadd, 1, 0), some (.putfield 466, 3, 0), none, none, some (.iinc 4 1, 3, 338)]
theorem jd_X12_tries_20 : jdRow cX12_tries 320 jc_X12_tries_20 = true := by decide +kernel
def jc_X12_tries_21 : List JR := [none, none, some (.goto (-261), 3, 77), none, none, some (.return_, 1, 0)]
theorem jd_X12_tries_21 : jdRow cX12_tries 336 jc_X12_tries_21 = true := by decide +kernel
def jc_X12_tries : List (List JR) := [jc_X12_tries_0, jc_X12_tries_1, jc_X12_tries_2, jc_X12_tries_3, jc_X12_tries_4, jc_X12_tries_5, jc_X12_tries_6, jc_X12_tries_7, jc_X12_tries_8, jc_X12_tries_9, jc_X12_tries_10, jc_X12_tries_11, jc_X12_tries_12, jc_X12_tries_13, jc_X12_tries_14, jc_X12_tries_15, jc_X12_tries_16, jc_X12_tries_17, jc_X12_tries_18, jc_X12_tries_19, jc_X12_tries_20, jc_X12_tries_21]
def jm_X12_tries : JM := (jc_X12_tries, 12, 0, 0, 0, 0, yX12_tries, cX12_tries, 7, none)
theorem jd_X12_tries : jdOK cX12_tries 0 jc_X12_tries = true := jdcons jd_X12_tries_0 (jdcons jd_X12_tries_1 (jdcons jd_X12_tries_2 (jdcons jd_X12_tries_3 (jdcons jd_X12_tries_4 (jdcons jd_X12_tries_5 (jdcons jd_X12_tries_6 (jdcons jd_X12_tries_7 (jdcons jd_X12_tries_8 (jdcons jd_X12_tries_9 (jdcons jd_X12_tries_10 (jdcons jd_X12_tries_11 (jdcons jd_X12_tries_12 (jdcons jd_X12_tries_13 (jdcons jd_X12_tries_14 (jdcons jd_X12_tries_15 (jdcons jd_X12_tries_16 (jdcons jd_X12_tries_17 (jdcons jd_X12_tries_18 (jdcons jd_X12_tries_19 (jdcons jd_X12_tries_20 (jdcons jd_X12_tries_21 (rfl))))))))))))))))))))))
def jc_X12_turns : List (List JR) := [[some (.aload_n 0, 1, 0), some (.getfield 460, 3, 0), none, none, some (.iconst 2, 1, 0), some (.isub, 1, 0), some (.istore_n 1, 1, 0), some (.iload_n 1, 1, 0), some (.ifCond .lt 26, 3, 34), none, none, some (.aload_n 0, 1, 0), some (.getfield 131, 3, 0), none, none, some (.iload_n 1, 1, 0)],
  [some (.iaload, 1, 0), some (.aload_n 0, 1, 0), some (.getfield 131, 3, 0), none, none, some (.iload_n 1, 1, 0), some (.iconst 1, 1, 0), some (.iadd, 1, 0), some (.iaload, 1, 0), some (.if_icmp .le 9, 3, 34), none, none, some (.iinc 1 (-1), 3, 31), none, none, some (.goto (-24), 3, 7)],
  [none, none, some (.iload_n 1, 1, 0), some (.ifCond .ge 5, 3, 40), none, none, some (.iconst 0, 1, 0), some (.ireturn, 1, 0), some (.aload_n 0, 1, 0), some (.getfield 460, 3, 0), none, none, some (.iconst 1, 1, 0), some (.isub, 1, 0), some (.istore_n 2, 1, 0), some (.aload_n 0, 1, 0)],
  [some (.getfield 131, 3, 0), none, none, some (.iload_n 2, 1, 0), some (.iaload, 1, 0), some (.aload_n 0, 1, 0), some (.getfield 131, 3, 0), none, none, some (.iload_n 1, 1, 0), some (.iaload, 1, 0), some (.if_icmp .ge 9, 3, 68), none, none, some (.iinc 2 (-1), 3, 65), none],
  [none, some (.goto (-18), 3, 47), none, none, some (.aload_n 0, 1, 0), some (.iload_n 1, 1, 0), some (.iload_n 2, 1, 0), some (.invokevirtual 472, 3, 0), none, none, some (.iload_n 1, 1, 0), some (.iconst 1, 1, 0), some (.iadd, 1, 0), some (.istore_n 3, 1, 0), some (.aload_n 0, 1, 0), some (.getfield 460, 3, 0)],
  [none, none, some (.iconst 1, 1, 0), some (.isub, 1, 0), some (.istore 4, 2, 0), none, some (.iload_n 3, 1, 0), some (.iload 4, 2, 0), none, some (.if_icmp .ge 19, 3, 108), none, none, some (.aload_n 0, 1, 0), some (.iload_n 3, 1, 0), some (.iload 4, 2, 0), none],
  [some (.invokevirtual 472, 3, 0), none, none, some (.iinc 3 1, 3, 102), none, none, some (.iinc 4 (-1), 3, 105), none, none, some (.goto (-19), 3, 86), none, none, some (.iconst 1, 1, 0), some (.ireturn, 1, 0)]]
def jm_X12_turns : JM := (jc_X12_turns, 12, 0, 0, 0, 0, yX12_turns, cX12_turns, 5, (some .boolean))
theorem jd_X12_turns : jdOK cX12_turns 0 jc_X12_turns = true := by decide +kernel
def jc_X12_swap : List (List JR) := [[some (.aload_n 0, 1, 0), some (.getfield 131, 3, 0), none, none, some (.iload_n 1, 1, 0), some (.iaload, 1, 0), some (.istore_n 3, 1, 0), some (.aload_n 0, 1, 0), some (.getfield 131, 3, 0), none, none, some (.iload_n 1, 1, 0), some (.aload_n 0, 1, 0), some (.getfield 131, 3, 0), none, none],
  [some (.iload_n 2, 1, 0), some (.iaload, 1, 0), some (.iastore, 1, 0), some (.aload_n 0, 1, 0), some (.getfield 131, 3, 0), none, none, some (.iload_n 2, 1, 0), some (.iload_n 3, 1, 0), some (.iastore, 1, 0), some (.return_, 1, 0)]]
def jm_X12_swap : JM := (jc_X12_swap, 12, 0, 0, 2, 0, yX12_swap, cX12_swap, 4, none)
theorem jd_X12_swap : jdOK cX12_swap 0 jc_X12_swap = true := by decide +kernel
def jc_X11_order : List (List JR) := [[some (.aload_n 0, 1, 0), some (.getfield 66, 3, 0), none, none, some (.iload_n 1, 1, 0), some (.invokevirtual 247, 3, 0), none, none, some (.ireturn, 1, 0)]]
def jm_X11_order : JM := (jc_X11_order, 11, 0, 0, 1, 0, yX11_order, cX11_order, 2, (some .int))
theorem jd_X11_order : jdOK cX11_order 0 jc_X11_order = true := by decide +kernel
def jc_X4_factorInOrder : List (List JR) := [[some (.iload_n 1, 1, 0), some (.ifCond .lt 20, 3, 21), none, none, some (.iload_n 1, 1, 0), some (.aload_n 0, 1, 0), some (.getfield 49, 3, 0), none, none, some (.if_icmp .ge 12, 3, 21), none, none, some (.iload_n 1, 1, 0), some (.aload_n 0, 1, 0), some (.getfield 46, 3, 0), none],
  [none, some (.arraylength, 1, 0), some (.if_icmp .lt 5, 3, 23), none, none, some (.iconst (-1), 1, 0), some (.ireturn, 1, 0), some (.aload_n 0, 1, 0), some (.invokevirtual 57, 3, 0), none, none, some (.aload_n 0, 1, 0), some (.getfield 46, 3, 0), none, none, some (.iload_n 1, 1, 0)],
  [some (.iaload, 1, 0), some (.ireturn, 1, 0)]]
def jm_X4_factorInOrder : JM := (jc_X4_factorInOrder, 4, 0, 0, 1, 0, yX4_factorInOrder, cX4_factorInOrder, 2, (some .int))
theorem jd_X4_factorInOrder : jdOK cX4_factorInOrder 0 jc_X4_factorInOrder = true := by decide +kernel
def jc_X12_order : List (List JR) := [[some (.iload_n 1, 1, 0), some (.ifCond .lt 18, 3, 19), none, none, some (.iload_n 1, 1, 0), some (.aload_n 0, 1, 0), some (.getfield 460, 3, 0), none, none, some (.if_icmp .ge 10, 3, 19), none, none, some (.aload_n 0, 1, 0), some (.invokevirtual 490, 3, 0), none, none],
  [some (.ifCond .ne 5, 3, 21), none, none, some (.iconst (-1), 1, 0), some (.ireturn, 1, 0), some (.aload_n 0, 1, 0), some (.getfield 134, 3, 0), none, none, some (.iload_n 1, 1, 0), some (.iaload, 1, 0), some (.ireturn, 1, 0)]]
def jm_X12_order : JM := (jc_X12_order, 12, 0, 0, 1, 0, yX12_order, cX12_order, 2, (some .int))
theorem jd_X12_order : jdOK cX12_order 0 jc_X12_order = true := by decide +kernel
def jc_X11_step : List (List JR) := [[some (.aload_n 0, 1, 0), some (.iload_n 1, 1, 0), some (.iload_n 2, 1, 0), some (.invokevirtual 122, 3, 0), none, none, some (.astore 6, 2, 0), none, some (.aload 6, 2, 0), none, some (.ifnull 38, 3, 48), none, none, some (.iload_n 3, 1, 0), some (.invokestatic 250, 3, 0), none],
  [none, some (.ifCond .eq 31, 3, 48), none, none, some (.iload 4, 2, 0), none, some (.ifCond .lt 26, 3, 48), none, none, some (.iload 4, 2, 0), none, some (.aload 6, 2, 0), none, some (.getfield 253, 3, 0), none, none],
  [some (.if_icmp .ge 16, 3, 48), none, none, some (.iload 5, 2, 0), none, some (.iconst 1, 1, 0), some (.if_icmp .lt 10, 3, 48), none, none, some (.iload 5, 2, 0), none, some (.bipush 9, 2, 0), none, some (.if_icmp .le 5, 3, 50), none, none],
  [some (.iconst (-1), 1, 0), some (.ireturn, 1, 0), some (.aload 6, 2, 0), none, some (.iload 4, 2, 0), none, some (.iload 5, 2, 0), none, some (.iload_n 3, 1, 0), some (.invokevirtual 256, 3, 0), none, none, some (.ireturn, 1, 0)]]
def jm_X11_step : JM := (jc_X11_step, 11, 0, 0, 5, 0, yX11_step, cX11_step, 7, (some .int))
theorem jd_X11_step : jdOK cX11_step 0 jc_X11_step = true := by decide +kernel
def jc_X11_isGap : List (List JR) := [[some (.iload_n 0, 1, 0), some (.iconst 1, 1, 0), some (.if_icmp .lt 14, 3, 16), none, none, some (.iload_n 0, 1, 0), some (.sipush 300, 3, 0), none, none, some (.if_icmp .gt 7, 3, 16), none, none, some (.iconst 1, 1, 0), some (.goto 4, 3, 17), none, none],
  [some (.iconst 0, 1, 0), some (.ireturn, 1, 0)]]
def jm_X11_isGap : JM := (jc_X11_isGap, 11, 0, 0, 1, 0, yX11_isGap, cX11_isGap, 1, (some .boolean))
theorem jd_X11_isGap : jdOK cX11_isGap 0 jc_X11_isGap = true := by decide +kernel
def jc_X8_partStep : List (List JR) := [[some (.iload_n 1, 1, 0), some (.bipush 100, 2, 0), none, some (.iload_n 2, 1, 0), some (.imul, 1, 0), some (.invokestatic 44, 3, 0), none, none, some (.istore 4, 2, 0), none, some (.iconst 0, 1, 0), some (.istore 5, 2, 0), none, some (.iload 5, 2, 0), none, some (.getstatic 79, 3, 0)],
  [none, none, some (.arraylength, 1, 0), some (.if_icmp .ge 32, 3, 51), none, none, some (.aload_n 0, 1, 0), some (.iload 4, 2, 0), none, some (.getstatic 79, 3, 0), none, none, some (.iload 5, 2, 0), none, some (.iaload, 1, 0), some (.iload_n 3, 1, 0)],
  [some (.invokevirtual 82, 3, 0), none, none, some (.ifCond .eq 10, 3, 45), none, none, some (.getstatic 79, 3, 0), none, none, some (.iload 5, 2, 0), none, some (.iaload, 1, 0), some (.ireturn, 1, 0), some (.iinc 5 1, 3, 48), none, none],
  [some (.goto (-35), 3, 13), none, none, some (.bipush 100, 2, 0), none, some (.ireturn, 1, 0)]]
def jm_X8_partStep : JM := (jc_X8_partStep, 8, 0, 0, 3, 0, yX8_partStep, cX8_partStep, 6, (some .int))
theorem jd_X8_partStep : jdOK cX8_partStep 0 jc_X8_partStep = true := by decide +kernel
def jc_X8_isWideEnough : List (List JR) := [[some (.iload_n 1, 1, 0), some (.istore 4, 2, 0), none, some (.iload 4, 2, 0), none, some (.iload_n 1, 1, 0), some (.bipush 100, 2, 0), none, some (.iadd, 1, 0), some (.if_icmp .ge 36, 3, 45), none, none, some (.aload_n 0, 1, 0), some (.iload 4, 2, 0), none, some (.iload_n 2, 1, 0)],
  [some (.iadd, 1, 0), some (.invokevirtual 86, 3, 0), none, none, some (.aload_n 0, 1, 0), some (.iload 4, 2, 0), none, some (.invokevirtual 86, 3, 0), none, none, some (.isub, 1, 0), some (.invokestatic 67, 3, 0), none, none, some (.iload_n 3, 1, 0), some (.if_icmp .ge 5, 3, 36)],
  [none, none, some (.iconst 0, 1, 0), some (.ireturn, 1, 0), some (.iload 4, 2, 0), none, some (.iload_n 2, 1, 0), some (.iadd, 1, 0), some (.istore 4, 2, 0), none, some (.goto (-39), 3, 3), none, none, some (.iconst 1, 1, 0), some (.ireturn, 1, 0)]]
def jm_X8_isWideEnough : JM := (jc_X8_isWideEnough, 8, 0, 0, 3, 0, yX8_isWideEnough, cX8_isWideEnough, 5, (some .boolean))
theorem jd_X8_isWideEnough : jdOK cX8_isWideEnough 0 jc_X8_isWideEnough = true := by decide +kernel
def jc_X8_truePlace : List (List JR) := [[some (.iload_n 1, 1, 0), some (.ifCond .lt 12, 3, 13), none, none, some (.iload_n 1, 1, 0), some (.aload_n 0, 1, 0), some (.getfield 28, 3, 0), none, none, some (.arraylength, 1, 0), some (.if_icmp .lt 5, 3, 15), none, none, some (.iconst 0, 1, 0), some (.ireturn, 1, 0), some (.aload_n 0, 1, 0)],
  [some (.getfield 19, 3, 0), none, none, some (.ifCond .eq 16, 3, 35), none, none, some (.sipush 4096, 3, 0), none, none, some (.aload_n 0, 1, 0), some (.getfield 28, 3, 0), none, none, some (.iload_n 1, 1, 0), some (.iaload, 1, 0), some (.isub, 1, 0)],
  [some (.goto 9, 3, 41), none, none, some (.aload_n 0, 1, 0), some (.getfield 28, 3, 0), none, none, some (.iload_n 1, 1, 0), some (.iaload, 1, 0), some (.ireturn, 1, 0)]]
def jm_X8_truePlace : JM := (jc_X8_truePlace, 8, 0, 0, 1, 0, yX8_truePlace, cX8_truePlace, 2, (some .int))
theorem jd_X8_truePlace : jdOK cX8_truePlace 0 jc_X8_truePlace = true := by decide +kernel
def jc_X12_step : List (List JR) := [[some (.aload_n 0, 1, 0), some (.iload_n 1, 1, 0), some (.iload_n 2, 1, 0), some (.invokevirtual 198, 3, 0), none, none, some (.ifCond .eq 49, 3, 55), none, none, some (.iload_n 3, 1, 0), some (.iconst 1, 1, 0), some (.if_icmp .lt 44, 3, 55), none, none, some (.iload_n 3, 1, 0), some (.sipush 300, 3, 0)],
  [none, none, some (.if_icmp .gt 37, 3, 55), none, none, some (.iload 4, 2, 0), none, some (.ifCond .lt 32, 3, 55), none, none, some (.iload 4, 2, 0), none, some (.aload_n 0, 1, 0), some (.getfield 25, 3, 0), none, none],
  [some (.bipush 8, 2, 0), none, some (.iload_n 1, 1, 0), some (.imul, 1, 0), some (.iload_n 2, 1, 0), some (.iadd, 1, 0), some (.iaload, 1, 0), some (.if_icmp .ge 16, 3, 55), none, none, some (.iload 5, 2, 0), none, some (.iconst 1, 1, 0), some (.if_icmp .lt 10, 3, 55), none, none],
  [some (.iload 5, 2, 0), none, some (.bipush 9, 2, 0), none, some (.if_icmp .le 5, 3, 57), none, none, some (.iconst (-1), 1, 0), some (.ireturn, 1, 0), some (.aload_n 0, 1, 0), some (.bipush 8, 2, 0), none, some (.iload_n 1, 1, 0), some (.imul, 1, 0), some (.iload_n 2, 1, 0), some (.iadd, 1, 0)],
  [some (.iload_n 3, 1, 0), some (.iload 4, 2, 0), none, some (.iload 5, 2, 0), none, some (.invokevirtual 500, 3, 0), none, none, some (.ireturn, 1, 0)]]
def jm_X12_step : JM := (jc_X12_step, 12, 0, 0, 5, 0, yX12_step, cX12_step, 6, (some .int))
theorem jd_X12_step : jdOK cX12_step 0 jc_X12_step = true := by decide +kernel
def jc_X12_divided : List (List JR) := [[some (.iconst 0, 1, 0), some (.istore 5, 2, 0), none, some (.iload 5, 2, 0), none, some (.bipush 7, 2, 0), none, some (.if_icmp .ge 32, 3, 39), none, none, some (.aload_n 0, 1, 0), some (.iload_n 1, 1, 0), some (.iload_n 2, 1, 0), some (.iload_n 3, 1, 0), some (.iload 4, 2, 0), none],
  [some (.iload 5, 2, 0), none, some (.invokestatic 493, 3, 0), none, none, some (.invokevirtual 496, 3, 0), none, none, some (.ifCond .eq 9, 3, 33), none, none, some (.iload 5, 2, 0), none, some (.invokestatic 493, 3, 0), none, none],
  [some (.ireturn, 1, 0), some (.iinc 5 1, 3, 36), none, none, some (.goto (-33), 3, 3), none, none, some (.bipush 100, 2, 0), none, some (.ireturn, 1, 0)]]
def jm_X12_divided : JM := (jc_X12_divided, 12, 0, 0, 4, 0, yX12_divided, cX12_divided, 6, (some .int))
theorem jd_X12_divided : jdOK cX12_divided 0 jc_X12_divided = true := by decide +kernel
def jc_X12_stepOf : List (List JR) := [[some (.iload_n 0, 1, 0), some (.tableswitch 54 0 5 #[39, 41, 43, 45, 48, 51], 39, 0), none, none, none, none, none, none, none, none, none, none, none, none, none, none],
  [none, none, none, none, none, none, none, none, none, none, none, none, none, none, none, none],
  [none, none, none, none, none, none, none, none, some (.iconst 1, 1, 0), some (.ireturn, 1, 0), some (.iconst 2, 1, 0), some (.ireturn, 1, 0), some (.iconst 5, 1, 0), some (.ireturn, 1, 0), some (.bipush 10, 2, 0), none],
  [some (.ireturn, 1, 0), some (.bipush 20, 2, 0), none, some (.ireturn, 1, 0), some (.bipush 50, 2, 0), none, some (.ireturn, 1, 0), some (.bipush 100, 2, 0), none, some (.ireturn, 1, 0)]]
def jm_X12_stepOf : JM := (jc_X12_stepOf, 12, 0, 0, 1, 0, yX12_stepOf, cX12_stepOf, 1, (some .int))
theorem jd_X12_stepOf : jdOK cX12_stepOf 0 jc_X12_stepOf = true := by decide +kernel
def jc_X12_isFar : List (List JR) := [[some (.bipush 100, 2, 0), none, some (.iload 4, 2, 0), none, some (.imul, 1, 0), some (.istore 6, 2, 0), none, some (.iload 6, 2, 0), none, some (.bipush 100, 2, 0), none, some (.iload 4, 2, 0), none, some (.imul, 1, 0), some (.bipush 100, 2, 0), none],
  [some (.iadd, 1, 0), some (.if_icmp .ge 41, 3, 58), none, none, some (.aload_n 0, 1, 0), some (.iload_n 1, 1, 0), some (.iload_n 3, 1, 0), some (.iload 6, 2, 0), none, some (.invokevirtual 202, 3, 0), none, none, some (.aload_n 0, 1, 0), some (.iload_n 1, 1, 0), some (.iload_n 3, 1, 0), some (.iload 6, 2, 0)],
  [none, some (.iload 5, 2, 0), none, some (.iadd, 1, 0), some (.invokevirtual 202, 3, 0), none, none, some (.invokestatic 218, 3, 0), none, none, some (.iload_n 2, 1, 0), some (.if_icmp .ge 5, 3, 48), none, none, some (.iconst 0, 1, 0), some (.ireturn, 1, 0)],
  [some (.iload 6, 2, 0), none, some (.iload 5, 2, 0), none, some (.iadd, 1, 0), some (.istore 6, 2, 0), none, some (.goto (-48), 3, 7), none, none, some (.iconst 1, 1, 0), some (.ireturn, 1, 0)]]
def jm_X12_isFar : JM := (jc_X12_isFar, 12, 0, 0, 5, 0, yX12_isFar, cX12_isFar, 7, (some .boolean))
theorem jd_X12_isFar : jdOK cX12_isFar 0 jc_X12_isFar = true := by decide +kernel
def jc_X11_marks : List (List JR) := [[some (.aload_n 0, 1, 0), some (.iload_n 1, 1, 0), some (.iload_n 2, 1, 0), some (.invokevirtual 122, 3, 0), none, none, some (.astore 4, 2, 0), none, some (.aload 4, 2, 0), none, some (.ifnull 10, 3, 20), none, none, some (.iload_n 3, 1, 0), some (.invokestatic 250, 3, 0), none],
  [none, some (.ifCond .ne 5, 3, 22), none, none, some (.iconst (-1), 1, 0), some (.ireturn, 1, 0), some (.aload 4, 2, 0), none, some (.iload_n 3, 1, 0), some (.invokevirtual 260, 3, 0), none, none, some (.ireturn, 1, 0)]]
def jm_X11_marks : JM := (jc_X11_marks, 11, 0, 0, 3, 0, yX11_marks, cX11_marks, 5, (some .int))
theorem jd_X11_marks : jdOK cX11_marks 0 jc_X11_marks = true := by decide +kernel
def jc_X8_dividedMarks : List (List JR) := [[some (.iconst 1, 1, 0), some (.istore_n 2, 1, 0), some (.iconst 0, 1, 0), some (.istore_n 3, 1, 0), some (.iload_n 3, 1, 0), some (.aload_n 0, 1, 0), some (.getfield 15, 3, 0), none, none, some (.if_icmp .ge 43, 3, 52), none, none, some (.iconst 1, 1, 0), some (.istore 4, 2, 0), none, some (.iload 4, 2, 0)],
  [none, some (.bipush 9, 2, 0), none, some (.if_icmp .gt 27, 3, 46), none, none, some (.iload_n 2, 1, 0), some (.bipush 100, 2, 0), none, some (.iconst 1, 1, 0), some (.aload_n 0, 1, 0), some (.iload_n 3, 1, 0), some (.iload 4, 2, 0), none, some (.iload_n 1, 1, 0), some (.invokevirtual 89, 3, 0)],
  [none, none, some (.invokestatic 47, 3, 0), none, none, some (.idiv, 1, 0), some (.iadd, 1, 0), some (.istore_n 2, 1, 0), some (.iinc 4 1, 3, 43), none, none, some (.goto (-28), 3, 15), none, none, some (.iinc 3 1, 3, 49), none],
  [none, some (.goto (-45), 3, 4), none, none, some (.iload_n 2, 1, 0), some (.ireturn, 1, 0)]]
def jm_X8_dividedMarks : JM := (jc_X8_dividedMarks, 8, 0, 0, 1, 0, yX8_dividedMarks, cX8_dividedMarks, 5, (some .int))
theorem jd_X8_dividedMarks : jdOK cX8_dividedMarks 0 jc_X8_dividedMarks = true := by decide +kernel
def jc_X12_marks : List (List JR) := [[some (.aload_n 0, 1, 0), some (.iload_n 1, 1, 0), some (.iload_n 2, 1, 0), some (.invokevirtual 198, 3, 0), none, none, some (.ifCond .eq 15, 3, 21), none, none, some (.iload_n 3, 1, 0), some (.iconst 1, 1, 0), some (.if_icmp .lt 10, 3, 21), none, none, some (.iload_n 3, 1, 0), some (.sipush 300, 3, 0)],
  [none, none, some (.if_icmp .le 5, 3, 23), none, none, some (.iconst (-1), 1, 0), some (.ireturn, 1, 0), some (.bipush 8, 2, 0), none, some (.iload_n 1, 1, 0), some (.imul, 1, 0), some (.iload_n 2, 1, 0), some (.iadd, 1, 0), some (.istore 4, 2, 0), none, some (.iconst 1, 1, 0)],
  [some (.istore 5, 2, 0), none, some (.iconst 0, 1, 0), some (.istore 6, 2, 0), none, some (.iload 6, 2, 0), none, some (.aload_n 0, 1, 0), some (.getfield 25, 3, 0), none, none, some (.iload 4, 2, 0), none, some (.iaload, 1, 0), some (.if_icmp .ge 44, 3, 90), none],
  [none, some (.iconst 1, 1, 0), some (.istore 7, 2, 0), none, some (.iload 7, 2, 0), none, some (.bipush 10, 2, 0), none, some (.if_icmp .ge 28, 3, 84), none, none, some (.iload 5, 2, 0), none, some (.bipush 100, 2, 0), none, some (.aload_n 0, 1, 0)],
  [some (.iload 4, 2, 0), none, some (.iload_n 3, 1, 0), some (.iload 6, 2, 0), none, some (.iload 7, 2, 0), none, some (.invokevirtual 500, 3, 0), none, none, some (.idiv, 1, 0), some (.iadd, 1, 0), some (.istore 5, 2, 0), none, some (.iinc 7 1, 3, 81), none],
  [none, some (.goto (-29), 3, 52), none, none, some (.iinc 6 1, 3, 87), none, none, some (.goto (-50), 3, 37), none, none, some (.iload 5, 2, 0), none, some (.ireturn, 1, 0)]]
def jm_X12_marks : JM := (jc_X12_marks, 12, 0, 0, 3, 0, yX12_marks, cX12_marks, 8, (some .int))
theorem jd_X12_marks : jdOK cX12_marks 0 jc_X12_marks = true := by decide +kernel
def jc_X11_chart : List (List JR) := [[some (.aload_n 0, 1, 0), some (.getfield 73, 3, 0), none, none, some (.iload_n 1, 1, 0), some (.iload_n 2, 1, 0), some (.iload_n 3, 1, 0), some (.iload 4, 2, 0), none, some (.invokevirtual 263, 3, 0), none, none, some (.ireturn, 1, 0)]]
def jm_X11_chart : JM := (jc_X11_chart, 11, 0, 0, 4, 0, yX11_chart, cX11_chart, 5, (some .boolean))
theorem jd_X11_chart : jdOK cX11_chart 0 jc_X11_chart = true := by decide +kernel
def jc_X1_draw : List (List JR) := [[some (.iload_n 1, 1, 0), some (.iconst 1, 1, 0), some (.if_icmp .lt 46, 3, 48), none, none, some (.iload_n 1, 1, 0), some (.iconst 3, 1, 0), some (.if_icmp .gt 41, 3, 48), none, none, some (.iload_n 2, 1, 0), some (.iconst 1, 1, 0), some (.if_icmp .lt 36, 3, 48), none, none, some (.iload_n 2, 1, 0)],
  [some (.iconst 3, 1, 0), some (.if_icmp .gt 31, 3, 48), none, none, some (.iload_n 3, 1, 0), some (.iconst 1, 1, 0), some (.if_icmp .lt 26, 3, 48), none, none, some (.iload_n 3, 1, 0), some (.bipush 7, 2, 0), none, some (.if_icmp .gt 20, 3, 48), none, none, some (.iload 4, 2, 0)],
  [none, some (.iconst 1, 1, 0), some (.if_icmp .lt 14, 3, 48), none, none, some (.iload 4, 2, 0), none, some (.bipush 9, 2, 0), none, some (.if_icmp .gt 7, 3, 48), none, none, some (.iconst 1, 1, 0), some (.goto 4, 3, 49), none, none],
  [some (.iconst 0, 1, 0), some (.istore 5, 2, 0), none, some (.iload 5, 2, 0), none, some (.ifCond .eq 24, 3, 77), none, none, some (.aload_n 0, 1, 0), some (.iload_n 1, 1, 0), some (.putfield 9, 3, 0), none, none, some (.aload_n 0, 1, 0), some (.iload_n 2, 1, 0), some (.putfield 15, 3, 0)],
  [none, none, some (.aload_n 0, 1, 0), some (.iload_n 3, 1, 0), some (.putfield 18, 3, 0), none, none, some (.aload_n 0, 1, 0), some (.iload 4, 2, 0), none, some (.putfield 21, 3, 0), none, none, some (.iload 5, 2, 0), none, some (.ireturn, 1, 0)]]
def jm_X1_draw : JM := (jc_X1_draw, 1, 0, 0, 4, 0, yX1_draw, cX1_draw, 6, (some .boolean))
theorem jd_X1_draw : jdOK cX1_draw 0 jc_X1_draw = true := by decide +kernel
def jc_X12_chart : List (List JR) := [[some (.iload_n 1, 1, 0), some (.iconst 1, 1, 0), some (.if_icmp .lt 42, 3, 44), none, none, some (.iload_n 1, 1, 0), some (.iconst 3, 1, 0), some (.if_icmp .gt 37, 3, 44), none, none, some (.iload_n 2, 1, 0), some (.iconst 1, 1, 0), some (.if_icmp .lt 32, 3, 44), none, none, some (.iload_n 2, 1, 0)],
  [some (.iconst 3, 1, 0), some (.if_icmp .gt 27, 3, 44), none, none, some (.iload_n 3, 1, 0), some (.iconst 1, 1, 0), some (.if_icmp .lt 22, 3, 44), none, none, some (.iload_n 3, 1, 0), some (.bipush 7, 2, 0), none, some (.if_icmp .gt 16, 3, 44), none, none, some (.iload 4, 2, 0)],
  [none, some (.iconst 1, 1, 0), some (.if_icmp .lt 10, 3, 44), none, none, some (.iload 4, 2, 0), none, some (.bipush 9, 2, 0), none, some (.if_icmp .le 5, 3, 46), none, none, some (.iconst 0, 1, 0), some (.ireturn, 1, 0), some (.aload_n 0, 1, 0), some (.iload_n 1, 1, 0)],
  [some (.putfield 137, 3, 0), none, none, some (.aload_n 0, 1, 0), some (.iload_n 2, 1, 0), some (.putfield 140, 3, 0), none, none, some (.aload_n 0, 1, 0), some (.iload_n 3, 1, 0), some (.putfield 143, 3, 0), none, none, some (.aload_n 0, 1, 0), some (.iload 4, 2, 0), none],
  [some (.putfield 146, 3, 0), none, none, some (.iconst 1, 1, 0), some (.ireturn, 1, 0)]]
def jm_X12_chart : JM := (jc_X12_chart, 12, 0, 0, 4, 0, yX12_chart, cX12_chart, 5, (some .boolean))
theorem jd_X12_chart : jdOK cX12_chart 0 jc_X12_chart = true := by decide +kernel
def jc_X11_thread : List (List JR) := [[some (.iload_n 1, 1, 0), some (.iload_n 2, 1, 0), some (.invokestatic 162, 3, 0), none, none, some (.ifCond .eq 23, 3, 28), none, none, some (.iload_n 3, 1, 0), some (.iload 4, 2, 0), none, some (.invokestatic 162, 3, 0), none, none, some (.ifCond .eq 14, 3, 28), none],
  [none, some (.iload 5, 2, 0), none, some (.ifCond .lt 9, 3, 28), none, none, some (.iload 5, 2, 0), none, some (.iconst 1, 1, 0), some (.if_icmp .le 7, 3, 32), none, none, some (.sipush (-1000), 3, 0), none, none, some (.ireturn, 1, 0)],
  [some (.aload_n 0, 1, 0), some (.getfield 73, 3, 0), none, none, some (.aload_n 0, 1, 0), some (.getfield 10, 3, 0), none, none, some (.iload_n 1, 1, 0), some (.iload_n 2, 1, 0), some (.invokevirtual 267, 3, 0), none, none, some (.aload_n 0, 1, 0), some (.getfield 10, 3, 0), none],
  [none, some (.iload_n 3, 1, 0), some (.iload 4, 2, 0), none, some (.invokevirtual 267, 3, 0), none, none, some (.invokevirtual 270, 3, 0), none, none, some (.istore 6, 2, 0), none, some (.aload_n 0, 1, 0), some (.getfield 10, 3, 0), none, none],
  [some (.iload 6, 2, 0), none, some (.sipush 4096, 3, 0), none, none, some (.invokestatic 273, 3, 0), none, none, some (.invokevirtual 278, 3, 0), none, none, some (.istore 7, 2, 0), none, some (.iload 5, 2, 0), none, some (.ifCond .ne 9, 3, 88)],
  [none, none, some (.iload 7, 2, 0), none, some (.invokestatic 281, 3, 0), none, none, some (.ireturn, 1, 0), some (.iload 6, 2, 0), none, some (.sipush 4096, 3, 0), none, none, some (.invokestatic 284, 3, 0), none, none],
  [some (.iload 7, 2, 0), none, some (.invokestatic 287, 3, 0), none, none, some (.iadd, 1, 0), some (.ireturn, 1, 0)]]
def jm_X11_thread : JM := (jc_X11_thread, 11, 0, 0, 5, 0, yX11_thread, cX11_thread, 8, (some .int))
theorem jd_X11_thread : jdOK cX11_thread 0 jc_X11_thread = true := by decide +kernel
def jc_X1_middleReach : List (List JR) := [[some (.iload_n 1, 1, 0), some (.iconst 1, 1, 0), some (.aload_n 0, 1, 0), some (.getfield 9, 3, 0), none, none, some (.invokestatic 24, 3, 0), none, none, some (.invokestatic 30, 3, 0), none, none, some (.istore_n 3, 1, 0), some (.iload_n 2, 1, 0), some (.iconst 1, 1, 0), some (.aload_n 0, 1, 0)],
  [some (.getfield 15, 3, 0), none, none, some (.invokestatic 24, 3, 0), none, none, some (.invokestatic 30, 3, 0), none, none, some (.istore 4, 2, 0), none, some (.iload_n 3, 1, 0), some (.bipush 8, 2, 0), none, some (.aload_n 0, 1, 0), some (.getfield 18, 3, 0)],
  [none, none, some (.isub, 1, 0), some (.imul, 1, 0), some (.iload 4, 2, 0), none, some (.aload_n 0, 1, 0), some (.getfield 18, 3, 0), none, none, some (.imul, 1, 0), some (.iadd, 1, 0), some (.bipush 8, 2, 0), none, some (.invokestatic 30, 3, 0), none],
  [none, some (.aload_n 0, 1, 0), some (.getfield 21, 3, 0), none, none, some (.imul, 1, 0), some (.ireturn, 1, 0)]]
def jm_X1_middleReach : JM := (jc_X1_middleReach, 1, 0, 0, 2, 0, yX1_middleReach, cX1_middleReach, 5, (some .int))
theorem jd_X1_middleReach : jdOK cX1_middleReach 0 jc_X1_middleReach = true := by decide +kernel
def jc_X3_nearestMark : List (List JR) := [[some (.iconst 0, 1, 0), some (.istore_n 2, 1, 0), some (.iconst 1, 1, 0), some (.istore_n 3, 1, 0), some (.iload_n 3, 1, 0), some (.aload_n 0, 1, 0), some (.getfield 11, 3, 0), none, none, some (.arraylength, 1, 0), some (.if_icmp .ge 36, 3, 46), none, none, some (.aload_n 0, 1, 0), some (.getfield 11, 3, 0), none],
  [none, some (.iload_n 3, 1, 0), some (.iaload, 1, 0), some (.iload_n 1, 1, 0), some (.isub, 1, 0), some (.invokestatic 40, 3, 0), none, none, some (.aload_n 0, 1, 0), some (.getfield 11, 3, 0), none, none, some (.iload_n 2, 1, 0), some (.iaload, 1, 0), some (.iload_n 1, 1, 0), some (.isub, 1, 0)],
  [some (.invokestatic 40, 3, 0), none, none, some (.if_icmp .ge 5, 3, 40), none, none, some (.iload_n 3, 1, 0), some (.istore_n 2, 1, 0), some (.iinc 3 1, 3, 43), none, none, some (.goto (-39), 3, 4), none, none, some (.iload_n 2, 1, 0), some (.ireturn, 1, 0)]]
def jm_X3_nearestMark : JM := (jc_X3_nearestMark, 3, 0, 0, 1, 0, yX3_nearestMark, cX3_nearestMark, 4, (some .int))
theorem jd_X3_nearestMark : jdOK cX3_nearestMark 0 jc_X3_nearestMark = true := by decide +kernel
def jc_X12_thread : List (List JR) := [[some (.iload_n 1, 1, 0), some (.iload_n 2, 1, 0), some (.invokestatic 238, 3, 0), none, none, some (.ifCond .eq 23, 3, 28), none, none, some (.iload_n 3, 1, 0), some (.iload 4, 2, 0), none, some (.invokestatic 238, 3, 0), none, none, some (.ifCond .eq 14, 3, 28), none],
  [none, some (.iload 5, 2, 0), none, some (.ifCond .lt 9, 3, 28), none, none, some (.iload 5, 2, 0), none, some (.iconst 1, 1, 0), some (.if_icmp .le 7, 3, 32), none, none, some (.sipush (-1000), 3, 0), none, none, some (.ireturn, 1, 0)],
  [some (.aload_n 0, 1, 0), some (.iload_n 1, 1, 0), some (.iload_n 2, 1, 0), some (.invokevirtual 383, 3, 0), none, none, some (.aload_n 0, 1, 0), some (.getfield 137, 3, 0), none, none, some (.invokestatic 414, 3, 0), none, none, some (.bipush 8, 2, 0), none, some (.aload_n 0, 1, 0)],
  [some (.getfield 143, 3, 0), none, none, some (.isub, 1, 0), some (.imul, 1, 0), some (.aload_n 0, 1, 0), some (.iload_n 3, 1, 0), some (.iload 4, 2, 0), none, some (.invokevirtual 383, 3, 0), none, none, some (.aload_n 0, 1, 0), some (.getfield 140, 3, 0), none, none],
  [some (.invokestatic 414, 3, 0), none, none, some (.aload_n 0, 1, 0), some (.getfield 143, 3, 0), none, none, some (.imul, 1, 0), some (.iadd, 1, 0), some (.bipush 8, 2, 0), none, some (.invokestatic 414, 3, 0), none, none, some (.istore 6, 2, 0), none],
  [some (.iload 6, 2, 0), none, some (.aload_n 0, 1, 0), some (.getfield 146, 3, 0), none, none, some (.imul, 1, 0), some (.istore 7, 2, 0), none, some (.iload 7, 2, 0), none, some (.sipush 4096, 3, 0), none, none, some (.invokestatic 414, 3, 0), none],
  [none, some (.istore 8, 2, 0), none, some (.sipush 999, 3, 0), none, none, some (.istore 9, 2, 0), none, some (.iload 8, 2, 0), none, some (.iconst 1, 1, 0), some (.isub, 1, 0), some (.istore 10, 2, 0), none, some (.aload_n 0, 1, 0), some (.sipush 999, 3, 0)],
  [none, none, some (.iload 8, 2, 0), none, some (.iconst 1, 1, 0), some (.isub, 1, 0), some (.invokevirtual 383, 3, 0), none, none, some (.iload 7, 2, 0), none, some (.invokestatic 218, 3, 0), none, none, some (.istore 11, 2, 0), none],
  [some (.bipush 100, 2, 0), none, some (.istore 12, 2, 0), none, some (.iload 12, 2, 0), none, some (.sipush 1000, 3, 0), none, none, some (.if_icmp .ge 43, 3, 180), none, none, some (.aload_n 0, 1, 0), some (.iload 12, 2, 0), none, some (.iload 8, 2, 0)],
  [none, some (.invokevirtual 383, 3, 0), none, none, some (.iload 7, 2, 0), none, some (.invokestatic 218, 3, 0), none, none, some (.istore 13, 2, 0), none, some (.iload 13, 2, 0), none, some (.iload 11, 2, 0), none, some (.if_icmp .ge 15, 3, 174)],
  [none, none, some (.iload 13, 2, 0), none, some (.istore 11, 2, 0), none, some (.iload 12, 2, 0), none, some (.istore 9, 2, 0), none, some (.iload 8, 2, 0), none, some (.istore 10, 2, 0), none, some (.iinc 12 1, 3, 177), none],
  [none, some (.goto (-45), 3, 132), none, none, some (.aload_n 0, 1, 0), some (.bipush 100, 2, 0), none, some (.iload 8, 2, 0), none, some (.iconst 1, 1, 0), some (.iadd, 1, 0), some (.invokevirtual 383, 3, 0), none, none, some (.iload 7, 2, 0), none],
  [some (.invokestatic 218, 3, 0), none, none, some (.iload 11, 2, 0), none, some (.if_icmp .ge 13, 3, 210), none, none, some (.bipush 100, 2, 0), none, some (.istore 9, 2, 0), none, some (.iload 8, 2, 0), none, some (.iconst 1, 1, 0), some (.iadd, 1, 0)],
  [some (.istore 10, 2, 0), none, some (.iload 5, 2, 0), none, some (.ifCond .ne 8, 3, 220), none, none, some (.iload 9, 2, 0), none, some (.goto 5, 3, 222), none, none, some (.iload 10, 2, 0), none, some (.ireturn, 1, 0)]]
def jm_X12_thread : JM := (jc_X12_thread, 12, 0, 0, 5, 0, yX12_thread, cX12_thread, 14, (some .int))
theorem jd_X12_thread : jdOK cX12_thread 0 jc_X12_thread = true := by decide +kernel
def jc_X11_design : List (List JR) := [[some (.iload_n 1, 1, 0), some (.iconst 1, 1, 0), some (.if_icmp .lt 18, 3, 20), none, none, some (.iload_n 1, 1, 0), some (.iconst 3, 1, 0), some (.if_icmp .gt 13, 3, 20), none, none, some (.iload_n 2, 1, 0), some (.iconst 1, 1, 0), some (.if_icmp .lt 8, 3, 20), none, none, some (.iload_n 2, 1, 0)],
  [some (.iconst 3, 1, 0), some (.if_icmp .le 5, 3, 22), none, none, some (.iconst (-1), 1, 0), some (.ireturn, 1, 0), some (.iload_n 1, 1, 0), some (.iload_n 2, 1, 0), some (.invokestatic 290, 3, 0), none, none, some (.ireturn, 1, 0)]]
def jm_X11_design : JM := (jc_X11_design, 11, 0, 0, 2, 0, yX11_design, cX11_design, 3, (some .int))
theorem jd_X11_design : jdOK cX11_design 0 jc_X11_design = true := by decide +kernel
def jc_X1_firstFor : List (List JR) := [[some (.iconst 1, 1, 0), some (.istore_n 2, 1, 0), some (.iload_n 2, 1, 0), some (.iconst 3, 1, 0), some (.if_icmp .gt 77, 3, 81), none, none, some (.iconst 1, 1, 0), some (.istore_n 3, 1, 0), some (.iload_n 3, 1, 0), some (.iconst 3, 1, 0), some (.if_icmp .gt 64, 3, 75), none, none, some (.iconst 1, 1, 0), some (.istore 4, 2, 0)],
  [none, some (.iload 4, 2, 0), none, some (.bipush 7, 2, 0), none, some (.if_icmp .gt 48, 3, 69), none, none, some (.iload_n 2, 1, 0), some (.iload_n 0, 1, 0), some (.imul, 1, 0), some (.iload_n 3, 1, 0), some (.iload_n 1, 1, 0), some (.imul, 1, 0), some (.iload 4, 2, 0), none],
  [some (.invokestatic 33, 3, 0), none, none, some (.istore 5, 2, 0), none, some (.iload 5, 2, 0), none, some (.iconst (-1), 1, 0), some (.if_icmp .eq 23, 3, 63), none, none, some (.sipush 1000, 3, 0), none, none, some (.iload_n 2, 1, 0), some (.imul, 1, 0)],
  [some (.bipush 100, 2, 0), none, some (.iload_n 3, 1, 0), some (.imul, 1, 0), some (.iadd, 1, 0), some (.bipush 10, 2, 0), none, some (.iload 4, 2, 0), none, some (.imul, 1, 0), some (.iadd, 1, 0), some (.iload 5, 2, 0), none, some (.iadd, 1, 0), some (.ireturn, 1, 0), some (.iinc 4 1, 3, 66)],
  [none, none, some (.goto (-49), 3, 17), none, none, some (.iinc 3 1, 3, 72), none, none, some (.goto (-63), 3, 9), none, none, some (.iinc 2 1, 3, 78), none, none, some (.goto (-76), 3, 2), none],
  [none, some (.bipush (-2), 2, 0), none, some (.ireturn, 1, 0)]]
def jm_X1_firstFor : JM := (jc_X1_firstFor, 1, 0, 0, 2, 0, yX1_firstFor, cX1_firstFor, 6, (some .int))
theorem jd_X1_firstFor : jdOK cX1_firstFor 0 jc_X1_firstFor = true := by decide +kernel
def jc_X1_middleFor : List (List JR) := [[some (.iconst 1, 1, 0), some (.istore_n 3, 1, 0), some (.iload_n 3, 1, 0), some (.bipush 9, 2, 0), none, some (.if_icmp .gt 34, 3, 39), none, none, some (.iload_n 3, 1, 0), some (.bipush 8, 2, 0), none, some (.iload_n 2, 1, 0), some (.isub, 1, 0), some (.imul, 1, 0), some (.bipush 8, 2, 0), none],
  [some (.iload_n 0, 1, 0), some (.imul, 1, 0), some (.if_icmp .ne 15, 3, 33), none, none, some (.iload_n 3, 1, 0), some (.iload_n 2, 1, 0), some (.imul, 1, 0), some (.bipush 8, 2, 0), none, some (.iload_n 1, 1, 0), some (.imul, 1, 0), some (.if_icmp .ne 5, 3, 33), none, none, some (.iload_n 3, 1, 0)],
  [some (.ireturn, 1, 0), some (.iinc 3 1, 3, 36), none, none, some (.goto (-34), 3, 2), none, none, some (.iconst (-1), 1, 0), some (.ireturn, 1, 0)]]
def jm_X1_middleFor : JM := (jc_X1_middleFor, 1, 0, 0, 3, 0, yX1_middleFor, cX1_middleFor, 4, (some .int))
theorem jd_X1_middleFor : jdOK cX1_middleFor 0 jc_X1_middleFor = true := by decide +kernel
def jc_X12_design : List (List JR) := [[some (.iload_n 1, 1, 0), some (.iconst 1, 1, 0), some (.if_icmp .lt 18, 3, 20), none, none, some (.iload_n 1, 1, 0), some (.iconst 3, 1, 0), some (.if_icmp .gt 13, 3, 20), none, none, some (.iload_n 2, 1, 0), some (.iconst 1, 1, 0), some (.if_icmp .lt 8, 3, 20), none, none, some (.iload_n 2, 1, 0)],
  [some (.iconst 3, 1, 0), some (.if_icmp .le 5, 3, 22), none, none, some (.iconst (-1), 1, 0), some (.ireturn, 1, 0), some (.iconst 1, 1, 0), some (.istore_n 3, 1, 0), some (.iload_n 3, 1, 0), some (.iconst 4, 1, 0), some (.if_icmp .ge 109, 3, 135), none, none, some (.iconst 1, 1, 0), some (.istore 4, 2, 0), none],
  [some (.iload 4, 2, 0), none, some (.iconst 4, 1, 0), some (.if_icmp .ge 94, 3, 129), none, none, some (.iconst 1, 1, 0), some (.istore 5, 2, 0), none, some (.iload 5, 2, 0), none, some (.bipush 8, 2, 0), none, some (.if_icmp .ge 78, 3, 123), none, none],
  [some (.iconst 1, 1, 0), some (.istore 6, 2, 0), none, some (.iload 6, 2, 0), none, some (.bipush 10, 2, 0), none, some (.if_icmp .ge 62, 3, 117), none, none, some (.iload 6, 2, 0), none, some (.bipush 8, 2, 0), none, some (.iload 5, 2, 0), none],
  [some (.isub, 1, 0), some (.imul, 1, 0), some (.bipush 8, 2, 0), none, some (.iload_n 3, 1, 0), some (.imul, 1, 0), some (.iload_n 1, 1, 0), some (.imul, 1, 0), some (.if_icmp .ne 39, 3, 111), none, none, some (.iload 6, 2, 0), none, some (.iload 5, 2, 0), none, some (.imul, 1, 0)],
  [some (.bipush 8, 2, 0), none, some (.iload 4, 2, 0), none, some (.imul, 1, 0), some (.iload_n 2, 1, 0), some (.imul, 1, 0), some (.if_icmp .ne 24, 3, 111), none, none, some (.sipush 1000, 3, 0), none, none, some (.iload_n 3, 1, 0), some (.imul, 1, 0), some (.bipush 100, 2, 0)],
  [none, some (.iload 4, 2, 0), none, some (.imul, 1, 0), some (.iadd, 1, 0), some (.bipush 10, 2, 0), none, some (.iload 5, 2, 0), none, some (.imul, 1, 0), some (.iadd, 1, 0), some (.iload 6, 2, 0), none, some (.iadd, 1, 0), some (.ireturn, 1, 0), some (.iinc 6 1, 3, 114)],
  [none, none, some (.goto (-63), 3, 51), none, none, some (.iinc 5 1, 3, 120), none, none, some (.goto (-79), 3, 41), none, none, some (.iinc 4 1, 3, 126), none, none, some (.goto (-94), 3, 32), none],
  [none, some (.iinc 3 1, 3, 132), none, none, some (.goto (-108), 3, 24), none, none, some (.bipush (-2), 2, 0), none, some (.ireturn, 1, 0)]]
def jm_X12_design : JM := (jc_X12_design, 12, 0, 0, 2, 0, yX12_design, cX12_design, 7, (some .int))
theorem jd_X12_design : jdOK cX12_design 0 jc_X12_design = true := by decide +kernel
def jc_X11_shown : List (List JR) := [[some (.aload_n 0, 1, 0), some (.iload_n 1, 1, 0), some (.iload_n 2, 1, 0), some (.invokevirtual 122, 3, 0), none, none, some (.astore 8, 2, 0), none, some (.aload_n 0, 1, 0), some (.iload_n 1, 1, 0), some (.iload 5, 2, 0), none, some (.invokevirtual 122, 3, 0), none, none, some (.astore 9, 2, 0)],
  [none, some (.aload 8, 2, 0), none, some (.ifnull 37, 3, 56), none, none, some (.aload 9, 2, 0), none, some (.ifnull 32, 3, 56), none, none, some (.iload_n 2, 1, 0), some (.iload 5, 2, 0), none, some (.if_icmp .eq 26, 3, 56), none],
  [none, some (.aload 8, 2, 0), none, some (.iload_n 3, 1, 0), some (.iload 4, 2, 0), none, some (.invokevirtual 138, 3, 0), none, none, some (.ifCond .eq 15, 3, 56), none, none, some (.aload 9, 2, 0), none, some (.iload 6, 2, 0), none],
  [some (.iload 7, 2, 0), none, some (.invokevirtual 138, 3, 0), none, none, some (.ifCond .ne 5, 3, 58), none, none, some (.iconst (-1), 1, 0), some (.ireturn, 1, 0), some (.aload 8, 2, 0), none, some (.iload_n 3, 1, 0), some (.iload 4, 2, 0), none, some (.invokestatic 141, 3, 0)],
  [none, none, some (.invokevirtual 293, 3, 0), none, none, some (.istore 10, 2, 0), none, some (.aload 9, 2, 0), none, some (.iload 6, 2, 0), none, some (.iload 7, 2, 0), none, some (.invokestatic 141, 3, 0), none, none],
  [some (.invokevirtual 293, 3, 0), none, none, some (.istore 11, 2, 0), none, some (.aload_n 0, 1, 0), some (.getfield 80, 3, 0), none, none, some (.iload_n 1, 1, 0), some (.iload 10, 2, 0), none, some (.iload 11, 2, 0), none, some (.isub, 1, 0), some (.iload_n 2, 1, 0)],
  [some (.iload 10, 2, 0), none, some (.invokestatic 296, 3, 0), none, none, some (.iload 5, 2, 0), none, some (.iload 11, 2, 0), none, some (.invokestatic 296, 3, 0), none, none, some (.invokevirtual 299, 3, 0), none, none, some (.ireturn, 1, 0)]]
def jm_X11_shown : JM := (jc_X11_shown, 11, 0, 0, 7, 0, yX11_shown, cX11_shown, 12, (some .int))
theorem jd_X11_shown : jdOK cX11_shown 0 jc_X11_shown = true := by decide +kernel
def jc_X0_slot : List (List JR) := [[some (.iload_n 0, 1, 0), some (.bipush 16, 2, 0), none, some (.imul, 1, 0), some (.iload_n 1, 1, 0), some (.invokestatic 40, 3, 0), none, none, some (.iadd, 1, 0), some (.ireturn, 1, 0)]]
def jm_X0_slot : JM := (jc_X0_slot, 0, 0, 0, 2, 0, yX0_slot, cX0_slot, 2, (some .int))
theorem jd_X0_slot : jdOK cX0_slot 0 jc_X0_slot = true := by decide +kernel
def jc_X8_stretchOf : List (List JR) := [[some (.iload_n 0, 1, 0), some (.bipush 8, 2, 0), none, some (.ishr, 1, 0), some (.bipush 15, 2, 0), none, some (.invokestatic 35, 3, 0), none, none, some (.ireturn, 1, 0)]]
def jm_X8_stretchOf : JM := (jc_X8_stretchOf, 8, 0, 0, 1, 0, yX8_stretchOf, cX8_stretchOf, 1, (some .int))
theorem jd_X8_stretchOf : jdOK cX8_stretchOf 0 jc_X8_stretchOf = true := by decide +kernel
def jc_X0_addShown : List (List JR) := [[some (.aload_n 0, 1, 0), some (.getfield 46, 3, 0), none, none, some (.bipush 80, 2, 0), none, some (.if_icmp .lt 5, 3, 11), none, none, some (.iconst (-1), 1, 0), some (.ireturn, 1, 0), some (.aload_n 0, 1, 0), some (.getfield 11, 3, 0), none, none, some (.aload_n 0, 1, 0)],
  [some (.getfield 46, 3, 0), none, none, some (.iload_n 1, 1, 0), some (.iastore, 1, 0), some (.aload_n 0, 1, 0), some (.getfield 15, 3, 0), none, none, some (.aload_n 0, 1, 0), some (.getfield 46, 3, 0), none, none, some (.iload_n 2, 1, 0), some (.iastore, 1, 0), some (.aload_n 0, 1, 0)],
  [some (.getfield 18, 3, 0), none, none, some (.aload_n 0, 1, 0), some (.getfield 46, 3, 0), none, none, some (.iload_n 3, 1, 0), some (.iastore, 1, 0), some (.aload_n 0, 1, 0), some (.getfield 21, 3, 0), none, none, some (.aload_n 0, 1, 0), some (.getfield 46, 3, 0), none],
  [none, some (.iload 4, 2, 0), none, some (.iastore, 1, 0), some (.aload_n 0, 1, 0), some (.getfield 24, 3, 0), none, none, some (.aload_n 0, 1, 0), some (.getfield 46, 3, 0), none, none, some (.iconst (-1), 1, 0), some (.iastore, 1, 0), some (.aload_n 0, 1, 0), some (.dup, 1, 0)],
  [some (.getfield 46, 3, 0), none, none, some (.iconst 1, 1, 0), some (.iadd, 1, 0), some (.putfield 46, 3, 0), none, none, some (.aload_n 0, 1, 0), some (.getfield 46, 3, 0), none, none, some (.iconst 1, 1, 0), some (.isub, 1, 0), some (.ireturn, 1, 0)]]
def jm_X0_addShown : JM := (jc_X0_addShown, 0, 0, 0, 4, 0, yX0_addShown, cX0_addShown, 5, (some .int))
theorem jd_X0_addShown : jdOK cX0_addShown 0 jc_X0_addShown = true := by decide +kernel
def jc_X12_shown : List (List JR) := [[some (.aload_n 0, 1, 0), some (.getfield 504, 3, 0), none, none, some (.bipush 80, 2, 0), none, some (.if_icmp .eq 62, 3, 68), none, none, some (.aload_n 0, 1, 0), some (.iload_n 1, 1, 0), some (.iload_n 2, 1, 0), some (.invokevirtual 198, 3, 0), none, none, some (.ifCond .eq 53, 3, 68)],
  [none, none, some (.aload_n 0, 1, 0), some (.iload_n 1, 1, 0), some (.iload 5, 2, 0), none, some (.invokevirtual 198, 3, 0), none, none, some (.ifCond .eq 43, 3, 68), none, none, some (.iload_n 2, 1, 0), some (.iload 5, 2, 0), none, some (.if_icmp .eq 37, 3, 68)],
  [none, none, some (.aload_n 0, 1, 0), some (.bipush 8, 2, 0), none, some (.iload_n 1, 1, 0), some (.imul, 1, 0), some (.iload_n 2, 1, 0), some (.iadd, 1, 0), some (.iload_n 3, 1, 0), some (.iload 4, 2, 0), none, some (.invokevirtual 210, 3, 0), none, none, some (.ifCond .eq 21, 3, 68)],
  [none, none, some (.aload_n 0, 1, 0), some (.bipush 8, 2, 0), none, some (.iload_n 1, 1, 0), some (.imul, 1, 0), some (.iload 5, 2, 0), none, some (.iadd, 1, 0), some (.iload 6, 2, 0), none, some (.iload 7, 2, 0), none, some (.invokevirtual 210, 3, 0), none],
  [none, some (.ifCond .ne 5, 3, 70), none, none, some (.iconst (-1), 1, 0), some (.ireturn, 1, 0), some (.aload_n 0, 1, 0), some (.getfield 149, 3, 0), none, none, some (.aload_n 0, 1, 0), some (.getfield 504, 3, 0), none, none, some (.iload_n 1, 1, 0), some (.iastore, 1, 0)],
  [some (.aload_n 0, 1, 0), some (.getfield 152, 3, 0), none, none, some (.aload_n 0, 1, 0), some (.getfield 504, 3, 0), none, none, some (.iload_n 2, 1, 0), some (.iastore, 1, 0), some (.aload_n 0, 1, 0), some (.getfield 155, 3, 0), none, none, some (.aload_n 0, 1, 0), some (.getfield 504, 3, 0)],
  [none, none, some (.iload_n 3, 1, 0), some (.iastore, 1, 0), some (.aload_n 0, 1, 0), some (.getfield 158, 3, 0), none, none, some (.aload_n 0, 1, 0), some (.getfield 504, 3, 0), none, none, some (.iload 4, 2, 0), none, some (.iastore, 1, 0), some (.aload_n 0, 1, 0)],
  [some (.getfield 161, 3, 0), none, none, some (.aload_n 0, 1, 0), some (.getfield 504, 3, 0), none, none, some (.iload 5, 2, 0), none, some (.iastore, 1, 0), some (.aload_n 0, 1, 0), some (.getfield 164, 3, 0), none, none, some (.aload_n 0, 1, 0), some (.getfield 504, 3, 0)],
  [none, none, some (.iload 6, 2, 0), none, some (.iastore, 1, 0), some (.aload_n 0, 1, 0), some (.getfield 167, 3, 0), none, none, some (.aload_n 0, 1, 0), some (.getfield 504, 3, 0), none, none, some (.iload 7, 2, 0), none, some (.iastore, 1, 0)],
  [some (.aload_n 0, 1, 0), some (.dup, 1, 0), some (.getfield 504, 3, 0), none, none, some (.iconst 1, 1, 0), some (.iadd, 1, 0), some (.putfield 504, 3, 0), none, none, some (.aload_n 0, 1, 0), some (.getfield 504, 3, 0), none, none, some (.iconst 1, 1, 0), some (.isub, 1, 0)],
  [some (.ireturn, 1, 0)]]
def jm_X12_shown : JM := (jc_X12_shown, 12, 0, 0, 7, 0, yX12_shown, cX12_shown, 8, (some .int))
theorem jd_X12_shown : jdOK cX12_shown 0 jc_X12_shown = true := by decide +kernel
def jc_X11_strike : List (List JR) := [[some (.aload_n 0, 1, 0), some (.getfield 80, 3, 0), none, none, some (.iload_n 1, 1, 0), some (.invokevirtual 303, 3, 0), none, none, some (.ireturn, 1, 0)]]
def jm_X11_strike : JM := (jc_X11_strike, 11, 0, 0, 1, 0, yX11_strike, cX11_strike, 2, (some .int))
theorem jd_X11_strike : jdOK cX11_strike 0 jc_X11_strike = true := by decide +kernel
def jc_X0_addStrike : List (List JR) := [[some (.aload_n 0, 1, 0), some (.getfield 46, 3, 0), none, none, some (.bipush 80, 2, 0), none, some (.if_icmp .ge 25, 3, 31), none, none, some (.iload_n 1, 1, 0), some (.ifCond .lt 21, 3, 31), none, none, some (.iload_n 1, 1, 0), some (.aload_n 0, 1, 0), some (.getfield 46, 3, 0)],
  [none, none, some (.if_icmp .ge 13, 3, 31), none, none, some (.aload_n 0, 1, 0), some (.getfield 11, 3, 0), none, none, some (.iload_n 1, 1, 0), some (.iaload, 1, 0), some (.iconst (-1), 1, 0), some (.if_icmp .ne 5, 3, 33), none, none, some (.iconst (-1), 1, 0)],
  [some (.ireturn, 1, 0), some (.aload_n 0, 1, 0), some (.getfield 11, 3, 0), none, none, some (.aload_n 0, 1, 0), some (.getfield 46, 3, 0), none, none, some (.iconst (-1), 1, 0), some (.iastore, 1, 0), some (.aload_n 0, 1, 0), some (.getfield 24, 3, 0), none, none, some (.aload_n 0, 1, 0)],
  [some (.getfield 46, 3, 0), none, none, some (.iload_n 1, 1, 0), some (.iastore, 1, 0), some (.aload_n 0, 1, 0), some (.dup, 1, 0), some (.getfield 46, 3, 0), none, none, some (.iconst 1, 1, 0), some (.iadd, 1, 0), some (.putfield 46, 3, 0), none, none, some (.aload_n 0, 1, 0)],
  [some (.getfield 46, 3, 0), none, none, some (.iconst 1, 1, 0), some (.isub, 1, 0), some (.ireturn, 1, 0)]]
def jm_X0_addStrike : JM := (jc_X0_addStrike, 0, 0, 0, 1, 0, yX0_addStrike, cX0_addStrike, 2, (some .int))
theorem jd_X0_addStrike : jdOK cX0_addStrike 0 jc_X0_addStrike = true := by decide +kernel
def jc_X12_strike : List (List JR) := [[some (.aload_n 0, 1, 0), some (.getfield 504, 3, 0), none, none, some (.bipush 80, 2, 0), none, some (.if_icmp .eq 24, 3, 30), none, none, some (.iload_n 1, 1, 0), some (.ifCond .lt 20, 3, 30), none, none, some (.iload_n 1, 1, 0), some (.aload_n 0, 1, 0), some (.getfield 504, 3, 0)],
  [none, none, some (.if_icmp .ge 12, 3, 30), none, none, some (.aload_n 0, 1, 0), some (.getfield 149, 3, 0), none, none, some (.iload_n 1, 1, 0), some (.iaload, 1, 0), some (.ifCond .ge 5, 3, 32), none, none, some (.iconst (-1), 1, 0), some (.ireturn, 1, 0)],
  [some (.aload_n 0, 1, 0), some (.getfield 149, 3, 0), none, none, some (.aload_n 0, 1, 0), some (.getfield 504, 3, 0), none, none, some (.iconst (-1), 1, 0), some (.iastore, 1, 0), some (.aload_n 0, 1, 0), some (.getfield 152, 3, 0), none, none, some (.aload_n 0, 1, 0), some (.getfield 504, 3, 0)],
  [none, none, some (.iload_n 1, 1, 0), some (.iastore, 1, 0), some (.aload_n 0, 1, 0), some (.dup, 1, 0), some (.getfield 504, 3, 0), none, none, some (.iconst 1, 1, 0), some (.iadd, 1, 0), some (.putfield 504, 3, 0), none, none, some (.aload_n 0, 1, 0), some (.getfield 504, 3, 0)],
  [none, none, some (.iconst 1, 1, 0), some (.isub, 1, 0), some (.ireturn, 1, 0)]]
def jm_X12_strike : JM := (jc_X12_strike, 12, 0, 0, 1, 0, yX12_strike, cX12_strike, 2, (some .int))
theorem jd_X12_strike : jdOK cX12_strike 0 jc_X12_strike = true := by decide +kernel
def jc_X11_guesses : List (List JR) := [[some (.aload_n 0, 1, 0), some (.iload_n 1, 1, 0), some (.iload_n 2, 1, 0), some (.invokevirtual 306, 3, 0), none, none, some (.ifCond .eq 13, 3, 19), none, none, some (.aload_n 0, 1, 0), some (.getfield 80, 3, 0), none, none, some (.invokevirtual 309, 3, 0), none, none],
  [some (.goto 4, 3, 20), none, none, some (.iconst (-1), 1, 0), some (.ireturn, 1, 0)]]
def jm_X11_guesses : JM := (jc_X11_guesses, 11, 0, 0, 2, 0, yX11_guesses, cX11_guesses, 3, (some .int))
theorem jd_X11_guesses : jdOK cX11_guesses 0 jc_X11_guesses = true := by decide +kernel
def jc_X11_weighed : List (List JR) := [[some (.aload_n 0, 1, 0), some (.iload_n 1, 1, 0), some (.invokevirtual 114, 3, 0), none, none, some (.astore_n 3, 1, 0), some (.aload_n 3, 1, 0), some (.ifnull 18, 3, 25), none, none, some (.iload_n 2, 1, 0), some (.ifCond .lt 14, 3, 25), none, none, some (.iload_n 2, 1, 0), some (.aload_n 0, 1, 0)],
  [some (.getfield 80, 3, 0), none, none, some (.getfield 324, 3, 0), none, none, some (.if_icmp .le 5, 3, 27), none, none, some (.iconst 0, 1, 0), some (.ireturn, 1, 0), some (.aload_n 0, 1, 0), some (.getfield 80, 3, 0), none, none, some (.iload_n 1, 1, 0)],
  [some (.iload_n 2, 1, 0), some (.aload_n 3, 1, 0), some (.getfield 329, 3, 0), none, none, some (.aload_n 0, 1, 0), some (.getfield 27, 3, 0), none, none, some (.getfield 132, 3, 0), none, none, some (.aload_n 0, 1, 0), some (.getfield 27, 3, 0), none, none],
  [some (.getfield 135, 3, 0), none, none, some (.iadd, 1, 0), some (.invokevirtual 332, 3, 0), none, none, some (.iconst 1, 1, 0), some (.ireturn, 1, 0)]]
def jm_X11_weighed : JM := (jc_X11_weighed, 11, 0, 0, 2, 0, yX11_weighed, cX11_weighed, 4, (some .boolean))
theorem jd_X11_weighed : jdOK cX11_weighed 0 jc_X11_weighed = true := by decide +kernel
def jc_X0_weigh : List (List JR) := [[some (.aload_n 0, 1, 0), some (.iload_n 1, 1, 0), some (.iload_n 2, 1, 0), some (.invokevirtual 50, 3, 0), none, none, some (.aload_n 0, 1, 0), some (.sipush 5121, 3, 0), none, none, some (.iconst 1, 1, 0), some (.iload_n 3, 1, 0), some (.sipush 640, 3, 0), none, none, some (.imul, 1, 0)],
  [some (.iadd, 1, 0), some (.invokestatic 54, 3, 0), none, none, some (.putfield 60, 3, 0), none, none, some (.iconst 0, 1, 0), some (.istore 5, 2, 0), none, some (.iconst 0, 1, 0), some (.istore 6, 2, 0), none, some (.iconst 0, 1, 0), some (.istore 7, 2, 0), none],
  [some (.iload 7, 2, 0), none, some (.aload_n 0, 1, 0), some (.getfield 27, 3, 0), none, none, some (.arraylength, 1, 0), some (.if_icmp .ge 44, 3, 83), none, none, some (.aload_n 0, 1, 0), some (.getfield 27, 3, 0), none, none, some (.iload 7, 2, 0), none],
  [some (.baload, 1, 0), some (.ifCond .eq 28, 3, 77), none, none, some (.aload_n 0, 1, 0), some (.getfield 15, 3, 0), none, none, some (.iload 7, 2, 0), none, some (.iaload, 1, 0), some (.invokestatic 63, 3, 0), none, none, some (.iload 4, 2, 0), none],
  [some (.if_icmp .le 13, 3, 77), none, none, some (.iinc 5 1, 3, 70), none, none, some (.iload 6, 2, 0), none, some (.iload 7, 2, 0), none, some (.iadd, 1, 0), some (.istore 6, 2, 0), none, some (.iinc 7 1, 3, 80), none, none],
  [some (.goto (-48), 3, 32), none, none, some (.iconst 0, 1, 0), some (.istore 7, 2, 0), none, some (.iload 7, 2, 0), none, some (.aload_n 0, 1, 0), some (.getfield 60, 3, 0), none, none, some (.if_icmp .ge 27, 3, 119), none, none, some (.aload_n 0, 1, 0)],
  [some (.getfield 31, 3, 0), none, none, some (.iload 7, 2, 0), none, some (.iload 5, 2, 0), none, some (.iastore, 1, 0), some (.aload_n 0, 1, 0), some (.getfield 34, 3, 0), none, none, some (.iload 7, 2, 0), none, some (.iload 6, 2, 0), none],
  [some (.iastore, 1, 0), some (.iinc 7 1, 3, 116), none, none, some (.goto (-30), 3, 86), none, none, some (.iconst 0, 1, 0), some (.istore 7, 2, 0), none, some (.iload 7, 2, 0), none, some (.aload_n 0, 1, 0), some (.getfield 27, 3, 0), none, none],
  [some (.arraylength, 1, 0), some (.if_icmp .ge 51, 3, 180), none, none, some (.aload_n 0, 1, 0), some (.getfield 27, 3, 0), none, none, some (.iload 7, 2, 0), none, some (.baload, 1, 0), some (.ifCond .eq 35, 3, 174), none, none, some (.aload_n 0, 1, 0), some (.iload 7, 2, 0)],
  [none, some (.aload_n 0, 1, 0), some (.getfield 18, 3, 0), none, none, some (.iload 7, 2, 0), none, some (.iaload, 1, 0), some (.iconst 1, 1, 0), some (.iload 4, 2, 0), none, some (.invokevirtual 66, 3, 0), none, none, some (.aload_n 0, 1, 0), some (.iload 7, 2, 0)],
  [none, some (.aload_n 0, 1, 0), some (.getfield 21, 3, 0), none, none, some (.iload 7, 2, 0), none, some (.iaload, 1, 0), some (.iconst (-1), 1, 0), some (.iload 4, 2, 0), none, some (.invokevirtual 66, 3, 0), none, none, some (.iinc 7 1, 3, 177), none],
  [none, some (.goto (-55), 3, 122), none, none, some (.return_, 1, 0)]]
def jm_X0_weigh : JM := (jc_X0_weigh, 0, 0, 0, 4, 0, yX0_weigh, cX0_weigh, 8, none)
theorem jd_X0_weigh : jdOK cX0_weigh 0 jc_X0_weigh = true := by decide +kernel
def jc_X0_noteKnown : List (List JR) := [[some (.iconst 0, 1, 0), some (.istore_n 3, 1, 0), some (.iload_n 3, 1, 0), some (.aload_n 0, 1, 0), some (.getfield 27, 3, 0), none, none, some (.arraylength, 1, 0), some (.if_icmp .ge 35, 3, 43), none, none, some (.aload_n 0, 1, 0), some (.getfield 27, 3, 0), none, none, some (.iload_n 3, 1, 0)],
  [some (.iload_n 3, 1, 0), some (.iload_n 2, 1, 0), some (.if_icmp .ge 17, 3, 35), none, none, some (.aload_n 0, 1, 0), some (.getfield 11, 3, 0), none, none, some (.iload_n 3, 1, 0), some (.iaload, 1, 0), some (.iload_n 1, 1, 0), some (.if_icmp .ne 7, 3, 35), none, none, some (.iconst 1, 1, 0)],
  [some (.goto 4, 3, 36), none, none, some (.iconst 0, 1, 0), some (.bastore, 1, 0), some (.iinc 3 1, 3, 40), none, none, some (.goto (-38), 3, 2), none, none, some (.iconst 0, 1, 0), some (.istore_n 3, 1, 0), some (.iload_n 3, 1, 0), some (.iload_n 2, 1, 0), some (.if_icmp .ge 63, 3, 110)],
  [none, none, some (.iload_n 3, 1, 0), some (.aload_n 0, 1, 0), some (.getfield 24, 3, 0), none, none, some (.arraylength, 1, 0), some (.if_icmp .ge 54, 3, 110), none, none, some (.aload_n 0, 1, 0), some (.getfield 11, 3, 0), none, none, some (.iload_n 3, 1, 0)],
  [some (.iaload, 1, 0), some (.iconst (-1), 1, 0), some (.if_icmp .ne 38, 3, 104), none, none, some (.aload_n 0, 1, 0), some (.getfield 24, 3, 0), none, none, some (.iload_n 3, 1, 0), some (.iaload, 1, 0), some (.ifCond .lt 29, 3, 104), none, none, some (.aload_n 0, 1, 0), some (.getfield 24, 3, 0)],
  [none, none, some (.iload_n 3, 1, 0), some (.iaload, 1, 0), some (.aload_n 0, 1, 0), some (.getfield 27, 3, 0), none, none, some (.arraylength, 1, 0), some (.if_icmp .ge 15, 3, 104), none, none, some (.aload_n 0, 1, 0), some (.getfield 27, 3, 0), none, none],
  [some (.aload_n 0, 1, 0), some (.getfield 24, 3, 0), none, none, some (.iload_n 3, 1, 0), some (.iaload, 1, 0), some (.iconst 0, 1, 0), some (.bastore, 1, 0), some (.iinc 3 1, 3, 107), none, none, some (.goto (-62), 3, 45), none, none, some (.return_, 1, 0)]]
def jm_X0_noteKnown : JM := (jc_X0_noteKnown, 0, 0, 0, 2, 0, yX0_noteKnown, cX0_noteKnown, 4, none)
theorem jd_X0_noteKnown : jdOK cX0_noteKnown 0 jc_X0_noteKnown = true := by decide +kernel
def jc_X0_weighFlaws : List (List JR) := [[some (.aload_n 0, 1, 0), some (.getfield 15, 3, 0), none, none, some (.iload_n 1, 1, 0), some (.iaload, 1, 0), some (.invokestatic 63, 3, 0), none, none, some (.iload 4, 2, 0), none, some (.if_icmp .le 7, 3, 18), none, none, some (.iconst 1, 1, 0), some (.goto 4, 3, 19)],
  [none, none, some (.iconst 0, 1, 0), some (.istore 5, 2, 0), none, some (.iconst 0, 1, 0), some (.istore 6, 2, 0), none, some (.iload 6, 2, 0), none, some (.bipush 40, 2, 0), none, some (.if_icmp .ge 112, 3, 140), none, none, some (.aload_n 0, 1, 0)],
  [some (.getfield 15, 3, 0), none, none, some (.iload_n 1, 1, 0), some (.iaload, 1, 0), some (.iload_n 3, 1, 0), some (.iload 6, 2, 0), none, some (.invokestatic 70, 3, 0), none, none, some (.imul, 1, 0), some (.iadd, 1, 0), some (.invokestatic 63, 3, 0), none, none],
  [some (.iload 4, 2, 0), none, some (.if_icmp .le 7, 3, 57), none, none, some (.iconst 1, 1, 0), some (.goto 4, 3, 58), none, none, some (.iconst 0, 1, 0), some (.istore 7, 2, 0), none, some (.iconst 1, 1, 0), some (.iload_n 2, 1, 0), some (.bipush 40, 2, 0), none],
  [some (.imul, 1, 0), some (.iadd, 1, 0), some (.iload 6, 2, 0), none, some (.iadd, 1, 0), some (.istore 8, 2, 0), none, some (.iload 7, 2, 0), none, some (.iload 5, 2, 0), none, some (.if_icmp .eq 59, 3, 134), none, none, some (.iload 8, 2, 0), none],
  [some (.ifCond .lt 54, 3, 134), none, none, some (.iload 8, 2, 0), none, some (.aload_n 0, 1, 0), some (.getfield 31, 3, 0), none, none, some (.arraylength, 1, 0), some (.if_icmp .ge 44, 3, 134), none, none, some (.aload_n 0, 1, 0), some (.getfield 31, 3, 0), none],
  [none, some (.iload 8, 2, 0), none, some (.dup2, 1, 0), some (.iaload, 1, 0), some (.iload 7, 2, 0), none, some (.ifCond .eq 7, 3, 110), none, none, some (.iconst 1, 1, 0), some (.goto 4, 3, 111), none, none, some (.iconst (-1), 1, 0), some (.iadd, 1, 0)],
  [some (.iastore, 1, 0), some (.aload_n 0, 1, 0), some (.getfield 34, 3, 0), none, none, some (.iload 8, 2, 0), none, some (.dup2, 1, 0), some (.iaload, 1, 0), some (.iload 7, 2, 0), none, some (.ifCond .eq 7, 3, 130), none, none, some (.iload_n 1, 1, 0), some (.goto 5, 3, 132)],
  [none, none, some (.iload_n 1, 1, 0), some (.ineg, 1, 0), some (.iadd, 1, 0), some (.iastore, 1, 0), some (.iinc 6 1, 3, 137), none, none, some (.goto (-113), 3, 24), none, none, some (.return_, 1, 0)]]
def jm_X0_weighFlaws : JM := (jc_X0_weighFlaws, 0, 0, 0, 4, 0, yX0_weighFlaws, cX0_weighFlaws, 9, none)
theorem jd_X0_weighFlaws : jdOK cX0_weighFlaws 0 jc_X0_weighFlaws = true := by decide +kernel
def jc_X0_flawAt : List (List JR) := [[some (.iload_n 0, 1, 0), some (.bipush 20, 2, 0), none, some (.if_icmp .ge 10, 3, 13), none, none, some (.iload_n 0, 1, 0), some (.bipush 20, 2, 0), none, some (.isub, 1, 0), some (.goto 9, 3, 19), none, none, some (.iload_n 0, 1, 0), some (.bipush 20, 2, 0), none],
  [some (.isub, 1, 0), some (.iconst 1, 1, 0), some (.iadd, 1, 0), some (.ireturn, 1, 0)]]
def jm_X0_flawAt : JM := (jc_X0_flawAt, 0, 0, 0, 1, 0, yX0_flawAt, cX0_flawAt, 1, (some .int))
theorem jd_X0_flawAt : jdOK cX0_flawAt 0 jc_X0_flawAt = true := by decide +kernel
def jc_X0_fitting : List (List JR) := [[some (.iconst 0, 1, 0), some (.istore_n 1, 1, 0), some (.iconst 0, 1, 0), some (.istore_n 2, 1, 0), some (.iload_n 2, 1, 0), some (.aload_n 0, 1, 0), some (.getfield 60, 3, 0), none, none, some (.if_icmp .ge 21, 3, 30), none, none, some (.aload_n 0, 1, 0), some (.getfield 31, 3, 0), none, none],
  [some (.iload_n 2, 1, 0), some (.iaload, 1, 0), some (.ifCond .ne 6, 3, 24), none, none, some (.iinc 1 1, 3, 24), none, none, some (.iinc 2 1, 3, 27), none, none, some (.goto (-23), 3, 4), none, none, some (.iload_n 1, 1, 0), some (.ireturn, 1, 0)]]
def jm_X0_fitting : JM := (jc_X0_fitting, 0, 0, 0, 0, 0, yX0_fitting, cX0_fitting, 3, (some .int))
theorem jd_X0_fitting : jdOK cX0_fitting 0 jc_X0_fitting = true := by decide +kernel
def jc_X12_guesses : List (List JR) := [[some (.aload_n 0, 1, 0), some (.iload_n 1, 1, 0), some (.invokevirtual 195, 3, 0), none, none, some (.ifCond .eq 11, 3, 16), none, none, some (.aload_n 0, 1, 0), some (.iload_n 2, 1, 0), some (.invokevirtual 520, 3, 0), none, none, some (.ifCond .ne 5, 3, 18), none, none],
  [some (.iconst (-1), 1, 0), some (.ireturn, 1, 0), some (.aload_n 0, 1, 0), some (.iload_n 1, 1, 0), some (.iload_n 2, 1, 0), some (.invokevirtual 523, 3, 0), none, none, some (.aload_n 0, 1, 0), some (.iload_n 1, 1, 0), some (.iload_n 2, 1, 0), some (.iconst (-1), 1, 0), some (.iconst (-1), 1, 0), some (.invokevirtual 526, 3, 0), none, none],
  [some (.ireturn, 1, 0)]]
def jm_X12_guesses : JM := (jc_X12_guesses, 12, 0, 0, 2, 0, yX12_guesses, cX12_guesses, 3, (some .int))
theorem jd_X12_guesses : jdOK cX12_guesses 0 jc_X12_guesses = true := by decide +kernel
def jc_X12_isKnown : List (List JR) := [[some (.iload_n 1, 1, 0), some (.ifCond .lt 15, 3, 16), none, none, some (.iload_n 1, 1, 0), some (.aload_n 0, 1, 0), some (.getfield 504, 3, 0), none, none, some (.if_icmp .gt 7, 3, 16), none, none, some (.iconst 1, 1, 0), some (.goto 4, 3, 17), none, none],
  [some (.iconst 0, 1, 0), some (.ireturn, 1, 0)]]
def jm_X12_isKnown : JM := (jc_X12_isKnown, 12, 0, 0, 1, 0, yX12_isKnown, cX12_isKnown, 2, (some .boolean))
theorem jd_X12_isKnown : jdOK cX12_isKnown 0 jc_X12_isKnown = true := by decide +kernel
def jc_X12_keep : List (List JR) := [[some (.iconst 0, 1, 0), some (.istore_n 3, 1, 0), some (.iload_n 3, 1, 0), some (.iload_n 2, 1, 0), some (.if_icmp .ge 30, 3, 34), none, none, some (.aload_n 0, 1, 0), some (.getfield 170, 3, 0), none, none, some (.iload_n 3, 1, 0), some (.aload_n 0, 1, 0), some (.getfield 149, 3, 0), none, none],
  [some (.iload_n 3, 1, 0), some (.iaload, 1, 0), some (.iload_n 1, 1, 0), some (.if_icmp .ne 7, 3, 26), none, none, some (.iconst 1, 1, 0), some (.goto 4, 3, 27), none, none, some (.iconst 0, 1, 0), some (.bastore, 1, 0), some (.iinc 3 1, 3, 31), none, none, some (.goto (-29), 3, 2)],
  [none, none, some (.iconst 0, 1, 0), some (.istore_n 3, 1, 0), some (.iload_n 3, 1, 0), some (.iload_n 2, 1, 0), some (.if_icmp .ge 30, 3, 68), none, none, some (.aload_n 0, 1, 0), some (.getfield 149, 3, 0), none, none, some (.iload_n 3, 1, 0), some (.iaload, 1, 0), some (.ifCond .ge 15, 3, 62)],
  [none, none, some (.aload_n 0, 1, 0), some (.getfield 170, 3, 0), none, none, some (.aload_n 0, 1, 0), some (.getfield 152, 3, 0), none, none, some (.iload_n 3, 1, 0), some (.iaload, 1, 0), some (.iconst 0, 1, 0), some (.bastore, 1, 0), some (.iinc 3 1, 3, 65), none],
  [none, some (.goto (-29), 3, 36), none, none, some (.return_, 1, 0)]]
def jm_X12_keep : JM := (jc_X12_keep, 12, 0, 0, 2, 0, yX12_keep, cX12_keep, 4, none)
theorem jd_X12_keep : jdOK cX12_keep 0 jc_X12_keep = true := by decide +kernel
def jc_X12_fitting : List (List JR) := [[some (.iconst 0, 1, 0), some (.istore 5, 2, 0), none, some (.aload_n 0, 1, 0), some (.iload_n 1, 1, 0), some (.iload_n 2, 1, 0), some (.iconst (-1), 1, 0), some (.iconst 0, 1, 0), some (.iload_n 3, 1, 0), some (.invokevirtual 511, 3, 0), none, none, some (.ifCond .eq 16, 3, 28), none, none, some (.aload_n 0, 1, 0)],
  [some (.iconst (-1), 1, 0), some (.putfield 514, 3, 0), none, none, some (.aload_n 0, 1, 0), some (.iconst 0, 1, 0), some (.putfield 517, 3, 0), none, none, some (.iinc 5 1, 3, 28), none, none, some (.iconst 0, 1, 0), some (.istore 6, 2, 0), none, some (.iload 6, 2, 0)],
  [none, some (.bipush 16, 2, 0), none, some (.aload_n 0, 1, 0), some (.getfield 17, 3, 0), none, none, some (.iload_n 1, 1, 0), some (.iaload, 1, 0), some (.imul, 1, 0), some (.if_icmp .ge 67, 3, 109), none, none, some (.bipush (-20), 2, 0), none, some (.istore 7, 2, 0)],
  [none, some (.iload 7, 2, 0), none, some (.bipush 20, 2, 0), none, some (.if_icmp .gt 50, 3, 103), none, none, some (.iload 7, 2, 0), none, some (.ifCond .eq 39, 3, 97), none, none, some (.aload_n 0, 1, 0), some (.iload_n 1, 1, 0), some (.iload_n 2, 1, 0)],
  [some (.iload 6, 2, 0), none, some (.iload 7, 2, 0), none, some (.iload_n 3, 1, 0), some (.invokevirtual 511, 3, 0), none, none, some (.ifCond .eq 25, 3, 97), none, none, some (.iload 5, 2, 0), none, some (.iload 4, 2, 0), none, some (.if_icmp .ne 15, 3, 94)],
  [none, none, some (.aload_n 0, 1, 0), some (.iload 6, 2, 0), none, some (.putfield 514, 3, 0), none, none, some (.aload_n 0, 1, 0), some (.iload 7, 2, 0), none, some (.putfield 517, 3, 0), none, none, some (.iinc 5 1, 3, 97), none],
  [none, some (.iinc 7 1, 3, 100), none, none, some (.goto (-51), 3, 49), none, none, some (.iinc 6 1, 3, 106), none, none, some (.goto (-75), 3, 31), none, none, some (.iload 5, 2, 0), none, some (.ireturn, 1, 0)]]
def jm_X12_fitting : JM := (jc_X12_fitting, 12, 0, 0, 4, 0, yX12_fitting, cX12_fitting, 8, (some .int))
theorem jd_X12_fitting : jdOK cX12_fitting 0 jc_X12_fitting = true := by decide +kernel
def jc_X12_fits : List (List JR) := [[some (.iconst 0, 1, 0), some (.istore 6, 2, 0), none, some (.iload 6, 2, 0), none, some (.iload_n 2, 1, 0), some (.if_icmp .ge 117, 3, 123), none, none, some (.aload_n 0, 1, 0), some (.getfield 170, 3, 0), none, none, some (.iload 6, 2, 0), none, some (.baload, 1, 0)],
  [some (.ifCond .eq 101, 3, 117), none, none, some (.iload 6, 2, 0), none, some (.iload 5, 2, 0), none, some (.if_icmp .eq 94, 3, 117), none, none, some (.aload_n 0, 1, 0), some (.bipush 8, 2, 0), none, some (.iload_n 1, 1, 0), some (.imul, 1, 0), some (.aload_n 0, 1, 0)],
  [some (.getfield 152, 3, 0), none, none, some (.iload 6, 2, 0), none, some (.iaload, 1, 0), some (.iadd, 1, 0), some (.aload_n 0, 1, 0), some (.getfield 155, 3, 0), none, none, some (.iload 6, 2, 0), none, some (.iaload, 1, 0), some (.aload_n 0, 1, 0), some (.getfield 158, 3, 0)],
  [none, none, some (.iload 6, 2, 0), none, some (.iaload, 1, 0), some (.iload_n 3, 1, 0), some (.iload 4, 2, 0), none, some (.invokevirtual 507, 3, 0), none, none, some (.istore 7, 2, 0), none, some (.aload_n 0, 1, 0), some (.bipush 8, 2, 0), none],
  [some (.iload_n 1, 1, 0), some (.imul, 1, 0), some (.aload_n 0, 1, 0), some (.getfield 161, 3, 0), none, none, some (.iload 6, 2, 0), none, some (.iaload, 1, 0), some (.iadd, 1, 0), some (.aload_n 0, 1, 0), some (.getfield 164, 3, 0), none, none, some (.iload 6, 2, 0), none],
  [some (.iaload, 1, 0), some (.aload_n 0, 1, 0), some (.getfield 167, 3, 0), none, none, some (.iload 6, 2, 0), none, some (.iaload, 1, 0), some (.iload_n 3, 1, 0), some (.iload 4, 2, 0), none, some (.invokevirtual 507, 3, 0), none, none, some (.istore 8, 2, 0), none],
  [some (.iload 7, 2, 0), none, some (.iload 8, 2, 0), none, some (.invokestatic 218, 3, 0), none, none, some (.aload_n 0, 1, 0), some (.getfield 34, 3, 0), none, none, some (.aload_n 0, 1, 0), some (.getfield 37, 3, 0), none, none, some (.iadd, 1, 0)],
  [some (.if_icmp .le 5, 3, 117), none, none, some (.iconst 0, 1, 0), some (.ireturn, 1, 0), some (.iinc 6 1, 3, 120), none, none, some (.goto (-117), 3, 3), none, none, some (.iconst 1, 1, 0), some (.ireturn, 1, 0)]]
def jm_X12_fits : JM := (jc_X12_fits, 12, 0, 0, 5, 0, yX12_fits, cX12_fits, 9, (some .boolean))
theorem jd_X12_fits : jdOK cX12_fits 0 jc_X12_fits = true := by decide +kernel
def jc_X12_guessedAt : List (List JR) := [[some (.aload_n 0, 1, 0), some (.iload_n 1, 1, 0), some (.iload_n 2, 1, 0), some (.iload_n 3, 1, 0), some (.invokevirtual 202, 3, 0), none, none, some (.istore 6, 2, 0), none, some (.iload 4, 2, 0), none, some (.ifCond .lt 36, 3, 47), none, none, some (.iload 4, 2, 0), none],
  [some (.bipush 16, 2, 0), none, some (.idiv, 1, 0), some (.iload_n 1, 1, 0), some (.bipush 8, 2, 0), none, some (.irem, 1, 0), some (.if_icmp .ne 24, 3, 47), none, none, some (.iload 4, 2, 0), none, some (.bipush 16, 2, 0), none, some (.irem, 1, 0), some (.iload 6, 2, 0)],
  [none, some (.invokestatic 206, 3, 0), none, none, some (.if_icmp .ne 11, 3, 47), none, none, some (.iload 6, 2, 0), none, some (.iload 5, 2, 0), none, some (.iadd, 1, 0), some (.goto 5, 3, 49), none, none, some (.iload 6, 2, 0)],
  [none, some (.ireturn, 1, 0)]]
def jm_X12_guessedAt : JM := (jc_X12_guessedAt, 12, 0, 0, 5, 0, yX12_guessedAt, cX12_guessedAt, 7, (some .int))
theorem jd_X12_guessedAt : jdOK cX12_guessedAt 0 jc_X12_guessedAt = true := by decide +kernel
def jc_X11_guess : List (List JR) := [[some (.iload_n 3, 1, 0), some (.ifCond .lt 23, 3, 24), none, none, some (.iload 4, 2, 0), none, some (.ifCond .lt 18, 3, 24), none, none, some (.iload 4, 2, 0), none, some (.iconst 2, 1, 0), some (.if_icmp .gt 12, 3, 24), none, none, some (.aload_n 0, 1, 0)],
  [some (.iload_n 1, 1, 0), some (.iload_n 2, 1, 0), some (.invokevirtual 306, 3, 0), none, none, some (.ifCond .ne 7, 3, 28), none, none, some (.sipush (-1000), 3, 0), none, none, some (.ireturn, 1, 0), some (.aload_n 0, 1, 0), some (.getfield 80, 3, 0), none, none],
  [some (.aload_n 0, 1, 0), some (.getfield 80, 3, 0), none, none, some (.iload_n 3, 1, 0), some (.invokevirtual 312, 3, 0), none, none, some (.iload 4, 2, 0), none, some (.invokevirtual 315, 3, 0), none, none, some (.ireturn, 1, 0)]]
def jm_X11_guess : JM := (jc_X11_guess, 11, 0, 0, 4, 0, yX11_guess, cX11_guess, 5, (some .int))
theorem jd_X11_guess : jdOK cX11_guess 0 jc_X11_guess = true := by decide +kernel
def jc_X0_fittingAt : List (List JR) := [[some (.iload_n 1, 1, 0), some (.istore_n 2, 1, 0), some (.iconst 0, 1, 0), some (.istore_n 3, 1, 0), some (.iload_n 3, 1, 0), some (.aload_n 0, 1, 0), some (.getfield 60, 3, 0), none, none, some (.if_icmp .ge 27, 3, 36), none, none, some (.aload_n 0, 1, 0), some (.getfield 31, 3, 0), none, none],
  [some (.iload_n 3, 1, 0), some (.iaload, 1, 0), some (.ifCond .ne 12, 3, 30), none, none, some (.iload_n 2, 1, 0), some (.ifCond .ne 5, 3, 27), none, none, some (.iload_n 3, 1, 0), some (.ireturn, 1, 0), some (.iinc 2 (-1), 3, 30), none, none, some (.iinc 3 1, 3, 33), none],
  [none, some (.goto (-29), 3, 4), none, none, some (.iconst (-1), 1, 0), some (.ireturn, 1, 0)]]
def jm_X0_fittingAt : JM := (jc_X0_fittingAt, 0, 0, 0, 1, 0, yX0_fittingAt, cX0_fittingAt, 4, (some .int))
theorem jd_X0_fittingAt : jdOK cX0_fittingAt 0 jc_X0_fittingAt = true := by decide +kernel
def jc_X0_guessPart : List (List JR) := [[some (.iload_n 1, 1, 0), some (.iconst (-1), 1, 0), some (.if_icmp .ne 7, 3, 9), none, none, some (.sipush (-1000), 3, 0), none, none, some (.ireturn, 1, 0), some (.iload_n 1, 1, 0), some (.ifCond .ne 14, 3, 24), none, none, some (.iload_n 2, 1, 0), some (.ifCond .ne 8, 3, 22), none],
  [none, some (.bipush (-2), 2, 0), none, some (.goto 4, 3, 23), none, none, some (.iconst 0, 1, 0), some (.ireturn, 1, 0), some (.iload_n 1, 1, 0), some (.iconst 1, 1, 0), some (.isub, 1, 0), some (.istore_n 3, 1, 0), some (.iload_n 2, 1, 0), some (.ifCond .ne 9, 3, 38), none, none],
  [some (.iload_n 3, 1, 0), some (.sipush 640, 3, 0), none, none, some (.idiv, 1, 0), some (.ireturn, 1, 0), some (.iload_n 2, 1, 0), some (.iconst 1, 1, 0), some (.if_icmp .ne 13, 3, 53), none, none, some (.iload_n 3, 1, 0), some (.bipush 40, 2, 0), none, some (.idiv, 1, 0), some (.bipush 16, 2, 0)],
  [none, some (.irem, 1, 0), some (.goto 10, 3, 60), none, none, some (.iload_n 3, 1, 0), some (.bipush 40, 2, 0), none, some (.irem, 1, 0), some (.invokestatic 70, 3, 0), none, none, some (.ireturn, 1, 0)]]
def jm_X0_guessPart : JM := (jc_X0_guessPart, 0, 0, 0, 2, 0, yX0_guessPart, cX0_guessPart, 4, (some .int))
theorem jd_X0_guessPart : jdOK cX0_guessPart 0 jc_X0_guessPart = true := by decide +kernel
def jc_X12_guess : List (List JR) := [[some (.aload_n 0, 1, 0), some (.iload_n 1, 1, 0), some (.invokevirtual 195, 3, 0), none, none, some (.ifCond .eq 26, 3, 31), none, none, some (.aload_n 0, 1, 0), some (.iload_n 2, 1, 0), some (.invokevirtual 520, 3, 0), none, none, some (.ifCond .eq 18, 3, 31), none, none],
  [some (.iload_n 3, 1, 0), some (.ifCond .lt 14, 3, 31), none, none, some (.iload 4, 2, 0), none, some (.ifCond .lt 9, 3, 31), none, none, some (.iload 4, 2, 0), none, some (.iconst 2, 1, 0), some (.if_icmp .le 7, 3, 35), none, none, some (.sipush (-1000), 3, 0)],
  [none, none, some (.ireturn, 1, 0), some (.aload_n 0, 1, 0), some (.iload_n 1, 1, 0), some (.iload_n 2, 1, 0), some (.invokevirtual 523, 3, 0), none, none, some (.iload_n 3, 1, 0), some (.aload_n 0, 1, 0), some (.iload_n 1, 1, 0), some (.iload_n 2, 1, 0), some (.iconst (-1), 1, 0), some (.iload_n 3, 1, 0), some (.invokevirtual 526, 3, 0)],
  [none, none, some (.if_icmp .lt 7, 3, 57), none, none, some (.sipush (-1000), 3, 0), none, none, some (.ireturn, 1, 0), some (.aload_n 0, 1, 0), some (.getfield 514, 3, 0), none, none, some (.ifCond .ge 15, 3, 76), none, none],
  [some (.iload 4, 2, 0), none, some (.ifCond .ne 8, 3, 74), none, none, some (.bipush (-2), 2, 0), none, some (.goto 4, 3, 75), none, none, some (.iconst 0, 1, 0), some (.ireturn, 1, 0), some (.iload 4, 2, 0), none, some (.ifCond .ne 13, 3, 91), none],
  [none, some (.aload_n 0, 1, 0), some (.getfield 514, 3, 0), none, none, some (.bipush 16, 2, 0), none, some (.idiv, 1, 0), some (.goto 23, 3, 111), none, none, some (.iload 4, 2, 0), none, some (.iconst 1, 1, 0), some (.if_icmp .ne 13, 3, 107), none],
  [none, some (.aload_n 0, 1, 0), some (.getfield 514, 3, 0), none, none, some (.bipush 16, 2, 0), none, some (.irem, 1, 0), some (.goto 7, 3, 111), none, none, some (.aload_n 0, 1, 0), some (.getfield 517, 3, 0), none, none, some (.ireturn, 1, 0)]]
def jm_X12_guess : JM := (jc_X12_guess, 12, 0, 0, 4, 0, yX12_guess, cX12_guess, 5, (some .int))
theorem jd_X12_guess : jdOK cX12_guess 0 jc_X12_guess = true := by decide +kernel
def jc_X11_sure : List (List JR) := [[some (.aload_n 0, 1, 0), some (.iload_n 1, 1, 0), some (.iload_n 2, 1, 0), some (.invokevirtual 306, 3, 0), none, none, some (.ifCond .eq 13, 3, 19), none, none, some (.aload_n 0, 1, 0), some (.getfield 80, 3, 0), none, none, some (.invokevirtual 318, 3, 0), none, none],
  [some (.goto 4, 3, 20), none, none, some (.iconst (-1), 1, 0), some (.ireturn, 1, 0)]]
def jm_X11_sure : JM := (jc_X11_sure, 11, 0, 0, 2, 0, yX11_sure, cX11_sure, 3, (some .int))
theorem jd_X11_sure : jdOK cX11_sure 0 jc_X11_sure = true := by decide +kernel
def jc_X0_blamedScale : List (List JR) := [[some (.bipush (-2), 2, 0), none, some (.istore_n 1, 1, 0), some (.iconst 0, 1, 0), some (.istore_n 2, 1, 0), some (.iload_n 2, 1, 0), some (.aload_n 0, 1, 0), some (.getfield 60, 3, 0), none, none, some (.if_icmp .ge 47, 3, 57), none, none, some (.aload_n 0, 1, 0), some (.getfield 31, 3, 0), none],
  [none, some (.iload_n 2, 1, 0), some (.iaload, 1, 0), some (.ifCond .ne 32, 3, 51), none, none, some (.aload_n 0, 1, 0), some (.iload_n 2, 1, 0), some (.iconst 0, 1, 0), some (.invokevirtual 73, 3, 0), none, none, some (.istore_n 3, 1, 0), some (.iload_n 3, 1, 0), some (.bipush (-2), 2, 0), none],
  [some (.if_icmp .eq 14, 3, 46), none, none, some (.iload_n 1, 1, 0), some (.bipush (-2), 2, 0), none, some (.if_icmp .eq 11, 3, 49), none, none, some (.iload_n 1, 1, 0), some (.iload_n 3, 1, 0), some (.if_icmp .eq 6, 3, 49), none, none, some (.bipush (-2), 2, 0), none],
  [some (.ireturn, 1, 0), some (.iload_n 3, 1, 0), some (.istore_n 1, 1, 0), some (.iinc 2 1, 3, 54), none, none, some (.goto (-49), 3, 5), none, none, some (.iload_n 1, 1, 0), some (.ireturn, 1, 0)]]
def jm_X0_blamedScale : JM := (jc_X0_blamedScale, 0, 0, 0, 0, 0, yX0_blamedScale, cX0_blamedScale, 4, (some .int))
theorem jd_X0_blamedScale : jdOK cX0_blamedScale 0 jc_X0_blamedScale = true := by decide +kernel
def jc_X12_sure : List (List JR) := [[some (.aload_n 0, 1, 0), some (.iload_n 1, 1, 0), some (.invokevirtual 195, 3, 0), none, none, some (.ifCond .eq 11, 3, 16), none, none, some (.aload_n 0, 1, 0), some (.iload_n 2, 1, 0), some (.invokevirtual 520, 3, 0), none, none, some (.ifCond .ne 5, 3, 18), none, none],
  [some (.iconst (-1), 1, 0), some (.ireturn, 1, 0), some (.aload_n 0, 1, 0), some (.iload_n 1, 1, 0), some (.iload_n 2, 1, 0), some (.invokevirtual 523, 3, 0), none, none, some (.aload_n 0, 1, 0), some (.iload_n 1, 1, 0), some (.iload_n 2, 1, 0), some (.iconst (-1), 1, 0), some (.iconst 0, 1, 0), some (.iconst (-1), 1, 0), some (.invokevirtual 511, 3, 0), none],
  [none, some (.ifCond .eq 6, 3, 39), none, none, some (.bipush (-2), 2, 0), none, some (.ireturn, 1, 0), some (.bipush (-2), 2, 0), none, some (.istore_n 3, 1, 0), some (.iconst 0, 1, 0), some (.istore 4, 2, 0), none, some (.iload 4, 2, 0), none, some (.bipush 16, 2, 0)],
  [none, some (.aload_n 0, 1, 0), some (.getfield 17, 3, 0), none, none, some (.iload_n 1, 1, 0), some (.iaload, 1, 0), some (.imul, 1, 0), some (.if_icmp .ge 96, 3, 152), none, none, some (.iconst 0, 1, 0), some (.istore 5, 2, 0), none, some (.bipush (-20), 2, 0), none],
  [some (.istore 6, 2, 0), none, some (.iload 6, 2, 0), none, some (.bipush 20, 2, 0), none, some (.if_icmp .gt 40, 3, 110), none, none, some (.iload 5, 2, 0), none, some (.ifCond .ne 35, 3, 110), none, none, some (.iload 6, 2, 0), none],
  [some (.ifCond .eq 21, 3, 101), none, none, some (.aload_n 0, 1, 0), some (.iload_n 1, 1, 0), some (.iload_n 2, 1, 0), some (.iload 4, 2, 0), none, some (.iload 6, 2, 0), none, some (.iconst (-1), 1, 0), some (.invokevirtual 511, 3, 0), none, none, some (.ifCond .eq 7, 3, 101), none],
  [none, some (.iconst 1, 1, 0), some (.goto 4, 3, 102), none, none, some (.iconst 0, 1, 0), some (.istore 5, 2, 0), none, some (.iinc 6 1, 3, 107), none, none, some (.goto (-41), 3, 66), none, none, some (.iload 5, 2, 0), none],
  [some (.ifCond .eq 19, 3, 131), none, none, some (.iload_n 3, 1, 0), some (.ifCond .lt 15, 3, 131), none, none, some (.iload_n 3, 1, 0), some (.iload 4, 2, 0), none, some (.bipush 16, 2, 0), none, some (.idiv, 1, 0), some (.if_icmp .eq 6, 3, 131), none, none],
  [some (.bipush (-2), 2, 0), none, some (.ireturn, 1, 0), some (.iload 5, 2, 0), none, some (.ifCond .eq 11, 3, 144), none, none, some (.iload 4, 2, 0), none, some (.bipush 16, 2, 0), none, some (.idiv, 1, 0), some (.goto 4, 3, 145), none, none],
  [some (.iload_n 3, 1, 0), some (.istore_n 3, 1, 0), some (.iinc 4 1, 3, 149), none, none, some (.goto (-104), 3, 45), none, none, some (.iload_n 3, 1, 0), some (.ireturn, 1, 0)]]
def jm_X12_sure : JM := (jc_X12_sure, 12, 0, 0, 2, 0, yX12_sure, cX12_sure, 7, (some .int))
theorem jd_X12_sure : jdOK cX12_sure 0 jc_X12_sure = true := by decide +kernel
def jc_X11_odd : List (List JR) := [[some (.aload_n 0, 1, 0), some (.iload_n 1, 1, 0), some (.iload_n 2, 1, 0), some (.invokevirtual 306, 3, 0), none, none, some (.ifCond .eq 13, 3, 19), none, none, some (.aload_n 0, 1, 0), some (.getfield 80, 3, 0), none, none, some (.invokevirtual 321, 3, 0), none, none],
  [some (.goto 4, 3, 20), none, none, some (.iconst (-1), 1, 0), some (.ireturn, 1, 0)]]
def jm_X11_odd : JM := (jc_X11_odd, 11, 0, 0, 2, 0, yX11_odd, cX11_odd, 3, (some .int))
theorem jd_X11_odd : jdOK cX11_odd 0 jc_X11_odd = true := by decide +kernel
def jc_X0_oddOne : List (List JR) := [[some (.iconst 0, 1, 0), some (.istore_n 1, 1, 0), some (.iload_n 1, 1, 0), some (.aload_n 0, 1, 0), some (.getfield 37, 3, 0), none, none, some (.arraylength, 1, 0), some (.if_icmp .ge 16, 3, 24), none, none, some (.aload_n 0, 1, 0), some (.getfield 37, 3, 0), none, none, some (.iload_n 1, 1, 0)],
  [some (.iconst 0, 1, 0), some (.iastore, 1, 0), some (.iinc 1 1, 3, 21), none, none, some (.goto (-19), 3, 2), none, none, some (.iconst 0, 1, 0), some (.istore_n 1, 1, 0), some (.iload_n 1, 1, 0), some (.aload_n 0, 1, 0), some (.getfield 60, 3, 0), none, none, some (.if_icmp .ge 49, 3, 80)],
  [none, none, some (.aload_n 0, 1, 0), some (.getfield 34, 3, 0), none, none, some (.iload_n 1, 1, 0), some (.iaload, 1, 0), some (.istore_n 2, 1, 0), some (.aload_n 0, 1, 0), some (.getfield 31, 3, 0), none, none, some (.iload_n 1, 1, 0), some (.iaload, 1, 0), some (.iconst 1, 1, 0)],
  [some (.if_icmp .ne 26, 3, 74), none, none, some (.iload_n 2, 1, 0), some (.ifCond .lt 22, 3, 74), none, none, some (.iload_n 2, 1, 0), some (.aload_n 0, 1, 0), some (.getfield 37, 3, 0), none, none, some (.arraylength, 1, 0), some (.if_icmp .ge 13, 3, 74), none, none],
  [some (.aload_n 0, 1, 0), some (.getfield 37, 3, 0), none, none, some (.iload_n 2, 1, 0), some (.dup2, 1, 0), some (.iaload, 1, 0), some (.iconst 1, 1, 0), some (.iadd, 1, 0), some (.iastore, 1, 0), some (.iinc 1 1, 3, 77), none, none, some (.goto (-51), 3, 26), none, none],
  [some (.iconst (-1), 1, 0), some (.istore_n 1, 1, 0), some (.iconst 0, 1, 0), some (.istore_n 2, 1, 0), some (.iload_n 2, 1, 0), some (.aload_n 0, 1, 0), some (.getfield 27, 3, 0), none, none, some (.arraylength, 1, 0), some (.if_icmp .ge 40, 3, 130), none, none, some (.aload_n 0, 1, 0), some (.getfield 27, 3, 0), none],
  [none, some (.iload_n 2, 1, 0), some (.baload, 1, 0), some (.ifCond .eq 25, 3, 124), none, none, some (.iload_n 1, 1, 0), some (.iconst (-1), 1, 0), some (.if_icmp .eq 18, 3, 122), none, none, some (.aload_n 0, 1, 0), some (.getfield 37, 3, 0), none, none, some (.iload_n 2, 1, 0)],
  [some (.iaload, 1, 0), some (.aload_n 0, 1, 0), some (.getfield 37, 3, 0), none, none, some (.iload_n 1, 1, 0), some (.iaload, 1, 0), some (.if_icmp .le 5, 3, 124), none, none, some (.iload_n 2, 1, 0), some (.istore_n 1, 1, 0), some (.iinc 2 1, 3, 127), none, none, some (.goto (-43), 3, 84)],
  [none, none, some (.iload_n 1, 1, 0), some (.ireturn, 1, 0)]]
def jm_X0_oddOne : JM := (jc_X0_oddOne, 0, 0, 0, 0, 0, yX0_oddOne, cX0_oddOne, 3, (some .int))
theorem jd_X0_oddOne : jdOK cX0_oddOne 0 jc_X0_oddOne = true := by decide +kernel
def jc_X12_odd : List (List JR) := [[some (.aload_n 0, 1, 0), some (.iload_n 1, 1, 0), some (.invokevirtual 195, 3, 0), none, none, some (.ifCond .eq 11, 3, 16), none, none, some (.aload_n 0, 1, 0), some (.iload_n 2, 1, 0), some (.invokevirtual 520, 3, 0), none, none, some (.ifCond .ne 5, 3, 18), none, none],
  [some (.iconst (-1), 1, 0), some (.ireturn, 1, 0), some (.aload_n 0, 1, 0), some (.iload_n 1, 1, 0), some (.iload_n 2, 1, 0), some (.invokevirtual 523, 3, 0), none, none, some (.iconst (-1), 1, 0), some (.istore_n 3, 1, 0), some (.iconst (-1), 1, 0), some (.istore 4, 2, 0), none, some (.iconst 0, 1, 0), some (.istore 5, 2, 0), none],
  [some (.iload 5, 2, 0), none, some (.iload_n 2, 1, 0), some (.if_icmp .ge 48, 3, 83), none, none, some (.aload_n 0, 1, 0), some (.getfield 170, 3, 0), none, none, some (.iload 5, 2, 0), none, some (.baload, 1, 0), some (.ifCond .eq 15, 3, 60), none, none],
  [some (.aload_n 0, 1, 0), some (.iload_n 1, 1, 0), some (.iload_n 2, 1, 0), some (.iload 5, 2, 0), none, some (.iconst (-1), 1, 0), some (.invokevirtual 526, 3, 0), none, none, some (.goto 4, 3, 61), none, none, some (.iconst (-1), 1, 0), some (.istore 6, 2, 0), none, some (.iload 6, 2, 0)],
  [none, some (.iload 4, 2, 0), none, some (.if_icmp .le 10, 3, 77), none, none, some (.iload 6, 2, 0), none, some (.istore 4, 2, 0), none, some (.iload 5, 2, 0), none, some (.istore_n 3, 1, 0), some (.iinc 5 1, 3, 80), none, none],
  [some (.goto (-48), 3, 32), none, none, some (.iload_n 3, 1, 0), some (.ireturn, 1, 0)]]
def jm_X12_odd : JM := (jc_X12_odd, 12, 0, 0, 2, 0, yX12_odd, cX12_odd, 7, (some .int))
theorem jd_X12_odd : jdOK cX12_odd 0 jc_X12_odd = true := by decide +kernel
def jc_X11_count : List (List JR) := [[some (.iload_n 1, 1, 0), some (.tableswitch 96 0 6 #[43, 48, 56, 64, 72, 80, 88], 43, 0), none, none, none, none, none, none, none, none, none, none, none, none, none, none],
  [none, none, none, none, none, none, none, none, none, none, none, none, none, none, none, none],
  [none, none, none, none, none, none, none, none, none, none, none, none, some (.aload_n 0, 1, 0), some (.getfield 110, 3, 0), none, none],
  [some (.ireturn, 1, 0), some (.aload_n 0, 1, 0), some (.getfield 66, 3, 0), none, none, some (.getfield 232, 3, 0), none, none, some (.ireturn, 1, 0), some (.aload_n 0, 1, 0), some (.getfield 80, 3, 0), none, none, some (.getfield 324, 3, 0), none, none],
  [some (.ireturn, 1, 0), some (.aload_n 0, 1, 0), some (.getfield 41, 3, 0), none, none, some (.getfield 218, 3, 0), none, none, some (.ireturn, 1, 0), some (.aload_n 0, 1, 0), some (.getfield 34, 3, 0), none, none, some (.getfield 92, 3, 0), none, none],
  [some (.ireturn, 1, 0), some (.aload_n 0, 1, 0), some (.getfield 27, 3, 0), none, none, some (.getfield 132, 3, 0), none, none, some (.ireturn, 1, 0), some (.aload_n 0, 1, 0), some (.getfield 27, 3, 0), none, none, some (.getfield 135, 3, 0), none, none],
  [some (.ireturn, 1, 0), some (.iconst (-1), 1, 0), some (.ireturn, 1, 0)]]
def jm_X11_count : JM := (jc_X11_count, 11, 0, 0, 1, 0, yX11_count, cX11_count, 2, (some .int))
theorem jd_X11_count : jdOK cX11_count 0 jc_X11_count = true := by decide +kernel
def jc_X12_count : List (List JR) := [[some (.iload_n 1, 1, 0), some (.tableswitch 80 0 6 #[43, 48, 53, 58, 65, 70, 75], 43, 0), none, none, none, none, none, none, none, none, none, none, none, none, none, none],
  [none, none, none, none, none, none, none, none, none, none, none, none, none, none, none, none],
  [none, none, none, none, none, none, none, none, none, none, none, none, some (.aload_n 0, 1, 0), some (.getfield 192, 3, 0), none, none],
  [some (.ireturn, 1, 0), some (.aload_n 0, 1, 0), some (.getfield 460, 3, 0), none, none, some (.ireturn, 1, 0), some (.aload_n 0, 1, 0), some (.getfield 504, 3, 0), none, none, some (.ireturn, 1, 0), some (.aload_n 0, 1, 0), some (.getfield 85, 3, 0), none, none, some (.iconst 0, 1, 0)],
  [some (.iaload, 1, 0), some (.ireturn, 1, 0), some (.aload_n 0, 1, 0), some (.getfield 181, 3, 0), none, none, some (.ireturn, 1, 0), some (.aload_n 0, 1, 0), some (.getfield 34, 3, 0), none, none, some (.ireturn, 1, 0), some (.aload_n 0, 1, 0), some (.getfield 37, 3, 0), none, none],
  [some (.ireturn, 1, 0), some (.iconst (-1), 1, 0), some (.ireturn, 1, 0)]]
def jm_X12_count : JM := (jc_X12_count, 12, 0, 0, 1, 0, yX12_count, cX12_count, 2, (some .int))
theorem jd_X12_count : jdOK cX12_count 0 jc_X12_count = true := by decide +kernel
def jc_L_law_0 : List JR := [some (.new 7, 3, 0), none, none, some (.dup, 1, 0), some (.invokespecial 9, 3, 0), none, none, some (.astore_n 1, 1, 0), some (.new 10, 3, 0), none, none, some (.dup, 1, 0), some (.invokespecial 12, 3, 0), none, none, some (.astore_n 2, 1, 0)]
theorem jd_L_law_0 : jdRow cL_law 0 jc_L_law_0 = true := by decide +kernel
def jc_L_law_1 : List JR := [some (.iconst 0, 1, 0), some (.istore_n 3, 1, 0), some (.iload_n 3, 1, 0), some (.aload_n 0, 1, 0), some (.arraylength, 1, 0), some (.bipush 8, 2, 0), none, some (.isub, 1, 0), some (.if_icmp .gt 1564, 3, 1588), none, none, some (.aload_n 0, 1, 0), some (.iload_n 3, 1, 0), some (.iaload, 1, 0), some (.bipush 63, 2, 0), none]
theorem jd_L_law_1 : jdRow cL_law 16 jc_L_law_1 = true := by decide +kernel
def jc_L_law_2 : List JR := [some (.iand, 1, 0), some (.tableswitch 1549 0 37 #[167, 230, 253, 266, 279, 302, 315, 400, 453, 486, 539, 602, 625, 668, 711, 750, 783, 806, 819, 832, 845, 858, 891, 950, 963, 986, 1009, 1072, 1115, 1168, 1231, 1264, 1351, 1374, 1407, 1460, 1493, 1526], 167, 0), none, none, none, none, none, none, none, none, none, none, none, none, none, none]
theorem jd_L_law_2 : jdRow cL_law 32 jc_L_law_2 = true := by decide +kernel
def jc_L_law_3 : List JR := [none, none, none, none, none, none, none, none, none, none, none, none, none, none, none, none]
theorem jd_L_law_3 : jdRow cL_law 48 jc_L_law_3 = true := by decide +kernel
def jc_L_law_4 : List JR := [none, none, none, none, none, none, none, none, none, none, none, none, none, none, none, none]
theorem jd_L_law_4 : jdRow cL_law 64 jc_L_law_4 = true := by decide +kernel
def jc_L_law_5 : List JR := [none, none, none, none, none, none, none, none, none, none, none, none, none, none, none, none]
theorem jd_L_law_5 : jdRow cL_law 80 jc_L_law_5 = true := by decide +kernel
def jc_L_law_6 : List JR := [none, none, none, none, none, none, none, none, none, none, none, none, none, none, none, none]
theorem jd_L_law_6 : jdRow cL_law 96 jc_L_law_6 = true := by decide +kernel
def jc_L_law_7 : List JR := [none, none, none, none, none, none, none, none, none, none, none, none, none, none, none, none]
theorem jd_L_law_7 : jdRow cL_law 112 jc_L_law_7 = true := by decide +kernel
def jc_L_law_8 : List JR := [none, none, none, none, none, none, none, none, none, none, none, none, none, none, none, none]
theorem jd_L_law_8 : jdRow cL_law 128 jc_L_law_8 = true := by decide +kernel
def jc_L_law_9 : List JR := [none, none, none, none, none, none, none, none, none, none, none, none, none, none, none, none]
theorem jd_L_law_9 : jdRow cL_law 144 jc_L_law_9 = true := by decide +kernel
def jc_L_law_10 : List JR := [none, none, none, none, none, none, none, none, none, none, none, none, none, none, none, none]
theorem jd_L_law_10 : jdRow cL_law 160 jc_L_law_10 = true := by decide +kernel
def jc_L_law_11 : List JR := [none, none, none, none, none, none, none, none, none, none, none, none, none, none, none, none]
theorem jd_L_law_11 : jdRow cL_law 176 jc_L_law_11 = true := by decide +kernel
def jc_L_law_12 : List JR := [none, none, none, none, none, none, none, none, some (.aload_n 1, 1, 0), some (.aload_n 0, 1, 0), some (.iload_n 3, 1, 0), some (.iconst 1, 1, 0), some (.iadd, 1, 0), some (.iaload, 1, 0), some (.aload_n 0, 1, 0), some (.iload_n 3, 1, 0)]
theorem jd_L_law_12 : jdRow cL_law 192 jc_L_law_12 = true := by decide +kernel
def jc_L_law_13 : List JR := [some (.iconst 2, 1, 0), some (.iadd, 1, 0), some (.iaload, 1, 0), some (.aload_n 0, 1, 0), some (.iload_n 3, 1, 0), some (.iconst 3, 1, 0), some (.iadd, 1, 0), some (.iaload, 1, 0), some (.aload_n 0, 1, 0), some (.iload_n 3, 1, 0), some (.iconst 4, 1, 0), some (.iadd, 1, 0), some (.iaload, 1, 0), some (.aload_n 0, 1, 0), some (.iload_n 3, 1, 0), some (.iconst 5, 1, 0)]
theorem jd_L_law_13 : jdRow cL_law 208 jc_L_law_13 = true := by decide +kernel
def jc_L_law_14 : List JR := [some (.iadd, 1, 0), some (.iaload, 1, 0), some (.invokevirtual 13, 3, 0), none, none, some (.aload_n 2, 1, 0), some (.aload_n 0, 1, 0), some (.iload_n 3, 1, 0), some (.iconst 1, 1, 0), some (.iadd, 1, 0), some (.iaload, 1, 0), some (.aload_n 0, 1, 0), some (.iload_n 3, 1, 0), some (.iconst 2, 1, 0), some (.iadd, 1, 0), some (.iaload, 1, 0)]
theorem jd_L_law_14 : jdRow cL_law 224 jc_L_law_14 = true := by decide +kernel
def jc_L_law_15 : List JR := [some (.aload_n 0, 1, 0), some (.iload_n 3, 1, 0), some (.iconst 3, 1, 0), some (.iadd, 1, 0), some (.iaload, 1, 0), some (.aload_n 0, 1, 0), some (.iload_n 3, 1, 0), some (.iconst 4, 1, 0), some (.iadd, 1, 0), some (.iaload, 1, 0), some (.aload_n 0, 1, 0), some (.iload_n 3, 1, 0), some (.iconst 5, 1, 0), some (.iadd, 1, 0), some (.iaload, 1, 0), some (.invokevirtual 17, 3, 0)]
theorem jd_L_law_15 : jdRow cL_law 240 jc_L_law_15 = true := by decide +kernel
def jc_L_law_16 : List JR := [none, none, some (.if_icmp .eq 1324, 3, 1582), none, none, some (.iconst 0, 1, 0), some (.ireturn, 1, 0), some (.aload_n 1, 1, 0), some (.aload_n 0, 1, 0), some (.iload_n 3, 1, 0), some (.iconst 1, 1, 0), some (.iadd, 1, 0), some (.iaload, 1, 0), some (.invokevirtual 18, 3, 0), none, none]
theorem jd_L_law_16 : jdRow cL_law 256 jc_L_law_16 = true := by decide +kernel
def jc_L_law_17 : List JR := [some (.aload_n 2, 1, 0), some (.aload_n 0, 1, 0), some (.iload_n 3, 1, 0), some (.iconst 1, 1, 0), some (.iadd, 1, 0), some (.iaload, 1, 0), some (.invokevirtual 22, 3, 0), none, none, some (.if_icmp .eq 1301, 3, 1582), none, none, some (.iconst 0, 1, 0), some (.ireturn, 1, 0), some (.aload_n 1, 1, 0), some (.invokevirtual 23, 3, 0)]
theorem jd_L_law_17 : jdRow cL_law 272 jc_L_law_17 = true := by decide +kernel
def jc_L_law_18 : List JR := [none, none, some (.aload_n 2, 1, 0), some (.invokevirtual 27, 3, 0), none, none, some (.if_icmp .eq 1288, 3, 1582), none, none, some (.iconst 0, 1, 0), some (.ireturn, 1, 0), some (.aload_n 1, 1, 0), some (.invokevirtual 28, 3, 0), none, none, some (.aload_n 2, 1, 0)]
theorem jd_L_law_18 : jdRow cL_law 288 jc_L_law_18 = true := by decide +kernel
def jc_L_law_19 : List JR := [some (.invokevirtual 31, 3, 0), none, none, some (.if_icmp .eq 1275, 3, 1582), none, none, some (.iconst 0, 1, 0), some (.ireturn, 1, 0), some (.aload_n 1, 1, 0), some (.aload_n 0, 1, 0), some (.iload_n 3, 1, 0), some (.iconst 1, 1, 0), some (.iadd, 1, 0), some (.iaload, 1, 0), some (.invokevirtual 32, 3, 0), none]
theorem jd_L_law_19 : jdRow cL_law 304 jc_L_law_19 = true := by decide +kernel
def jc_L_law_20 : List JR := [none, some (.aload_n 2, 1, 0), some (.aload_n 0, 1, 0), some (.iload_n 3, 1, 0), some (.iconst 1, 1, 0), some (.iadd, 1, 0), some (.iaload, 1, 0), some (.invokevirtual 35, 3, 0), none, none, some (.if_icmp .eq 1252, 3, 1582), none, none, some (.iconst 0, 1, 0), some (.ireturn, 1, 0), some (.aload_n 1, 1, 0)]
theorem jd_L_law_20 : jdRow cL_law 320 jc_L_law_20 = true := by decide +kernel
def jc_L_law_21 : List JR := [some (.invokevirtual 36, 3, 0), none, none, some (.aload_n 2, 1, 0), some (.invokevirtual 39, 3, 0), none, none, some (.if_icmp .eq 1239, 3, 1582), none, none, some (.iconst 0, 1, 0), some (.ireturn, 1, 0), some (.aload_n 1, 1, 0), some (.aload_n 0, 1, 0), some (.iload_n 3, 1, 0), some (.iconst 1, 1, 0)]
theorem jd_L_law_21 : jdRow cL_law 336 jc_L_law_21 = true := by decide +kernel
def jc_L_law_22 : List JR := [some (.iadd, 1, 0), some (.iaload, 1, 0), some (.aload_n 0, 1, 0), some (.iload_n 3, 1, 0), some (.iconst 2, 1, 0), some (.iadd, 1, 0), some (.iaload, 1, 0), some (.ifCond .eq 7, 3, 366), none, none, some (.iconst 1, 1, 0), some (.goto 4, 3, 367), none, none, some (.iconst 0, 1, 0), some (.aload_n 0, 1, 0)]
theorem jd_L_law_22 : jdRow cL_law 352 jc_L_law_22 = true := by decide +kernel
def jc_L_law_23 : List JR := [some (.iload_n 3, 1, 0), some (.iconst 3, 1, 0), some (.iadd, 1, 0), some (.iaload, 1, 0), some (.aload_n 0, 1, 0), some (.iload_n 3, 1, 0), some (.iconst 4, 1, 0), some (.iadd, 1, 0), some (.iaload, 1, 0), some (.ifCond .eq 7, 3, 384), none, none, some (.iconst 1, 1, 0), some (.goto 4, 3, 385), none, none]
theorem jd_L_law_23 : jdRow cL_law 368 jc_L_law_23 = true := by decide +kernel
def jc_L_law_24 : List JR := [some (.iconst 0, 1, 0), some (.invokevirtual 40, 3, 0), none, none, some (.aload_n 2, 1, 0), some (.aload_n 0, 1, 0), some (.iload_n 3, 1, 0), some (.iconst 1, 1, 0), some (.iadd, 1, 0), some (.iaload, 1, 0), some (.aload_n 0, 1, 0), some (.iload_n 3, 1, 0), some (.iconst 2, 1, 0), some (.iadd, 1, 0), some (.iaload, 1, 0), some (.ifCond .eq 7, 3, 406)]
theorem jd_L_law_24 : jdRow cL_law 384 jc_L_law_24 = true := by decide +kernel
def jc_L_law_25 : List JR := [none, none, some (.iconst 1, 1, 0), some (.goto 4, 3, 407), none, none, some (.iconst 0, 1, 0), some (.aload_n 0, 1, 0), some (.iload_n 3, 1, 0), some (.iconst 3, 1, 0), some (.iadd, 1, 0), some (.iaload, 1, 0), some (.aload_n 0, 1, 0), some (.iload_n 3, 1, 0), some (.iconst 4, 1, 0), some (.iadd, 1, 0)]
theorem jd_L_law_25 : jdRow cL_law 400 jc_L_law_25 = true := by decide +kernel
def jc_L_law_26 : List JR := [some (.iaload, 1, 0), some (.ifCond .eq 7, 3, 424), none, none, some (.iconst 1, 1, 0), some (.goto 4, 3, 425), none, none, some (.iconst 0, 1, 0), some (.invokevirtual 44, 3, 0), none, none, some (.if_icmp .eq 1154, 3, 1582), none, none, some (.iconst 0, 1, 0)]
theorem jd_L_law_26 : jdRow cL_law 416 jc_L_law_26 = true := by decide +kernel
def jc_L_law_27 : List JR := [some (.ireturn, 1, 0), some (.aload_n 1, 1, 0), some (.aload_n 0, 1, 0), some (.iload_n 3, 1, 0), some (.iconst 1, 1, 0), some (.iadd, 1, 0), some (.iaload, 1, 0), some (.aload_n 0, 1, 0), some (.iload_n 3, 1, 0), some (.iconst 2, 1, 0), some (.iadd, 1, 0), some (.iaload, 1, 0), some (.aload_n 0, 1, 0), some (.iload_n 3, 1, 0), some (.iconst 3, 1, 0), some (.iadd, 1, 0)]
theorem jd_L_law_27 : jdRow cL_law 432 jc_L_law_27 = true := by decide +kernel
def jc_L_law_28 : List JR := [some (.iaload, 1, 0), some (.aload_n 0, 1, 0), some (.iload_n 3, 1, 0), some (.iconst 4, 1, 0), some (.iadd, 1, 0), some (.iaload, 1, 0), some (.invokevirtual 45, 3, 0), none, none, some (.aload_n 2, 1, 0), some (.aload_n 0, 1, 0), some (.iload_n 3, 1, 0), some (.iconst 1, 1, 0), some (.iadd, 1, 0), some (.iaload, 1, 0), some (.aload_n 0, 1, 0)]
theorem jd_L_law_28 : jdRow cL_law 448 jc_L_law_28 = true := by decide +kernel
def jc_L_law_29 : List JR := [some (.iload_n 3, 1, 0), some (.iconst 2, 1, 0), some (.iadd, 1, 0), some (.iaload, 1, 0), some (.aload_n 0, 1, 0), some (.iload_n 3, 1, 0), some (.iconst 3, 1, 0), some (.iadd, 1, 0), some (.iaload, 1, 0), some (.aload_n 0, 1, 0), some (.iload_n 3, 1, 0), some (.iconst 4, 1, 0), some (.iadd, 1, 0), some (.iaload, 1, 0), some (.invokevirtual 49, 3, 0), none]
theorem jd_L_law_29 : jdRow cL_law 464 jc_L_law_29 = true := by decide +kernel
def jc_L_law_30 : List JR := [none, some (.if_icmp .eq 1101, 3, 1582), none, none, some (.iconst 0, 1, 0), some (.ireturn, 1, 0), some (.aload_n 1, 1, 0), some (.aload_n 0, 1, 0), some (.iload_n 3, 1, 0), some (.iconst 1, 1, 0), some (.iadd, 1, 0), some (.iaload, 1, 0), some (.aload_n 0, 1, 0), some (.iload_n 3, 1, 0), some (.iconst 2, 1, 0), some (.iadd, 1, 0)]
theorem jd_L_law_30 : jdRow cL_law 480 jc_L_law_30 = true := by decide +kernel
def jc_L_law_31 : List JR := [some (.iaload, 1, 0), some (.invokevirtual 50, 3, 0), none, none, some (.aload_n 2, 1, 0), some (.aload_n 0, 1, 0), some (.iload_n 3, 1, 0), some (.iconst 1, 1, 0), some (.iadd, 1, 0), some (.iaload, 1, 0), some (.aload_n 0, 1, 0), some (.iload_n 3, 1, 0), some (.iconst 2, 1, 0), some (.iadd, 1, 0), some (.iaload, 1, 0), some (.invokevirtual 54, 3, 0)]
theorem jd_L_law_31 : jdRow cL_law 496 jc_L_law_31 = true := by decide +kernel
def jc_L_law_32 : List JR := [none, none, some (.if_icmp .eq 1068, 3, 1582), none, none, some (.iconst 0, 1, 0), some (.ireturn, 1, 0), some (.aload_n 1, 1, 0), some (.aload_n 0, 1, 0), some (.iload_n 3, 1, 0), some (.iconst 1, 1, 0), some (.iadd, 1, 0), some (.iaload, 1, 0), some (.aload_n 0, 1, 0), some (.iload_n 3, 1, 0), some (.iconst 2, 1, 0)]
theorem jd_L_law_32 : jdRow cL_law 512 jc_L_law_32 = true := by decide +kernel
def jc_L_law_33 : List JR := [some (.iadd, 1, 0), some (.iaload, 1, 0), some (.aload_n 0, 1, 0), some (.iload_n 3, 1, 0), some (.iconst 3, 1, 0), some (.iadd, 1, 0), some (.iaload, 1, 0), some (.aload_n 0, 1, 0), some (.iload_n 3, 1, 0), some (.iconst 4, 1, 0), some (.iadd, 1, 0), some (.iaload, 1, 0), some (.invokevirtual 55, 3, 0), none, none, some (.aload_n 2, 1, 0)]
theorem jd_L_law_33 : jdRow cL_law 528 jc_L_law_33 = true := by decide +kernel
def jc_L_law_34 : List JR := [some (.aload_n 0, 1, 0), some (.iload_n 3, 1, 0), some (.iconst 1, 1, 0), some (.iadd, 1, 0), some (.iaload, 1, 0), some (.aload_n 0, 1, 0), some (.iload_n 3, 1, 0), some (.iconst 2, 1, 0), some (.iadd, 1, 0), some (.iaload, 1, 0), some (.aload_n 0, 1, 0), some (.iload_n 3, 1, 0), some (.iconst 3, 1, 0), some (.iadd, 1, 0), some (.iaload, 1, 0), some (.aload_n 0, 1, 0)]
theorem jd_L_law_34 : jdRow cL_law 544 jc_L_law_34 = true := by decide +kernel
def jc_L_law_35 : List JR := [some (.iload_n 3, 1, 0), some (.iconst 4, 1, 0), some (.iadd, 1, 0), some (.iaload, 1, 0), some (.invokevirtual 59, 3, 0), none, none, some (.if_icmp .eq 1015, 3, 1582), none, none, some (.iconst 0, 1, 0), some (.ireturn, 1, 0), some (.aload_n 1, 1, 0), some (.aload_n 0, 1, 0), some (.iload_n 3, 1, 0), some (.iconst 1, 1, 0)]
theorem jd_L_law_35 : jdRow cL_law 560 jc_L_law_35 = true := by decide +kernel
def jc_L_law_36 : List JR := [some (.iadd, 1, 0), some (.iaload, 1, 0), some (.aload_n 0, 1, 0), some (.iload_n 3, 1, 0), some (.iconst 2, 1, 0), some (.iadd, 1, 0), some (.iaload, 1, 0), some (.aload_n 0, 1, 0), some (.iload_n 3, 1, 0), some (.iconst 3, 1, 0), some (.iadd, 1, 0), some (.iaload, 1, 0), some (.aload_n 0, 1, 0), some (.iload_n 3, 1, 0), some (.iconst 4, 1, 0), some (.iadd, 1, 0)]
theorem jd_L_law_36 : jdRow cL_law 576 jc_L_law_36 = true := by decide +kernel
def jc_L_law_37 : List JR := [some (.iaload, 1, 0), some (.aload_n 0, 1, 0), some (.iload_n 3, 1, 0), some (.iconst 5, 1, 0), some (.iadd, 1, 0), some (.iaload, 1, 0), some (.invokevirtual 60, 3, 0), none, none, some (.aload_n 2, 1, 0), some (.aload_n 0, 1, 0), some (.iload_n 3, 1, 0), some (.iconst 1, 1, 0), some (.iadd, 1, 0), some (.iaload, 1, 0), some (.aload_n 0, 1, 0)]
theorem jd_L_law_37 : jdRow cL_law 592 jc_L_law_37 = true := by decide +kernel
def jc_L_law_38 : List JR := [some (.iload_n 3, 1, 0), some (.iconst 2, 1, 0), some (.iadd, 1, 0), some (.iaload, 1, 0), some (.aload_n 0, 1, 0), some (.iload_n 3, 1, 0), some (.iconst 3, 1, 0), some (.iadd, 1, 0), some (.iaload, 1, 0), some (.aload_n 0, 1, 0), some (.iload_n 3, 1, 0), some (.iconst 4, 1, 0), some (.iadd, 1, 0), some (.iaload, 1, 0), some (.aload_n 0, 1, 0), some (.iload_n 3, 1, 0)]
theorem jd_L_law_38 : jdRow cL_law 608 jc_L_law_38 = true := by decide +kernel
def jc_L_law_39 : List JR := [some (.iconst 5, 1, 0), some (.iadd, 1, 0), some (.iaload, 1, 0), some (.invokevirtual 63, 3, 0), none, none, some (.if_icmp .eq 952, 3, 1582), none, none, some (.iconst 0, 1, 0), some (.ireturn, 1, 0), some (.aload_n 1, 1, 0), some (.aload_n 0, 1, 0), some (.iload_n 3, 1, 0), some (.iconst 1, 1, 0), some (.iadd, 1, 0)]
theorem jd_L_law_39 : jdRow cL_law 624 jc_L_law_39 = true := by decide +kernel
def jc_L_law_40 : List JR := [some (.iaload, 1, 0), some (.invokevirtual 64, 3, 0), none, none, some (.aload_n 2, 1, 0), some (.aload_n 0, 1, 0), some (.iload_n 3, 1, 0), some (.iconst 1, 1, 0), some (.iadd, 1, 0), some (.iaload, 1, 0), some (.invokevirtual 68, 3, 0), none, none, some (.if_icmp .eq 929, 3, 1582), none, none]
theorem jd_L_law_40 : jdRow cL_law 640 jc_L_law_40 = true := by decide +kernel
def jc_L_law_41 : List JR := [some (.iconst 0, 1, 0), some (.ireturn, 1, 0), some (.aload_n 1, 1, 0), some (.aload_n 0, 1, 0), some (.iload_n 3, 1, 0), some (.iconst 1, 1, 0), some (.iadd, 1, 0), some (.iaload, 1, 0), some (.aload_n 0, 1, 0), some (.iload_n 3, 1, 0), some (.iconst 2, 1, 0), some (.iadd, 1, 0), some (.iaload, 1, 0), some (.aload_n 0, 1, 0), some (.iload_n 3, 1, 0), some (.iconst 3, 1, 0)]
theorem jd_L_law_41 : jdRow cL_law 656 jc_L_law_41 = true := by decide +kernel
def jc_L_law_42 : List JR := [some (.iadd, 1, 0), some (.iaload, 1, 0), some (.invokevirtual 69, 3, 0), none, none, some (.aload_n 2, 1, 0), some (.aload_n 0, 1, 0), some (.iload_n 3, 1, 0), some (.iconst 1, 1, 0), some (.iadd, 1, 0), some (.iaload, 1, 0), some (.aload_n 0, 1, 0), some (.iload_n 3, 1, 0), some (.iconst 2, 1, 0), some (.iadd, 1, 0), some (.iaload, 1, 0)]
theorem jd_L_law_42 : jdRow cL_law 672 jc_L_law_42 = true := by decide +kernel
def jc_L_law_43 : List JR := [some (.aload_n 0, 1, 0), some (.iload_n 3, 1, 0), some (.iconst 3, 1, 0), some (.iadd, 1, 0), some (.iaload, 1, 0), some (.invokevirtual 73, 3, 0), none, none, some (.if_icmp .eq 886, 3, 1582), none, none, some (.iconst 0, 1, 0), some (.ireturn, 1, 0), some (.aload_n 1, 1, 0), some (.aload_n 0, 1, 0), some (.iload_n 3, 1, 0)]
theorem jd_L_law_43 : jdRow cL_law 688 jc_L_law_43 = true := by decide +kernel
def jc_L_law_44 : List JR := [some (.iconst 1, 1, 0), some (.iadd, 1, 0), some (.iaload, 1, 0), some (.aload_n 0, 1, 0), some (.iload_n 3, 1, 0), some (.iconst 2, 1, 0), some (.iadd, 1, 0), some (.iaload, 1, 0), some (.aload_n 0, 1, 0), some (.iload_n 3, 1, 0), some (.iconst 3, 1, 0), some (.iadd, 1, 0), some (.iaload, 1, 0), some (.invokevirtual 74, 3, 0), none, none]
theorem jd_L_law_44 : jdRow cL_law 704 jc_L_law_44 = true := by decide +kernel
def jc_L_law_45 : List JR := [some (.aload_n 2, 1, 0), some (.aload_n 0, 1, 0), some (.iload_n 3, 1, 0), some (.iconst 1, 1, 0), some (.iadd, 1, 0), some (.iaload, 1, 0), some (.aload_n 0, 1, 0), some (.iload_n 3, 1, 0), some (.iconst 2, 1, 0), some (.iadd, 1, 0), some (.iaload, 1, 0), some (.aload_n 0, 1, 0), some (.iload_n 3, 1, 0), some (.iconst 3, 1, 0), some (.iadd, 1, 0), some (.iaload, 1, 0)]
theorem jd_L_law_45 : jdRow cL_law 720 jc_L_law_45 = true := by decide +kernel
def jc_L_law_46 : List JR := [some (.invokevirtual 77, 3, 0), none, none, some (.if_icmp .eq 843, 3, 1582), none, none, some (.iconst 0, 1, 0), some (.ireturn, 1, 0), some (.aload_n 1, 1, 0), some (.aload_n 0, 1, 0), some (.iload_n 3, 1, 0), some (.iconst 1, 1, 0), some (.iadd, 1, 0), some (.iaload, 1, 0), some (.ifCond .eq 7, 3, 757), none]
theorem jd_L_law_46 : jdRow cL_law 736 jc_L_law_46 = true := by decide +kernel
def jc_L_law_47 : List JR := [none, some (.iconst 1, 1, 0), some (.goto 4, 3, 758), none, none, some (.iconst 0, 1, 0), some (.invokevirtual 78, 3, 0), none, none, some (.aload_n 2, 1, 0), some (.aload_n 0, 1, 0), some (.iload_n 3, 1, 0), some (.iconst 1, 1, 0), some (.iadd, 1, 0), some (.iaload, 1, 0), some (.ifCond .eq 7, 3, 774)]
theorem jd_L_law_47 : jdRow cL_law 752 jc_L_law_47 = true := by decide +kernel
def jc_L_law_48 : List JR := [none, none, some (.iconst 1, 1, 0), some (.goto 4, 3, 775), none, none, some (.iconst 0, 1, 0), some (.invokevirtual 82, 3, 0), none, none, some (.if_icmp .eq 804, 3, 1582), none, none, some (.iconst 0, 1, 0), some (.ireturn, 1, 0), some (.aload_n 1, 1, 0)]
theorem jd_L_law_48 : jdRow cL_law 768 jc_L_law_48 = true := by decide +kernel
def jc_L_law_49 : List JR := [some (.aload_n 0, 1, 0), some (.iload_n 3, 1, 0), some (.iconst 1, 1, 0), some (.iadd, 1, 0), some (.iaload, 1, 0), some (.aload_n 0, 1, 0), some (.iload_n 3, 1, 0), some (.iconst 2, 1, 0), some (.iadd, 1, 0), some (.iaload, 1, 0), some (.invokevirtual 83, 3, 0), none, none, some (.aload_n 2, 1, 0), some (.aload_n 0, 1, 0), some (.iload_n 3, 1, 0)]
theorem jd_L_law_49 : jdRow cL_law 784 jc_L_law_49 = true := by decide +kernel
def jc_L_law_50 : List JR := [some (.iconst 1, 1, 0), some (.iadd, 1, 0), some (.iaload, 1, 0), some (.aload_n 0, 1, 0), some (.iload_n 3, 1, 0), some (.iconst 2, 1, 0), some (.iadd, 1, 0), some (.iaload, 1, 0), some (.invokevirtual 87, 3, 0), none, none, some (.if_icmp .eq 771, 3, 1582), none, none, some (.iconst 0, 1, 0), some (.ireturn, 1, 0)]
theorem jd_L_law_50 : jdRow cL_law 800 jc_L_law_50 = true := by decide +kernel
def jc_L_law_51 : List JR := [some (.aload_n 1, 1, 0), some (.aload_n 0, 1, 0), some (.iload_n 3, 1, 0), some (.iconst 1, 1, 0), some (.iadd, 1, 0), some (.iaload, 1, 0), some (.invokevirtual 88, 3, 0), none, none, some (.aload_n 2, 1, 0), some (.aload_n 0, 1, 0), some (.iload_n 3, 1, 0), some (.iconst 1, 1, 0), some (.iadd, 1, 0), some (.iaload, 1, 0), some (.invokevirtual 91, 3, 0)]
theorem jd_L_law_51 : jdRow cL_law 816 jc_L_law_51 = true := by decide +kernel
def jc_L_law_52 : List JR := [none, none, some (.if_icmp .eq 748, 3, 1582), none, none, some (.iconst 0, 1, 0), some (.ireturn, 1, 0), some (.aload_n 1, 1, 0), some (.invokevirtual 92, 3, 0), none, none, some (.aload_n 2, 1, 0), some (.invokevirtual 95, 3, 0), none, none, some (.if_icmp .eq 735, 3, 1582)]
theorem jd_L_law_52 : jdRow cL_law 832 jc_L_law_52 = true := by decide +kernel
def jc_L_law_53 : List JR := [none, none, some (.iconst 0, 1, 0), some (.ireturn, 1, 0), some (.aload_n 1, 1, 0), some (.invokevirtual 96, 3, 0), none, none, some (.aload_n 2, 1, 0), some (.invokevirtual 99, 3, 0), none, none, some (.if_icmp .eq 722, 3, 1582), none, none, some (.iconst 0, 1, 0)]
theorem jd_L_law_53 : jdRow cL_law 848 jc_L_law_53 = true := by decide +kernel
def jc_L_law_54 : List JR := [some (.ireturn, 1, 0), some (.aload_n 1, 1, 0), some (.invokevirtual 100, 3, 0), none, none, some (.aload_n 2, 1, 0), some (.invokevirtual 103, 3, 0), none, none, some (.if_icmp .eq 709, 3, 1582), none, none, some (.iconst 0, 1, 0), some (.ireturn, 1, 0), some (.aload_n 1, 1, 0), some (.invokevirtual 104, 3, 0)]
theorem jd_L_law_54 : jdRow cL_law 864 jc_L_law_54 = true := by decide +kernel
def jc_L_law_55 : List JR := [none, none, some (.aload_n 2, 1, 0), some (.invokevirtual 107, 3, 0), none, none, some (.if_icmp .eq 696, 3, 1582), none, none, some (.iconst 0, 1, 0), some (.ireturn, 1, 0), some (.aload_n 1, 1, 0), some (.aload_n 0, 1, 0), some (.iload_n 3, 1, 0), some (.iconst 1, 1, 0), some (.iadd, 1, 0)]
theorem jd_L_law_55 : jdRow cL_law 880 jc_L_law_55 = true := by decide +kernel
def jc_L_law_56 : List JR := [some (.iaload, 1, 0), some (.aload_n 0, 1, 0), some (.iload_n 3, 1, 0), some (.iconst 2, 1, 0), some (.iadd, 1, 0), some (.iaload, 1, 0), some (.invokevirtual 108, 3, 0), none, none, some (.aload_n 2, 1, 0), some (.aload_n 0, 1, 0), some (.iload_n 3, 1, 0), some (.iconst 1, 1, 0), some (.iadd, 1, 0), some (.iaload, 1, 0), some (.aload_n 0, 1, 0)]
theorem jd_L_law_56 : jdRow cL_law 896 jc_L_law_56 = true := by decide +kernel
def jc_L_law_57 : List JR := [some (.iload_n 3, 1, 0), some (.iconst 2, 1, 0), some (.iadd, 1, 0), some (.iaload, 1, 0), some (.invokevirtual 111, 3, 0), none, none, some (.if_icmp .eq 663, 3, 1582), none, none, some (.iconst 0, 1, 0), some (.ireturn, 1, 0), some (.aload_n 1, 1, 0), some (.aload_n 0, 1, 0), some (.iload_n 3, 1, 0), some (.iconst 1, 1, 0)]
theorem jd_L_law_57 : jdRow cL_law 912 jc_L_law_57 = true := by decide +kernel
def jc_L_law_58 : List JR := [some (.iadd, 1, 0), some (.iaload, 1, 0), some (.aload_n 0, 1, 0), some (.iload_n 3, 1, 0), some (.iconst 2, 1, 0), some (.iadd, 1, 0), some (.iaload, 1, 0), some (.aload_n 0, 1, 0), some (.iload_n 3, 1, 0), some (.iconst 3, 1, 0), some (.iadd, 1, 0), some (.iaload, 1, 0), some (.ifCond .eq 7, 3, 947), none, none, some (.iconst 1, 1, 0)]
theorem jd_L_law_58 : jdRow cL_law 928 jc_L_law_58 = true := by decide +kernel
def jc_L_law_59 : List JR := [some (.goto 4, 3, 948), none, none, some (.iconst 0, 1, 0), some (.invokevirtual 112, 3, 0), none, none, some (.aload_n 2, 1, 0), some (.aload_n 0, 1, 0), some (.iload_n 3, 1, 0), some (.iconst 1, 1, 0), some (.iadd, 1, 0), some (.iaload, 1, 0), some (.aload_n 0, 1, 0), some (.iload_n 3, 1, 0), some (.iconst 2, 1, 0)]
theorem jd_L_law_59 : jdRow cL_law 944 jc_L_law_59 = true := by decide +kernel
def jc_L_law_60 : List JR := [some (.iadd, 1, 0), some (.iaload, 1, 0), some (.aload_n 0, 1, 0), some (.iload_n 3, 1, 0), some (.iconst 3, 1, 0), some (.iadd, 1, 0), some (.iaload, 1, 0), some (.ifCond .eq 7, 3, 974), none, none, some (.iconst 1, 1, 0), some (.goto 4, 3, 975), none, none, some (.iconst 0, 1, 0), some (.invokevirtual 116, 3, 0)]
theorem jd_L_law_60 : jdRow cL_law 960 jc_L_law_60 = true := by decide +kernel
def jc_L_law_61 : List JR := [none, none, some (.if_icmp .eq 604, 3, 1582), none, none, some (.iconst 0, 1, 0), some (.ireturn, 1, 0), some (.aload_n 1, 1, 0), some (.invokevirtual 117, 3, 0), none, none, some (.aload_n 2, 1, 0), some (.invokevirtual 120, 3, 0), none, none, some (.if_icmp .eq 591, 3, 1582)]
theorem jd_L_law_61 : jdRow cL_law 976 jc_L_law_61 = true := by decide +kernel
def jc_L_law_62 : List JR := [none, none, some (.iconst 0, 1, 0), some (.ireturn, 1, 0), some (.aload_n 1, 1, 0), some (.aload_n 0, 1, 0), some (.iload_n 3, 1, 0), some (.iconst 1, 1, 0), some (.iadd, 1, 0), some (.iaload, 1, 0), some (.invokevirtual 121, 3, 0), none, none, some (.aload_n 2, 1, 0), some (.aload_n 0, 1, 0), some (.iload_n 3, 1, 0)]
theorem jd_L_law_62 : jdRow cL_law 992 jc_L_law_62 = true := by decide +kernel
def jc_L_law_63 : List JR := [some (.iconst 1, 1, 0), some (.iadd, 1, 0), some (.iaload, 1, 0), some (.invokevirtual 124, 3, 0), none, none, some (.if_icmp .eq 568, 3, 1582), none, none, some (.iconst 0, 1, 0), some (.ireturn, 1, 0), some (.aload_n 1, 1, 0), some (.aload_n 0, 1, 0), some (.iload_n 3, 1, 0), some (.iconst 1, 1, 0), some (.iadd, 1, 0)]
theorem jd_L_law_63 : jdRow cL_law 1008 jc_L_law_63 = true := by decide +kernel
def jc_L_law_64 : List JR := [some (.iaload, 1, 0), some (.invokevirtual 125, 3, 0), none, none, some (.aload_n 2, 1, 0), some (.aload_n 0, 1, 0), some (.iload_n 3, 1, 0), some (.iconst 1, 1, 0), some (.iadd, 1, 0), some (.iaload, 1, 0), some (.invokevirtual 128, 3, 0), none, none, some (.if_icmp .eq 545, 3, 1582), none, none]
theorem jd_L_law_64 : jdRow cL_law 1024 jc_L_law_64 = true := by decide +kernel
def jc_L_law_65 : List JR := [some (.iconst 0, 1, 0), some (.ireturn, 1, 0), some (.aload_n 1, 1, 0), some (.aload_n 0, 1, 0), some (.iload_n 3, 1, 0), some (.iconst 1, 1, 0), some (.iadd, 1, 0), some (.iaload, 1, 0), some (.aload_n 0, 1, 0), some (.iload_n 3, 1, 0), some (.iconst 2, 1, 0), some (.iadd, 1, 0), some (.iaload, 1, 0), some (.aload_n 0, 1, 0), some (.iload_n 3, 1, 0), some (.iconst 3, 1, 0)]
theorem jd_L_law_65 : jdRow cL_law 1040 jc_L_law_65 = true := by decide +kernel
def jc_L_law_66 : List JR := [some (.iadd, 1, 0), some (.iaload, 1, 0), some (.aload_n 0, 1, 0), some (.iload_n 3, 1, 0), some (.iconst 4, 1, 0), some (.iadd, 1, 0), some (.iaload, 1, 0), some (.aload_n 0, 1, 0), some (.iload_n 3, 1, 0), some (.iconst 5, 1, 0), some (.iadd, 1, 0), some (.iaload, 1, 0), some (.invokevirtual 129, 3, 0), none, none, some (.aload_n 2, 1, 0)]
theorem jd_L_law_66 : jdRow cL_law 1056 jc_L_law_66 = true := by decide +kernel
def jc_L_law_67 : List JR := [some (.aload_n 0, 1, 0), some (.iload_n 3, 1, 0), some (.iconst 1, 1, 0), some (.iadd, 1, 0), some (.iaload, 1, 0), some (.aload_n 0, 1, 0), some (.iload_n 3, 1, 0), some (.iconst 2, 1, 0), some (.iadd, 1, 0), some (.iaload, 1, 0), some (.aload_n 0, 1, 0), some (.iload_n 3, 1, 0), some (.iconst 3, 1, 0), some (.iadd, 1, 0), some (.iaload, 1, 0), some (.aload_n 0, 1, 0)]
theorem jd_L_law_67 : jdRow cL_law 1072 jc_L_law_67 = true := by decide +kernel
def jc_L_law_68 : List JR := [some (.iload_n 3, 1, 0), some (.iconst 4, 1, 0), some (.iadd, 1, 0), some (.iaload, 1, 0), some (.aload_n 0, 1, 0), some (.iload_n 3, 1, 0), some (.iconst 5, 1, 0), some (.iadd, 1, 0), some (.iaload, 1, 0), some (.invokevirtual 132, 3, 0), none, none, some (.if_icmp .eq 482, 3, 1582), none, none, some (.iconst 0, 1, 0)]
theorem jd_L_law_68 : jdRow cL_law 1088 jc_L_law_68 = true := by decide +kernel
def jc_L_law_69 : List JR := [some (.ireturn, 1, 0), some (.aload_n 1, 1, 0), some (.aload_n 0, 1, 0), some (.iload_n 3, 1, 0), some (.iconst 1, 1, 0), some (.iadd, 1, 0), some (.iaload, 1, 0), some (.aload_n 0, 1, 0), some (.iload_n 3, 1, 0), some (.iconst 2, 1, 0), some (.iadd, 1, 0), some (.iaload, 1, 0), some (.aload_n 0, 1, 0), some (.iload_n 3, 1, 0), some (.iconst 3, 1, 0), some (.iadd, 1, 0)]
theorem jd_L_law_69 : jdRow cL_law 1104 jc_L_law_69 = true := by decide +kernel
def jc_L_law_70 : List JR := [some (.iaload, 1, 0), some (.invokevirtual 133, 3, 0), none, none, some (.aload_n 2, 1, 0), some (.aload_n 0, 1, 0), some (.iload_n 3, 1, 0), some (.iconst 1, 1, 0), some (.iadd, 1, 0), some (.iaload, 1, 0), some (.aload_n 0, 1, 0), some (.iload_n 3, 1, 0), some (.iconst 2, 1, 0), some (.iadd, 1, 0), some (.iaload, 1, 0), some (.aload_n 0, 1, 0)]
theorem jd_L_law_70 : jdRow cL_law 1120 jc_L_law_70 = true := by decide +kernel
def jc_L_law_71 : List JR := [some (.iload_n 3, 1, 0), some (.iconst 3, 1, 0), some (.iadd, 1, 0), some (.iaload, 1, 0), some (.invokevirtual 136, 3, 0), none, none, some (.if_icmp .eq 439, 3, 1582), none, none, some (.iconst 0, 1, 0), some (.ireturn, 1, 0), some (.aload_n 1, 1, 0), some (.aload_n 0, 1, 0), some (.iload_n 3, 1, 0), some (.iconst 1, 1, 0)]
theorem jd_L_law_71 : jdRow cL_law 1136 jc_L_law_71 = true := by decide +kernel
def jc_L_law_72 : List JR := [some (.iadd, 1, 0), some (.iaload, 1, 0), some (.aload_n 0, 1, 0), some (.iload_n 3, 1, 0), some (.iconst 2, 1, 0), some (.iadd, 1, 0), some (.iaload, 1, 0), some (.aload_n 0, 1, 0), some (.iload_n 3, 1, 0), some (.iconst 3, 1, 0), some (.iadd, 1, 0), some (.iaload, 1, 0), some (.aload_n 0, 1, 0), some (.iload_n 3, 1, 0), some (.iconst 4, 1, 0), some (.iadd, 1, 0)]
theorem jd_L_law_72 : jdRow cL_law 1152 jc_L_law_72 = true := by decide +kernel
def jc_L_law_73 : List JR := [some (.iaload, 1, 0), some (.invokevirtual 137, 3, 0), none, none, some (.aload_n 2, 1, 0), some (.aload_n 0, 1, 0), some (.iload_n 3, 1, 0), some (.iconst 1, 1, 0), some (.iadd, 1, 0), some (.iaload, 1, 0), some (.aload_n 0, 1, 0), some (.iload_n 3, 1, 0), some (.iconst 2, 1, 0), some (.iadd, 1, 0), some (.iaload, 1, 0), some (.aload_n 0, 1, 0)]
theorem jd_L_law_73 : jdRow cL_law 1168 jc_L_law_73 = true := by decide +kernel
def jc_L_law_74 : List JR := [some (.iload_n 3, 1, 0), some (.iconst 3, 1, 0), some (.iadd, 1, 0), some (.iaload, 1, 0), some (.aload_n 0, 1, 0), some (.iload_n 3, 1, 0), some (.iconst 4, 1, 0), some (.iadd, 1, 0), some (.iaload, 1, 0), some (.invokevirtual 140, 3, 0), none, none, some (.if_icmp .eq 386, 3, 1582), none, none, some (.iconst 0, 1, 0)]
theorem jd_L_law_74 : jdRow cL_law 1184 jc_L_law_74 = true := by decide +kernel
def jc_L_law_75 : List JR := [some (.ireturn, 1, 0), some (.aload_n 1, 1, 0), some (.aload_n 0, 1, 0), some (.iload_n 3, 1, 0), some (.iconst 1, 1, 0), some (.iadd, 1, 0), some (.iaload, 1, 0), some (.aload_n 0, 1, 0), some (.iload_n 3, 1, 0), some (.iconst 2, 1, 0), some (.iadd, 1, 0), some (.iaload, 1, 0), some (.aload_n 0, 1, 0), some (.iload_n 3, 1, 0), some (.iconst 3, 1, 0), some (.iadd, 1, 0)]
theorem jd_L_law_75 : jdRow cL_law 1200 jc_L_law_75 = true := by decide +kernel
def jc_L_law_76 : List JR := [some (.iaload, 1, 0), some (.aload_n 0, 1, 0), some (.iload_n 3, 1, 0), some (.iconst 4, 1, 0), some (.iadd, 1, 0), some (.iaload, 1, 0), some (.aload_n 0, 1, 0), some (.iload_n 3, 1, 0), some (.iconst 5, 1, 0), some (.iadd, 1, 0), some (.iaload, 1, 0), some (.invokevirtual 141, 3, 0), none, none, some (.aload_n 2, 1, 0), some (.aload_n 0, 1, 0)]
theorem jd_L_law_76 : jdRow cL_law 1216 jc_L_law_76 = true := by decide +kernel
def jc_L_law_77 : List JR := [some (.iload_n 3, 1, 0), some (.iconst 1, 1, 0), some (.iadd, 1, 0), some (.iaload, 1, 0), some (.aload_n 0, 1, 0), some (.iload_n 3, 1, 0), some (.iconst 2, 1, 0), some (.iadd, 1, 0), some (.iaload, 1, 0), some (.aload_n 0, 1, 0), some (.iload_n 3, 1, 0), some (.iconst 3, 1, 0), some (.iadd, 1, 0), some (.iaload, 1, 0), some (.aload_n 0, 1, 0), some (.iload_n 3, 1, 0)]
theorem jd_L_law_77 : jdRow cL_law 1232 jc_L_law_77 = true := by decide +kernel
def jc_L_law_78 : List JR := [some (.iconst 4, 1, 0), some (.iadd, 1, 0), some (.iaload, 1, 0), some (.aload_n 0, 1, 0), some (.iload_n 3, 1, 0), some (.iconst 5, 1, 0), some (.iadd, 1, 0), some (.iaload, 1, 0), some (.invokevirtual 144, 3, 0), none, none, some (.if_icmp .eq 323, 3, 1582), none, none, some (.iconst 0, 1, 0), some (.ireturn, 1, 0)]
theorem jd_L_law_78 : jdRow cL_law 1248 jc_L_law_78 = true := by decide +kernel
def jc_L_law_79 : List JR := [some (.aload_n 1, 1, 0), some (.aload_n 0, 1, 0), some (.iload_n 3, 1, 0), some (.iconst 1, 1, 0), some (.iadd, 1, 0), some (.iaload, 1, 0), some (.aload_n 0, 1, 0), some (.iload_n 3, 1, 0), some (.iconst 2, 1, 0), some (.iadd, 1, 0), some (.iaload, 1, 0), some (.invokevirtual 145, 3, 0), none, none, some (.aload_n 2, 1, 0), some (.aload_n 0, 1, 0)]
theorem jd_L_law_79 : jdRow cL_law 1264 jc_L_law_79 = true := by decide +kernel
def jc_L_law_80 : List JR := [some (.iload_n 3, 1, 0), some (.iconst 1, 1, 0), some (.iadd, 1, 0), some (.iaload, 1, 0), some (.aload_n 0, 1, 0), some (.iload_n 3, 1, 0), some (.iconst 2, 1, 0), some (.iadd, 1, 0), some (.iaload, 1, 0), some (.invokevirtual 148, 3, 0), none, none, some (.if_icmp .eq 290, 3, 1582), none, none, some (.iconst 0, 1, 0)]
theorem jd_L_law_80 : jdRow cL_law 1280 jc_L_law_80 = true := by decide +kernel
def jc_L_law_81 : List JR := [some (.ireturn, 1, 0), some (.aload_n 1, 1, 0), some (.aload_n 0, 1, 0), some (.iload_n 3, 1, 0), some (.iconst 1, 1, 0), some (.iadd, 1, 0), some (.iaload, 1, 0), some (.aload_n 0, 1, 0), some (.iload_n 3, 1, 0), some (.iconst 2, 1, 0), some (.iadd, 1, 0), some (.iaload, 1, 0), some (.aload_n 0, 1, 0), some (.iload_n 3, 1, 0), some (.iconst 3, 1, 0), some (.iadd, 1, 0)]
theorem jd_L_law_81 : jdRow cL_law 1296 jc_L_law_81 = true := by decide +kernel
def jc_L_law_82 : List JR := [some (.iaload, 1, 0), some (.aload_n 0, 1, 0), some (.iload_n 3, 1, 0), some (.iconst 4, 1, 0), some (.iadd, 1, 0), some (.iaload, 1, 0), some (.aload_n 0, 1, 0), some (.iload_n 3, 1, 0), some (.iconst 5, 1, 0), some (.iadd, 1, 0), some (.iaload, 1, 0), some (.aload_n 0, 1, 0), some (.iload_n 3, 1, 0), some (.bipush 6, 2, 0), none, some (.iadd, 1, 0)]
theorem jd_L_law_82 : jdRow cL_law 1312 jc_L_law_82 = true := by decide +kernel
def jc_L_law_83 : List JR := [some (.iaload, 1, 0), some (.aload_n 0, 1, 0), some (.iload_n 3, 1, 0), some (.bipush 7, 2, 0), none, some (.iadd, 1, 0), some (.iaload, 1, 0), some (.invokevirtual 149, 3, 0), none, none, some (.aload_n 2, 1, 0), some (.aload_n 0, 1, 0), some (.iload_n 3, 1, 0), some (.iconst 1, 1, 0), some (.iadd, 1, 0), some (.iaload, 1, 0)]
theorem jd_L_law_83 : jdRow cL_law 1328 jc_L_law_83 = true := by decide +kernel
def jc_L_law_84 : List JR := [some (.aload_n 0, 1, 0), some (.iload_n 3, 1, 0), some (.iconst 2, 1, 0), some (.iadd, 1, 0), some (.iaload, 1, 0), some (.aload_n 0, 1, 0), some (.iload_n 3, 1, 0), some (.iconst 3, 1, 0), some (.iadd, 1, 0), some (.iaload, 1, 0), some (.aload_n 0, 1, 0), some (.iload_n 3, 1, 0), some (.iconst 4, 1, 0), some (.iadd, 1, 0), some (.iaload, 1, 0), some (.aload_n 0, 1, 0)]
theorem jd_L_law_84 : jdRow cL_law 1344 jc_L_law_84 = true := by decide +kernel
def jc_L_law_85 : List JR := [some (.iload_n 3, 1, 0), some (.iconst 5, 1, 0), some (.iadd, 1, 0), some (.iaload, 1, 0), some (.aload_n 0, 1, 0), some (.iload_n 3, 1, 0), some (.bipush 6, 2, 0), none, some (.iadd, 1, 0), some (.iaload, 1, 0), some (.aload_n 0, 1, 0), some (.iload_n 3, 1, 0), some (.bipush 7, 2, 0), none, some (.iadd, 1, 0), some (.iaload, 1, 0)]
theorem jd_L_law_85 : jdRow cL_law 1360 jc_L_law_85 = true := by decide +kernel
def jc_L_law_86 : List JR := [some (.invokevirtual 153, 3, 0), none, none, some (.if_icmp .eq 203, 3, 1582), none, none, some (.iconst 0, 1, 0), some (.ireturn, 1, 0), some (.aload_n 1, 1, 0), some (.aload_n 0, 1, 0), some (.iload_n 3, 1, 0), some (.iconst 1, 1, 0), some (.iadd, 1, 0), some (.iaload, 1, 0), some (.invokevirtual 154, 3, 0), none]
theorem jd_L_law_86 : jdRow cL_law 1376 jc_L_law_86 = true := by decide +kernel
def jc_L_law_87 : List JR := [none, some (.aload_n 2, 1, 0), some (.aload_n 0, 1, 0), some (.iload_n 3, 1, 0), some (.iconst 1, 1, 0), some (.iadd, 1, 0), some (.iaload, 1, 0), some (.invokevirtual 157, 3, 0), none, none, some (.if_icmp .eq 180, 3, 1582), none, none, some (.iconst 0, 1, 0), some (.ireturn, 1, 0), some (.aload_n 1, 1, 0)]
theorem jd_L_law_87 : jdRow cL_law 1392 jc_L_law_87 = true := by decide +kernel
def jc_L_law_88 : List JR := [some (.aload_n 0, 1, 0), some (.iload_n 3, 1, 0), some (.iconst 1, 1, 0), some (.iadd, 1, 0), some (.iaload, 1, 0), some (.aload_n 0, 1, 0), some (.iload_n 3, 1, 0), some (.iconst 2, 1, 0), some (.iadd, 1, 0), some (.iaload, 1, 0), some (.invokevirtual 158, 3, 0), none, none, some (.aload_n 2, 1, 0), some (.aload_n 0, 1, 0), some (.iload_n 3, 1, 0)]
theorem jd_L_law_88 : jdRow cL_law 1408 jc_L_law_88 = true := by decide +kernel
def jc_L_law_89 : List JR := [some (.iconst 1, 1, 0), some (.iadd, 1, 0), some (.iaload, 1, 0), some (.aload_n 0, 1, 0), some (.iload_n 3, 1, 0), some (.iconst 2, 1, 0), some (.iadd, 1, 0), some (.iaload, 1, 0), some (.invokevirtual 161, 3, 0), none, none, some (.if_icmp .eq 147, 3, 1582), none, none, some (.iconst 0, 1, 0), some (.ireturn, 1, 0)]
theorem jd_L_law_89 : jdRow cL_law 1424 jc_L_law_89 = true := by decide +kernel
def jc_L_law_90 : List JR := [some (.aload_n 1, 1, 0), some (.aload_n 0, 1, 0), some (.iload_n 3, 1, 0), some (.iconst 1, 1, 0), some (.iadd, 1, 0), some (.iaload, 1, 0), some (.aload_n 0, 1, 0), some (.iload_n 3, 1, 0), some (.iconst 2, 1, 0), some (.iadd, 1, 0), some (.iaload, 1, 0), some (.aload_n 0, 1, 0), some (.iload_n 3, 1, 0), some (.iconst 3, 1, 0), some (.iadd, 1, 0), some (.iaload, 1, 0)]
theorem jd_L_law_90 : jdRow cL_law 1440 jc_L_law_90 = true := by decide +kernel
def jc_L_law_91 : List JR := [some (.aload_n 0, 1, 0), some (.iload_n 3, 1, 0), some (.iconst 4, 1, 0), some (.iadd, 1, 0), some (.iaload, 1, 0), some (.invokevirtual 162, 3, 0), none, none, some (.aload_n 2, 1, 0), some (.aload_n 0, 1, 0), some (.iload_n 3, 1, 0), some (.iconst 1, 1, 0), some (.iadd, 1, 0), some (.iaload, 1, 0), some (.aload_n 0, 1, 0), some (.iload_n 3, 1, 0)]
theorem jd_L_law_91 : jdRow cL_law 1456 jc_L_law_91 = true := by decide +kernel
def jc_L_law_92 : List JR := [some (.iconst 2, 1, 0), some (.iadd, 1, 0), some (.iaload, 1, 0), some (.aload_n 0, 1, 0), some (.iload_n 3, 1, 0), some (.iconst 3, 1, 0), some (.iadd, 1, 0), some (.iaload, 1, 0), some (.aload_n 0, 1, 0), some (.iload_n 3, 1, 0), some (.iconst 4, 1, 0), some (.iadd, 1, 0), some (.iaload, 1, 0), some (.invokevirtual 165, 3, 0), none, none]
theorem jd_L_law_92 : jdRow cL_law 1472 jc_L_law_92 = true := by decide +kernel
def jc_L_law_93 : List JR := [some (.if_icmp .eq 94, 3, 1582), none, none, some (.iconst 0, 1, 0), some (.ireturn, 1, 0), some (.aload_n 1, 1, 0), some (.aload_n 0, 1, 0), some (.iload_n 3, 1, 0), some (.iconst 1, 1, 0), some (.iadd, 1, 0), some (.iaload, 1, 0), some (.aload_n 0, 1, 0), some (.iload_n 3, 1, 0), some (.iconst 2, 1, 0), some (.iadd, 1, 0), some (.iaload, 1, 0)]
theorem jd_L_law_93 : jdRow cL_law 1488 jc_L_law_93 = true := by decide +kernel
def jc_L_law_94 : List JR := [some (.invokevirtual 166, 3, 0), none, none, some (.aload_n 2, 1, 0), some (.aload_n 0, 1, 0), some (.iload_n 3, 1, 0), some (.iconst 1, 1, 0), some (.iadd, 1, 0), some (.iaload, 1, 0), some (.aload_n 0, 1, 0), some (.iload_n 3, 1, 0), some (.iconst 2, 1, 0), some (.iadd, 1, 0), some (.iaload, 1, 0), some (.invokevirtual 169, 3, 0), none]
theorem jd_L_law_94 : jdRow cL_law 1504 jc_L_law_94 = true := by decide +kernel
def jc_L_law_95 : List JR := [none, some (.if_icmp .eq 61, 3, 1582), none, none, some (.iconst 0, 1, 0), some (.ireturn, 1, 0), some (.aload_n 1, 1, 0), some (.aload_n 0, 1, 0), some (.iload_n 3, 1, 0), some (.iconst 1, 1, 0), some (.iadd, 1, 0), some (.iaload, 1, 0), some (.aload_n 0, 1, 0), some (.iload_n 3, 1, 0), some (.iconst 2, 1, 0), some (.iadd, 1, 0)]
theorem jd_L_law_95 : jdRow cL_law 1520 jc_L_law_95 = true := by decide +kernel
def jc_L_law_96 : List JR := [some (.iaload, 1, 0), some (.invokevirtual 170, 3, 0), none, none, some (.aload_n 2, 1, 0), some (.aload_n 0, 1, 0), some (.iload_n 3, 1, 0), some (.iconst 1, 1, 0), some (.iadd, 1, 0), some (.iaload, 1, 0), some (.aload_n 0, 1, 0), some (.iload_n 3, 1, 0), some (.iconst 2, 1, 0), some (.iadd, 1, 0), some (.iaload, 1, 0), some (.invokevirtual 173, 3, 0)]
theorem jd_L_law_96 : jdRow cL_law 1536 jc_L_law_96 = true := by decide +kernel
def jc_L_law_97 : List JR := [none, none, some (.if_icmp .eq 28, 3, 1582), none, none, some (.iconst 0, 1, 0), some (.ireturn, 1, 0), some (.aload_n 1, 1, 0), some (.aload_n 0, 1, 0), some (.iload_n 3, 1, 0), some (.iconst 1, 1, 0), some (.iadd, 1, 0), some (.iaload, 1, 0), some (.invokevirtual 174, 3, 0), none, none]
theorem jd_L_law_97 : jdRow cL_law 1552 jc_L_law_97 = true := by decide +kernel
def jc_L_law_98 : List JR := [some (.aload_n 2, 1, 0), some (.aload_n 0, 1, 0), some (.iload_n 3, 1, 0), some (.iconst 1, 1, 0), some (.iadd, 1, 0), some (.iaload, 1, 0), some (.invokevirtual 177, 3, 0), none, none, some (.if_icmp .eq 5, 3, 1582), none, none, some (.iconst 0, 1, 0), some (.ireturn, 1, 0), some (.iinc 3 8, 3, 1585), none]
theorem jd_L_law_98 : jdRow cL_law 1568 jc_L_law_98 = true := by decide +kernel
def jc_L_law_99 : List JR := [none, some (.goto (-1567), 3, 18), none, none, some (.iconst 1, 1, 0), some (.ireturn, 1, 0)]
theorem jd_L_law_99 : jdRow cL_law 1584 jc_L_law_99 = true := by decide +kernel
def jc_L_law : List (List JR) := [jc_L_law_0, jc_L_law_1, jc_L_law_2, jc_L_law_3, jc_L_law_4, jc_L_law_5, jc_L_law_6, jc_L_law_7, jc_L_law_8, jc_L_law_9, jc_L_law_10, jc_L_law_11, jc_L_law_12, jc_L_law_13, jc_L_law_14, jc_L_law_15, jc_L_law_16, jc_L_law_17, jc_L_law_18, jc_L_law_19, jc_L_law_20, jc_L_law_21, jc_L_law_22, jc_L_law_23, jc_L_law_24, jc_L_law_25, jc_L_law_26, jc_L_law_27, jc_L_law_28, jc_L_law_29, jc_L_law_30, jc_L_law_31, jc_L_law_32, jc_L_law_33, jc_L_law_34, jc_L_law_35, jc_L_law_36, jc_L_law_37, jc_L_law_38, jc_L_law_39, jc_L_law_40, jc_L_law_41, jc_L_law_42, jc_L_law_43, jc_L_law_44, jc_L_law_45, jc_L_law_46, jc_L_law_47, jc_L_law_48, jc_L_law_49, jc_L_law_50, jc_L_law_51, jc_L_law_52, jc_L_law_53, jc_L_law_54, jc_L_law_55, jc_L_law_56, jc_L_law_57, jc_L_law_58, jc_L_law_59, jc_L_law_60, jc_L_law_61, jc_L_law_62, jc_L_law_63, jc_L_law_64, jc_L_law_65, jc_L_law_66, jc_L_law_67, jc_L_law_68, jc_L_law_69, jc_L_law_70, jc_L_law_71, jc_L_law_72, jc_L_law_73, jc_L_law_74, jc_L_law_75, jc_L_law_76, jc_L_law_77, jc_L_law_78, jc_L_law_79, jc_L_law_80, jc_L_law_81, jc_L_law_82, jc_L_law_83, jc_L_law_84, jc_L_law_85, jc_L_law_86, jc_L_law_87, jc_L_law_88, jc_L_law_89, jc_L_law_90, jc_L_law_91, jc_L_law_92, jc_L_law_93, jc_L_law_94, jc_L_law_95, jc_L_law_96, jc_L_law_97, jc_L_law_98, jc_L_law_99]
def jm_L_law : JM := (jc_L_law, 19, 600000, 7302250, 1, 0, yL_law, cL_law, 4, (some .boolean))
theorem jd_L_law : jdOK cL_law 0 jc_L_law = true := jdcons jd_L_law_0 (jdcons jd_L_law_1 (jdcons jd_L_law_2 (jdcons jd_L_law_3 (jdcons jd_L_law_4 (jdcons jd_L_law_5 (jdcons jd_L_law_6 (jdcons jd_L_law_7 (jdcons jd_L_law_8 (jdcons jd_L_law_9 (jdcons jd_L_law_10 (jdcons jd_L_law_11 (jdcons jd_L_law_12 (jdcons jd_L_law_13 (jdcons jd_L_law_14 (jdcons jd_L_law_15 (jdcons jd_L_law_16 (jdcons jd_L_law_17 (jdcons jd_L_law_18 (jdcons jd_L_law_19 (jdcons jd_L_law_20 (jdcons jd_L_law_21 (jdcons jd_L_law_22 (jdcons jd_L_law_23 (jdcons jd_L_law_24 (jdcons jd_L_law_25 (jdcons jd_L_law_26 (jdcons jd_L_law_27 (jdcons jd_L_law_28 (jdcons jd_L_law_29 (jdcons jd_L_law_30 (jdcons jd_L_law_31 (jdcons jd_L_law_32 (jdcons jd_L_law_33 (jdcons jd_L_law_34 (jdcons jd_L_law_35 (jdcons jd_L_law_36 (jdcons jd_L_law_37 (jdcons jd_L_law_38 (jdcons jd_L_law_39 (jdcons jd_L_law_40 (jdcons jd_L_law_41 (jdcons jd_L_law_42 (jdcons jd_L_law_43 (jdcons jd_L_law_44 (jdcons jd_L_law_45 (jdcons jd_L_law_46 (jdcons jd_L_law_47 (jdcons jd_L_law_48 (jdcons jd_L_law_49 (jdcons jd_L_law_50 (jdcons jd_L_law_51 (jdcons jd_L_law_52 (jdcons jd_L_law_53 (jdcons jd_L_law_54 (jdcons jd_L_law_55 (jdcons jd_L_law_56 (jdcons jd_L_law_57 (jdcons jd_L_law_58 (jdcons jd_L_law_59 (jdcons jd_L_law_60 (jdcons jd_L_law_61 (jdcons jd_L_law_62 (jdcons jd_L_law_63 (jdcons jd_L_law_64 (jdcons jd_L_law_65 (jdcons jd_L_law_66 (jdcons jd_L_law_67 (jdcons jd_L_law_68 (jdcons jd_L_law_69 (jdcons jd_L_law_70 (jdcons jd_L_law_71 (jdcons jd_L_law_72 (jdcons jd_L_law_73 (jdcons jd_L_law_74 (jdcons jd_L_law_75 (jdcons jd_L_law_76 (jdcons jd_L_law_77 (jdcons jd_L_law_78 (jdcons jd_L_law_79 (jdcons jd_L_law_80 (jdcons jd_L_law_81 (jdcons jd_L_law_82 (jdcons jd_L_law_83 (jdcons jd_L_law_84 (jdcons jd_L_law_85 (jdcons jd_L_law_86 (jdcons jd_L_law_87 (jdcons jd_L_law_88 (jdcons jd_L_law_89 (jdcons jd_L_law_90 (jdcons jd_L_law_91 (jdcons jd_L_law_92 (jdcons jd_L_law_93 (jdcons jd_L_law_94 (jdcons jd_L_law_95 (jdcons jd_L_law_96 (jdcons jd_L_law_97 (jdcons jd_L_law_98 (jdcons jd_L_law_99 (rfl))))))))))))))))))))))))))))))))))))))))))))))))))))))))))))))))))))))))))))))))))))))))))))))))))))
def jMT : List (List (Option JM)) := [[some jm_X11_init, some jm_X3_init, some jm_X3_logarithm, some jm_X3_folded, some jm_X2_init, some jm_X9_init, some jm_X9_codeOf, some jm_J0_length_8abf5, some jm_J0_coder_7d493, some jm_J0_charAt_5068e, some jm_J0_isLatin1_aae02, some jm_J1_charAt_3b067, some jm_J0_checkIndex_df160, some jm_J3_checkIndex_8e157, some jm_J2_charAt_3b067, some jm_J2_checkIndex_2214a],
  [some jm_J2_length_9d52b, some jm_J2_getChar_3b067, some jm_X9_withLetter, some jm_X5_init, some jm_X7_init, some jm_X10_init, some jm_X4_init, some jm_X8_init, some jm_X3_placesFor, some jm_X1_init, some jm_X0_init, some jm_X12_init, some jm_X11_feed, some jm_X9_hasRoomFor, some jm_X9_append, some jm_X12_feed],
  [some jm_X12_byteRow, some jm_X11_back, some jm_X12_back, some jm_X11_read, some jm_X5_readFrom, some jm_X9_rewind, some jm_X9_nextKind, some jm_X9_byteAt, some jm_X9_isBlank, some jm_X9_isLetter, some jm_X9_wordKind, some jm_X9_isDigit, some jm_X9_numberKind, some jm_X9_digitsEnd, some jm_X9_readWhole, some jm_X9_readDigits],
  [some jm_X9_signKind, some jm_X5_takeToken, some jm_X5_follower, some jm_X5_stepFollower, some jm_X5_openToken, some jm_X5_kindOf, some jm_X5_hasToken, some jm_X5_noteFault, some jm_X5_nameNumber, some jm_X5_setSecond, some jm_X5_joinTokens, some jm_X5_setOpen, some jm_X5_checkAtoms, some jm_X5_firstOf, some jm_X5_startOf, some jm_X5_isWrong],
  [some jm_X5_secondOf, some jm_X7_forgetValues, some jm_X7_untell, some jm_X12_read, some jm_X12_token, some jm_X12_isLetter, some jm_X12_at, some jm_X12_wordToken, some jm_X12_keyword, some jm_X12_isDigit, some jm_X12_numToken, some jm_X12_text, some jm_X12_stop, some jm_X12_letTold, some jm_X12_pass, some jm_X12_named],
  [some jm_X12_newStep, some jm_X12_signs, some jm_X12_isSign, some jm_X12_atomTold, some jm_X12_numbered, some jm_X12_fault, some jm_X12_repeatTold, some jm_X12_ifTold, some jm_X12_isWord, some jm_X12_elseTold, some jm_X12_endTold, some jm_X11_place, some jm_X12_place, some jm_X11_units, some jm_X3_unitsOf, some jm_X12_units],
  [some jm_X12_isDigits, some jm_X11_rule, some jm_X6_init, some jm_X12_rule, some jm_X11_scale, some jm_X11_ruleAt, some jm_X6_addScale, some jm_X12_scale, some jm_X12_isRule, some jm_X11_flaw, some jm_X11_scaleAt, some jm_X6_scaleAt, some jm_X8_setFlaw, some jm_X12_flaw, some jm_X12_isScale, some jm_X11_steps],
  [some jm_X12_steps, some jm_X11_cut, some jm_X8_hasMark, some jm_X8_markFor, some jm_X8_cutPlace, some jm_X12_cut, some jm_X12_isMark, some jm_X12_cutOf, some jm_X12_trueOf, some jm_X12_stretchOf, some jm_X11_seen, some jm_X8_lookAt, some jm_J9_max, some jm_J9_abs, some jm_X8_firstFrom, some jm_X8_sighted],
  [some jm_X8_sightedMark, some jm_X8_decadeOf, some jm_X8_digitsOf, some jm_X12_seen, some jm_X12_see, some jm_X12_apart, some jm_X11_take, some jm_X2_pickUp, some jm_X2_setAll, some jm_X12_take, some jm_X11_hair, some jm_X2_scaleInHand, some jm_X11_isNumber, some jm_X8_markOfNumber, some jm_J9_floorMod_7cf53, some jm_X2_bringHair],
  [some jm_X2_putHair, some jm_X12_hair, some jm_X12_isNumber, some jm_X12_decade, some jm_X12_hairTo, some jm_X11_slide, some jm_X2_bringSlide, some jm_X2_putSlide, some jm_X12_slide, some jm_X12_slideTo, some jm_X11_index, some jm_X12_index, some jm_X11_look, some jm_X2_shows, some jm_X12_look, some jm_X12_looks],
  [some jm_X11_state, some jm_X12_state, some jm_X11_run, some jm_X7_perform, some jm_X2_startCounting, some jm_X7_beginLet, some jm_X7_countStep, some jm_X7_endLet, some jm_X7_calculate, some jm_X7_onBody, some jm_X6_firstLike, some jm_X2_startWith, some jm_X2_judge, some jm_X7_onSlide, some jm_X2_divide, some jm_X2_multiply],
  [some jm_X7_atomAt, some jm_X10_setAlike, some jm_X10_setSighted, some jm_X10_isBeyond, some jm_J9_min, some jm_X7_beginTurns, some jm_X7_choose, some jm_X10_isLess, some jm_X10_isBelow, some jm_X10_isSame, some jm_X10_isSure, some jm_X7_endTurn, some jm_X7_raise, some jm_X7_scaleToSet, some jm_X7_scaleToRead, some jm_X7_placeToRead],
  [some jm_J9_floorDiv_7cf53, some jm_X7_lookAcross, some jm_X10_looseBy, some jm_X3_reachOf, some jm_X12_run, some jm_X12_goes, some jm_X12_counts, some jm_X12_breaks, some jm_X12_lets, some jm_X12_power, some jm_X12_asked, some jm_X12_find, some jm_X12_hairBy, some jm_X12_loose, some jm_X12_reachAt, some jm_X12_reach],
  [some jm_X12_isHeld, some jm_X12_lookBy, some jm_X12_floored, some jm_X12_overBy, some jm_X12_slideBy, some jm_X12_timesBy, some jm_X12_holds, some jm_X12_isLess, some jm_X12_alike, some jm_X11_broke, some jm_X12_broke, some jm_X11_where, some jm_X12_where, some jm_X11_moves, some jm_X12_moves, some jm_X11_value],
  [some jm_X7_keptPart, some jm_X10_partAt, some jm_X12_value, some jm_X11_factor, some jm_X4_addFactor, some jm_X12_factor, some jm_X11_clear, some jm_X4_removeAll, some jm_X12_clear, some jm_X11_fewest, some jm_X4_settle, some jm_X4_hasTimes, some jm_X4_tryOrder, some jm_X4_toNextTrial, some jm_X4_swapTrials, some jm_X12_fewest],
  [some jm_X12_ordered, some jm_X12_tries, some jm_X12_turns, some jm_X12_swap, some jm_X11_order, some jm_X4_factorInOrder, some jm_X12_order, some jm_X11_step, some jm_X11_isGap, some jm_X8_partStep, some jm_X8_isWideEnough, some jm_X8_truePlace, some jm_X12_step, some jm_X12_divided, some jm_X12_stepOf, some jm_X12_isFar],
  [some jm_X11_marks, some jm_X8_dividedMarks, some jm_X12_marks, some jm_X11_chart, some jm_X1_draw, some jm_X12_chart, some jm_X11_thread, some jm_X1_middleReach, some jm_X3_nearestMark, some jm_X12_thread, some jm_X11_design, some jm_X1_firstFor, some jm_X1_middleFor, some jm_X12_design, some jm_X11_shown, some jm_X0_slot],
  [some jm_X8_stretchOf, some jm_X0_addShown, some jm_X12_shown, some jm_X11_strike, some jm_X0_addStrike, some jm_X12_strike, some jm_X11_guesses, some jm_X11_weighed, some jm_X0_weigh, some jm_X0_noteKnown, some jm_X0_weighFlaws, some jm_X0_flawAt, some jm_X0_fitting, some jm_X12_guesses, some jm_X12_isKnown, some jm_X12_keep],
  [some jm_X12_fitting, some jm_X12_fits, some jm_X12_guessedAt, some jm_X11_guess, some jm_X0_fittingAt, some jm_X0_guessPart, some jm_X12_guess, some jm_X11_sure, some jm_X0_blamedScale, some jm_X12_sure, some jm_X11_odd, some jm_X0_oddOne, some jm_X12_odd, some jm_X11_count, some jm_X12_count, some jm_L_law]]
theorem jdRow_at {b : ByteArray} : ∀ {l : List JR} {pc i : Nat} {q : Instr × Nat × Nat}, jdRow b pc l = true → l[i]? = some (some q) → decode b (pc + i) = .ok (q.1, q.2.1) ∧ jtg (pc + i) q.1 q.2.2 = true ∧ jln q.1 q.2.1 (pc + i) q.2.2 = true
  | [], _, _, _, _, h => by simp at h
  | none :: r, pc, i, q, h, hi => by
    cases i with
    | zero => simp at hi
    | succ i =>
      have := jdRow_at (pc := pc + 1) (i := i) (q := q) (by simpa [jdRow] using h) (by simpa using hi)
      rwa [show pc + 1 + i = pc + (i + 1) by omega] at this
  | some q0 :: r, pc, i, q, h, hi => by
    simp only [jdRow, Bool.and_eq_true, decide_eq_true_eq] at h
    cases i with
    | zero =>
      simp at hi
      subst hi
      exact h.1
    | succ i =>
      have := jdRow_at (pc := pc + 1) (i := i) (q := q) h.2 (by simpa using hi)
      rwa [show pc + 1 + i = pc + (i + 1) by omega] at this
theorem jdOK_at {b : ByteArray} : ∀ {t : List (List JR)} {pc a i : Nat} {l : List JR} {q : Instr × Nat × Nat}, jdOK b pc t = true → t[a]? = some l → l[i]? = some (some q) → decode b (pc + 16 * a + i) = .ok (q.1, q.2.1) ∧ jtg (pc + 16 * a + i) q.1 q.2.2 = true ∧ jln q.1 q.2.1 (pc + 16 * a + i) q.2.2 = true
  | [], _, _, _, _, _, _, h, _ => by simp at h
  | l0 :: r, pc, a, i, l, q, h, ha, hi => by
    simp only [jdOK, Bool.and_eq_true] at h
    cases a with
    | zero =>
      simp at ha
      subst ha
      exact jdRow_at h.1 hi
    | succ a =>
      have := jdOK_at (pc := pc + 16) (a := a) h.2 (by simpa using ha) hi
      rwa [show pc + 16 + 16 * a + i = pc + 16 * (a + 1) + i by omega] at this
theorem jtw_some {α : Type} {t : List (List (Option α))} {i : Nat} {x : α} (h : jtw t i = some x) : ∃ l, t[i / 16]? = some l ∧ l[i % 16]? = some (some x) := by
  unfold jtw at h
  split at h
  next l hl =>
    split at h
    next r hr => exact ⟨l, hl, by rw [hr, h]⟩
    next => cases h
  next => cases h
theorem jd_at {b : ByteArray} {t : List (List JR)} {pc : Nat} {q : Instr × Nat × Nat} (h : jdOK b 0 t = true) (hq : jtw t pc = some q) : decode b pc = .ok (q.1, q.2.1) ∧ jtg pc q.1 q.2.2 = true ∧ jln q.1 q.2.1 pc q.2.2 = true := by
  obtain ⟨l, h1, h2⟩ := jtw_some hq
  have := jdOK_at h h1 h2
  rwa [show 0 + 16 * (pc / 16) + pc % 16 = pc by omega] at this
/-- a table of two storeys, all of whose entries are sound -/
def jal {α : Type} (P : Nat → α → Prop) : Nat → List (Option α) → Prop
  | _, [] => True
  | i, none :: r => jal P (i + 1) r
  | i, some x :: r => P i x ∧ jal P (i + 1) r
def jall {α : Type} (P : Nat → α → Prop) : Nat → List (List (Option α)) → Prop
  | _, [] => True
  | i, l :: r => jal P i l ∧ jall P (i + 16) r
theorem jal_at {α : Type} {P : Nat → α → Prop} : ∀ {l : List (Option α)} {i k : Nat} {x : α}, jal P i l → l[k]? = some (some x) → P (i + k) x
  | [], _, _, _, _, h => by simp at h
  | none :: r, i, k, x, h, hk => by
    cases k with
    | zero => simp at hk
    | succ k =>
      have := jal_at (i := i + 1) (k := k) (x := x) h (by simpa using hk)
      rwa [show i + 1 + k = i + (k + 1) by omega] at this
  | some q :: r, i, k, x, h, hk => by
    cases k with
    | zero => simp at hk; subst hk; exact h.1
    | succ k =>
      have := jal_at (i := i + 1) (k := k) (x := x) h.2 (by simpa using hk)
      rwa [show i + 1 + k = i + (k + 1) by omega] at this
theorem jall_at {α : Type} {P : Nat → α → Prop} : ∀ {t : List (List (Option α))} {i a k : Nat} {l : List (Option α)} {x : α}, jall P i t → t[a]? = some l → l[k]? = some (some x) → P (i + 16 * a + k) x
  | [], _, _, _, _, _, _, h, _ => by simp at h
  | l0 :: r, i, a, k, l, x, h, ha, hk => by
    cases a with
    | zero => simp at ha; subst ha; exact jal_at h.1 hk
    | succ a =>
      have := jall_at (i := i + 16) (a := a) h.2 (by simpa using ha) hk
      rwa [show i + 16 + 16 * a + k = i + 16 * (a + 1) + k by omega] at this
theorem jall_tw {α : Type} {P : Nat → α → Prop} {t : List (List (Option α))} {i : Nat} {x : α} (h : jall P 0 t) (hx : jtw t i = some x) : P i x := by
  obtain ⟨l, h1, h2⟩ := jtw_some hx
  have := jall_at h h1 h2
  rwa [show 0 + 16 * (i / 16) + i % 16 = i by omega] at this

