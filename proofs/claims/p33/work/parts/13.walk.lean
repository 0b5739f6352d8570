/-! FROM BYTES TO STEPS: what each instruction is as a step; the walk vc over them is sound -/
def lkT : Nat → List ((Nat × Nat) × (Nat → XS))
  | 0 => lk_0
  | 1 => lk_1
  | 2 => lk_2
  | 3 => lk_3
  | 4 => lk_4
  | 5 => lk_5
  | 6 => lk_6
  | 7 => lk_7
  | 8 => lk_8
  | 9 => lk_9
  | 10 => lk_10
  | 12 => lk_12
  | 13 => lk_13
  | 14 => lk_14
  | 15 => lk_15
  | 16 => lk_16
  | _ => []
def finT : Nat → List Nat
  | 0 => fin_0
  | 1 => fin_1
  | 2 => fin_2
  | 3 => fin_3
  | 4 => fin_4
  | 5 => fin_5
  | 6 => fin_6
  | 7 => fin_7
  | 8 => fin_8
  | 9 => fin_9
  | 10 => fin_10
  | 12 => fin_12
  | 13 => fin_13
  | 14 => fin_14
  | 15 => fin_15
  | 16 => fin_16
  | _ => []
def cnm : Nat → String
  | 0 => "LinesDownFilm$Descent"
  | 1 => "LinesDownFilm$Gate"
  | 2 => "LinesDownFilm$Joining"
  | 3 => "LinesDownFilm$Machine"
  | 4 => "LinesDownFilm$Page"
  | 5 => "LinesDownFilm$Print"
  | 6 => "LinesDownFilm$Roller"
  | 7 => "LinesDownFilm$Shelf"
  | 8 => "LinesDownFilm$Toothed"
  | 9 => "LinesDownFilm$Wound"
  | 10 => "LinesDownFilm"
  | 12 => "LinesDownFilm$Part"
  | 13 => "LinesDownFilmLaw"
  | 14 => "java/lang/Integer"
  | 15 => "java/lang/Long"
  | 16 => "java/lang/Math"
  | _ => ""
theorem lkT_ok : ∀ (c : Nat) (e : (Nat × Nat) × (Nat → XS)), e ∈ lkT c → EOK (cnm c) (finT c) e
  | 0, e, h => lo_0 e h
  | 1, e, h => lo_1 e h
  | 2, e, h => lo_2 e h
  | 3, e, h => lo_3 e h
  | 4, e, h => lo_4 e h
  | 5, e, h => lo_5 e h
  | 6, e, h => lo_6 e h
  | 7, e, h => lo_7 e h
  | 8, e, h => lo_8 e h
  | 9, e, h => lo_9 e h
  | 10, e, h => lo_10 e h
  | 12, e, h => lo_12 e h
  | 13, e, h => lo_13 e h
  | 14, e, h => lo_14 e h
  | 15, e, h => lo_15 e h
  | 16, e, h => lo_16 e h
  | _ + 17, _, h => absurd h List.not_mem_nil
theorem look2_mem {α : Type} : ∀ {F : List ((Nat × Nat) × α)} {a : Nat × Nat} {b : α}, F.lookup a = some b → (a, b) ∈ F
  | [], _, _, h => by simp at h
  | (x, y) :: r, a, b, h => by
    rw [List.lookup_cons] at h
    split at h
    · rename_i c
      cases h
      rw [eq_of_beq c]
      exact List.mem_cons_self
    · exact List.mem_cons_of_mem _ (look2_mem h)
def lkf (c k i : Nat) (nx : Nat) : XS := match (lkT c).lookup (k, i) with
  | some f => f nx
  | none => sBad
theorem lkf_ok {M : MR} {pc k i : Nat} (ho : (mN M).cls = cnm (mC M)) (hd : decode (mB M) pc = .ok (insK k i, lenK k)) (hf : k = 1 → i ∈ finT (mC M) → (mN M).name = "<init>") : SOK M pc (lkf (mC M) k i (pc + lenK k)) := by
  unfold lkf
  split
  · rename_i f hl
    exact lkT_ok _ _ (look2_mem hl) M pc ho hd hf
  · exact ok_bad
def zI : (Nat → Int32) ⊕ (Nat → Int64) ⊕ (Nat → UInt32) ⊕ (Nat → UInt64) ⊕ (Nat → Option Nat) := .inl (fun _ => 0)
def zL : (Nat → Int32) ⊕ (Nat → Int64) ⊕ (Nat → UInt32) ⊕ (Nat → UInt64) ⊕ (Nat → Option Nat) := .inr (.inl (fun _ => 0))
def tr (M : MR) (pc : Nat) : Instr → XS
  | .iconst n => sPush (.int (Int32.ofInt n)) (pc + 1)
  | .bipush n => sPush (.int (Int8.ofInt n).toInt32) (pc + 2)
  | .sipush n => sPush (.int (Int16.ofInt n).toInt32) (pc + 3)
  | .lconst n => sPush (.long (Int64.ofNat (n : Nat))) (pc + 1)
  | .aconst_null => sPush .null (pc + 1)
  | .iload_n k => sIld (k : Nat) (pc + 1)
  | .iload i => sIld i (pc + 2)
  | .lload_n k => sLld (k : Nat) (pc + 1)
  | .lload i => sLld i (pc + 2)
  | .aload_n k => sAld (k : Nat) (pc + 1)
  | .aload i => sAld i (pc + 2)
  | .istore_n k => sIst (k : Nat) (pc + 1)
  | .istore i => sIst i (pc + 2)
  | .lstore_n k => sLst (k : Nat) (pc + 1)
  | .lstore i => sLst i (pc + 2)
  | .astore_n k => sAst (k : Nat) (pc + 1)
  | .astore i => sAst i (pc + 2)
  | .iinc i n => sInc i n (pc + 3)
  | .iadd => sBI (fun x y => x + y) (pc + 1)
  | .isub => sBI (fun x y => x - y) (pc + 1)
  | .imul => sBI (fun x y => x * y) (pc + 1)
  | .iand => sBI (fun x y => x &&& y) (pc + 1)
  | .ior => sBI (fun x y => x ||| y) (pc + 1)
  | .ixor => sBI (fun x y => x ^^^ y) (pc + 1)
  | .ishl => sBI (fun x y => x <<< (y &&& 31)) (pc + 1)
  | .ishr => sBI (fun x y => x >>> (y &&& 31)) (pc + 1)
  | .iushr => sBI (fun x y => (x.toUInt32 >>> (y.toUInt32 &&& Int32.toUInt32 31)).toInt32) (pc + 1)
  | .ladd => sBL (fun x y => x + y) (pc + 1)
  | .lsub => sBL (fun x y => x - y) (pc + 1)
  | .lmul => sBL (fun x y => x * y) (pc + 1)
  | .land => sBL (fun x y => x &&& y) (pc + 1)
  | .lor => sBL (fun x y => x ||| y) (pc + 1)
  | .lxor => sBL (fun x y => x ^^^ y) (pc + 1)
  | .idiv => sDI (fun x y => x / y) (pc + 1)
  | .irem => sDI (fun x y => x - x / y * y) (pc + 1)
  | .ldiv => sDL (fun x y => x / y) (pc + 1)
  | .lrem => sDL (fun x y => x - x / y * y) (pc + 1)
  | .lshl => sSL (fun x y => x <<< (y.toInt64 &&& 63)) (pc + 1)
  | .lushr => sSL (fun x y => (x.toUInt64 >>> (y.toInt64.toUInt64 &&& Int64.toUInt64 63)).toInt64) (pc + 1)
  | .ineg => sUI (fun x => -x) (pc + 1)
  | .i2c => sUI (fun x => (x.toUInt32 % 65536).toInt32) (pc + 1)
  | .i2l => sIL (pc + 1)
  | .l2i => sLI (pc + 1)
  | .lcmp => sCmp (pc + 1)
  | .dup => sDup (pc + 1)
  | .dup2 => sDup2 (pc + 1)
  | .goto o => sGo ((pc : Int) + o).toNat
  | .ifCond c o => sIf c ((pc : Int) + o).toNat (pc + 3)
  | .if_icmp c o => sCm c ((pc : Int) + o).toNat (pc + 3)
  | .ifnull o => sNul ((pc : Int) + o).toNat (pc + 3)
  | .ifnonnull o => sNul (pc + 3) ((pc : Int) + o).toNat
  | .iaload => sIal (pc + 1)
  | .caload => sCal (pc + 1)
  | .aaload => sAal (pc + 1)
  | .iastore => sIas (pc + 1)
  | .castore => sCas (pc + 1)
  | .aastore => sAas (pc + 1)
  | .arraylength => sLen (pc + 1)
  | .lreturn => sLret
  | .return_ => sVret
  | .getfield i => lkf (mC M) 0 i (pc + 3)
  | .invokestatic i => lkf (mC M) 2 i (pc + 3)
  | .invokespecial i => lkf (mC M) 3 i (pc + 3)
  | .invokevirtual i => lkf (mC M) 4 i (pc + 3)
  | .new i => lkf (mC M) 5 i (pc + 3)
  | .anewarray i => lkf (mC M) 6 i (pc + 3)
  | .instanceof i => lkf (mC M) 7 i (pc + 3)
  | .ldc i => lkf (mC M) 8 i (pc + 2)
  | .ldc_w i => lkf (mC M) 9 i (pc + 3)
  | .ldc2_w i => lkf (mC M) 10 i (pc + 3)
  | .putfield i => lkf (mC M) 1 i (pc + 3)
  | .multianewarray i 2 => lkf (mC M) 11 i (pc + 4)
  | .newarray .int => sNar 0 zI (pc + 2)
  | .newarray .char => sNar 1 zI (pc + 2)
  | .tableswitch dflt lo _ offs => sSw (twc pc lo offs.toList) ((pc : Int) + dflt).toNat
  | .lookupswitch dflt ps => sSw (lwc pc ps.toList) ((pc : Int) + dflt).toNat
  | .ireturn => match mR M with
    | some ty => sIret ty
    | none => sBad
  | .areturn => match mR M with
    | some (.object _) => sAret
    | _ => sBad
  | _ => sBad
def iok (M : MR) (q : Nat × Instr × Nat) : Bool := match q with
  | (_, .iconst n, len) => decide (len = 1)
  | (_, .bipush n, len) => decide (len = 2)
  | (_, .sipush n, len) => decide (len = 3)
  | (_, .lconst n, len) => decide (len = 1)
  | (_, .aconst_null, len) => decide (len = 1)
  | (_, .iload_n k, len) => decide (len = 1)
  | (_, .iload i, len) => decide (len = 2)
  | (_, .lload_n k, len) => decide (len = 1)
  | (_, .lload i, len) => decide (len = 2)
  | (_, .aload_n k, len) => decide (len = 1)
  | (_, .aload i, len) => decide (len = 2)
  | (_, .istore_n k, len) => decide (len = 1) && decide ((k : Nat) < mL M)
  | (_, .istore i, len) => decide (len = 2) && decide (i < mL M)
  | (_, .lstore_n k, len) => decide (len = 1) && decide ((k : Nat) + 1 < mL M)
  | (_, .lstore i, len) => decide (len = 2) && decide (i + 1 < mL M)
  | (_, .astore_n k, len) => decide (len = 1) && decide ((k : Nat) < mL M)
  | (_, .astore i, len) => decide (len = 2) && decide (i < mL M)
  | (_, .iinc i n, len) => decide (len = 3) && decide (i < mL M)
  | (_, .iadd, len) => decide (len = 1)
  | (_, .isub, len) => decide (len = 1)
  | (_, .imul, len) => decide (len = 1)
  | (_, .iand, len) => decide (len = 1)
  | (_, .ior, len) => decide (len = 1)
  | (_, .ixor, len) => decide (len = 1)
  | (_, .ishl, len) => decide (len = 1)
  | (_, .ishr, len) => decide (len = 1)
  | (_, .iushr, len) => decide (len = 1)
  | (_, .ladd, len) => decide (len = 1)
  | (_, .lsub, len) => decide (len = 1)
  | (_, .lmul, len) => decide (len = 1)
  | (_, .land, len) => decide (len = 1)
  | (_, .lor, len) => decide (len = 1)
  | (_, .lxor, len) => decide (len = 1)
  | (_, .idiv, len) => decide (len = 1)
  | (_, .irem, len) => decide (len = 1)
  | (_, .ldiv, len) => decide (len = 1)
  | (_, .lrem, len) => decide (len = 1)
  | (_, .lshl, len) => decide (len = 1)
  | (_, .lushr, len) => decide (len = 1)
  | (_, .ineg, len) => decide (len = 1)
  | (_, .i2c, len) => decide (len = 1)
  | (_, .i2l, len) => decide (len = 1)
  | (_, .l2i, len) => decide (len = 1)
  | (_, .lcmp, len) => decide (len = 1)
  | (_, .dup, len) => decide (len = 1)
  | (_, .dup2, len) => decide (len = 1)
  | (pc, .goto o, len) => decide (len = 3) && decide (0 ≤ (pc : Int) + o)
  | (pc, .ifCond c o, len) => decide (len = 3) && decide (0 ≤ (pc : Int) + o)
  | (pc, .if_icmp c o, len) => decide (len = 3) && decide (0 ≤ (pc : Int) + o)
  | (pc, .ifnull o, len) => decide (len = 3) && decide (0 ≤ (pc : Int) + o)
  | (pc, .ifnonnull o, len) => decide (len = 3) && decide (0 ≤ (pc : Int) + o)
  | (_, .iaload, len) => decide (len = 1)
  | (_, .caload, len) => decide (len = 1)
  | (_, .aaload, len) => decide (len = 1)
  | (_, .iastore, len) => decide (len = 1)
  | (_, .castore, len) => decide (len = 1)
  | (_, .aastore, len) => decide (len = 1)
  | (_, .arraylength, len) => decide (len = 1)
  | (_, .lreturn, len) => decide (len = 1) && decide (mR M = some .long)
  | (_, .return_, len) => decide (len = 1) && decide (mR M = none)
  | (_, .getfield i, len) => decide (len = 3)
  | (_, .invokestatic i, len) => decide (len = 3)
  | (_, .invokespecial i, len) => decide (len = 3)
  | (_, .invokevirtual i, len) => decide (len = 3)
  | (_, .new i, len) => decide (len = 3)
  | (_, .anewarray i, len) => decide (len = 3)
  | (_, .instanceof i, len) => decide (len = 3)
  | (_, .ldc i, len) => decide (len = 2)
  | (_, .ldc_w i, len) => decide (len = 3)
  | (_, .ldc2_w i, len) => decide (len = 3)
  | (_, .putfield i, n) => decide (n = 3) && (decide (i ∉ finT (mC M)) || decide ((mN M).name = "<init>"))
  | (_, .multianewarray _ k, n) => decide (n = 4) && decide (k = 2)
  | (_, .newarray _, n) => decide (n = 2)
  | (pc, .tableswitch dflt lo hi offs, _) => decide (-2147483648 ≤ lo) && (decide (hi < 2147483648) && (decide (lo + offs.toList.length = hi + 1) && (decide (0 ≤ (pc : Int) + dflt) && offs.toList.all (fun o => decide (0 ≤ (pc : Int) + o)))))
  | (pc, .lookupswitch dflt ps, _) => (ps.toList.zip (ps.toList.drop 1)).all (fun (a, next) => a.1 < next.1) && (ps.toList.all (fun q => decide (-2147483648 ≤ q.1 ∧ q.1 < 2147483648)) && (decide (0 ≤ (pc : Int) + dflt) && ps.toList.all (fun q => decide (0 ≤ (pc : Int) + q.2))))
  | (_, .ireturn, n) => decide (n = 1)
  | (_, .areturn, n) => decide (n = 1)
  | _ => true
def MOK (M : MR) : Prop := (∀ q ∈ mT M, decode (mB M) q.1 = .ok q.2) ∧ (mT M).all (iok M) = true ∧ (mN M).cls = cnm (mC M)
theorem wA_int : Cond.arrayClass .int ∈ xTB := xTB_mem (tj_1 (List.mem_of_getElem? (i := 57) (by decide +kernel))) rfl
theorem wA_char : Cond.arrayClass .char ∈ xTB := xTB_mem (tj_1 (List.mem_of_getElem? (i := 56) (by decide +kernel))) rfl
theorem tr_ok {M : MR} (hM0 : MOK M) {pc n : Nat} {i : Instr} (hq : (pc, i, n) ∈ mT M) : SOK M pc (tr M pc i) := by
  have hd := hM0.1 _ hq
  have hi := List.all_eq_true.mp hM0.2.1 _ hq
  have hM : True ∧ True ∧ (mN M).cls = cnm (mC M) := ⟨trivial, trivial, hM0.2.2⟩
  cases i

  case iconst n =>
    have hn := of_decide_eq_true hi
    subst hn
    exact ok_iconst hd
  case bipush n =>
    have hn := of_decide_eq_true hi
    subst hn
    exact ok_bipush hd
  case sipush n =>
    have hn := of_decide_eq_true hi
    subst hn
    exact ok_sipush hd
  case lconst n =>
    have hn := of_decide_eq_true hi
    subst hn
    exact ok_lconst hd
  case aconst_null =>
    have hn := of_decide_eq_true hi
    subst hn
    exact ok_null hd
  case iload_n k =>
    have hn := of_decide_eq_true hi
    subst hn
    exact ok_iload_n hd
  case iload i =>
    have hn := of_decide_eq_true hi
    subst hn
    exact ok_iload hd
  case lload_n k =>
    have hn := of_decide_eq_true hi
    subst hn
    exact ok_lload_n hd
  case lload i =>
    have hn := of_decide_eq_true hi
    subst hn
    exact ok_lload hd
  case aload_n k =>
    have hn := of_decide_eq_true hi
    subst hn
    exact ok_aload_n hd
  case aload i =>
    have hn := of_decide_eq_true hi
    subst hn
    exact ok_aload hd
  case istore_n k =>
    obtain ⟨hn, hx⟩ := Bool.and_eq_true_iff.mp hi
    have hn := of_decide_eq_true hn
    have hx := of_decide_eq_true hx
    subst hn
    exact ok_istore_n hd hx
  case istore i =>
    obtain ⟨hn, hx⟩ := Bool.and_eq_true_iff.mp hi
    have hn := of_decide_eq_true hn
    have hx := of_decide_eq_true hx
    subst hn
    exact ok_istore hd hx
  case lstore_n k =>
    obtain ⟨hn, hx⟩ := Bool.and_eq_true_iff.mp hi
    have hn := of_decide_eq_true hn
    have hx := of_decide_eq_true hx
    subst hn
    exact ok_lstore_n hd hx
  case lstore i =>
    obtain ⟨hn, hx⟩ := Bool.and_eq_true_iff.mp hi
    have hn := of_decide_eq_true hn
    have hx := of_decide_eq_true hx
    subst hn
    exact ok_lstore hd hx
  case astore_n k =>
    obtain ⟨hn, hx⟩ := Bool.and_eq_true_iff.mp hi
    have hn := of_decide_eq_true hn
    have hx := of_decide_eq_true hx
    subst hn
    exact ok_astore_n hd hx
  case astore i =>
    obtain ⟨hn, hx⟩ := Bool.and_eq_true_iff.mp hi
    have hn := of_decide_eq_true hn
    have hx := of_decide_eq_true hx
    subst hn
    exact ok_astore hd hx
  case iinc i n =>
    obtain ⟨hn, hx⟩ := Bool.and_eq_true_iff.mp hi
    have hn := of_decide_eq_true hn
    have hx := of_decide_eq_true hx
    subst hn
    exact ok_iinc hd hx
  case iadd =>
    have hn := of_decide_eq_true hi
    subst hn
    exact ok_iadd hd
  case isub =>
    have hn := of_decide_eq_true hi
    subst hn
    exact ok_isub hd
  case imul =>
    have hn := of_decide_eq_true hi
    subst hn
    exact ok_imul hd
  case iand =>
    have hn := of_decide_eq_true hi
    subst hn
    exact ok_iand hd
  case ior =>
    have hn := of_decide_eq_true hi
    subst hn
    exact ok_ior hd
  case ixor =>
    have hn := of_decide_eq_true hi
    subst hn
    exact ok_ixor hd
  case ishl =>
    have hn := of_decide_eq_true hi
    subst hn
    exact ok_ishl hd
  case ishr =>
    have hn := of_decide_eq_true hi
    subst hn
    exact ok_ishr hd
  case iushr =>
    have hn := of_decide_eq_true hi
    subst hn
    exact ok_iushr hd
  case ladd =>
    have hn := of_decide_eq_true hi
    subst hn
    exact ok_ladd hd
  case lsub =>
    have hn := of_decide_eq_true hi
    subst hn
    exact ok_lsub hd
  case lmul =>
    have hn := of_decide_eq_true hi
    subst hn
    exact ok_lmul hd
  case land =>
    have hn := of_decide_eq_true hi
    subst hn
    exact ok_land hd
  case lor =>
    have hn := of_decide_eq_true hi
    subst hn
    exact ok_lor hd
  case lxor =>
    have hn := of_decide_eq_true hi
    subst hn
    exact ok_lxor hd
  case idiv =>
    have hn := of_decide_eq_true hi
    subst hn
    exact ok_idiv hd
  case irem =>
    have hn := of_decide_eq_true hi
    subst hn
    exact ok_irem hd
  case ldiv =>
    have hn := of_decide_eq_true hi
    subst hn
    exact ok_ldiv hd
  case lrem =>
    have hn := of_decide_eq_true hi
    subst hn
    exact ok_lrem hd
  case lshl =>
    have hn := of_decide_eq_true hi
    subst hn
    exact ok_lshl hd
  case lushr =>
    have hn := of_decide_eq_true hi
    subst hn
    exact ok_lushr hd
  case ineg =>
    have hn := of_decide_eq_true hi
    subst hn
    exact ok_ineg hd
  case i2c =>
    have hn := of_decide_eq_true hi
    subst hn
    exact ok_i2c hd
  case i2l =>
    have hn := of_decide_eq_true hi
    subst hn
    exact ok_i2l hd
  case l2i =>
    have hn := of_decide_eq_true hi
    subst hn
    exact ok_l2i hd
  case lcmp =>
    have hn := of_decide_eq_true hi
    subst hn
    exact ok_lcmp hd
  case dup =>
    have hn := of_decide_eq_true hi
    subst hn
    exact ok_dup hd
  case dup2 =>
    have hn := of_decide_eq_true hi
    subst hn
    exact ok_dup2 hd
  case goto o =>
    obtain ⟨hn, hx⟩ := Bool.and_eq_true_iff.mp hi
    have hn := of_decide_eq_true hn
    have hx := of_decide_eq_true hx
    subst hn
    exact ok_goto hd hx
  case ifCond c o =>
    obtain ⟨hn, hx⟩ := Bool.and_eq_true_iff.mp hi
    have hn := of_decide_eq_true hn
    have hx := of_decide_eq_true hx
    subst hn
    exact ok_if hd hx
  case if_icmp c o =>
    obtain ⟨hn, hx⟩ := Bool.and_eq_true_iff.mp hi
    have hn := of_decide_eq_true hn
    have hx := of_decide_eq_true hx
    subst hn
    exact ok_cm hd hx
  case ifnull o =>
    obtain ⟨hn, hx⟩ := Bool.and_eq_true_iff.mp hi
    have hn := of_decide_eq_true hn
    have hx := of_decide_eq_true hx
    subst hn
    exact ok_ifnull hd hx
  case ifnonnull o =>
    obtain ⟨hn, hx⟩ := Bool.and_eq_true_iff.mp hi
    have hn := of_decide_eq_true hn
    have hx := of_decide_eq_true hx
    subst hn
    exact ok_ifnonnull hd hx
  case iaload =>
    have hn := of_decide_eq_true hi
    subst hn
    exact ok_ial hd
  case caload =>
    have hn := of_decide_eq_true hi
    subst hn
    exact ok_cal hd
  case aaload =>
    have hn := of_decide_eq_true hi
    subst hn
    exact ok_aal hd
  case iastore =>
    have hn := of_decide_eq_true hi
    subst hn
    exact ok_ias hd
  case castore =>
    have hn := of_decide_eq_true hi
    subst hn
    exact ok_cas hd
  case aastore =>
    have hn := of_decide_eq_true hi
    subst hn
    exact ok_aas hd
  case arraylength =>
    have hn := of_decide_eq_true hi
    subst hn
    exact ok_len hd
  case lreturn =>
    obtain ⟨hn, hx⟩ := Bool.and_eq_true_iff.mp hi
    have hn := of_decide_eq_true hn
    have hx := of_decide_eq_true hx
    subst hn
    exact ok_lret hd hx
  case return_ =>
    obtain ⟨hn, hx⟩ := Bool.and_eq_true_iff.mp hi
    have hn := of_decide_eq_true hn
    have hx := of_decide_eq_true hx
    subst hn
    exact ok_vret hd hx
  case getfield i =>
    have hn := of_decide_eq_true hi
    subst hn
    exact lkf_ok (k := 0) hM.2.2 hd (fun h => by cases h)
  case invokestatic i =>
    have hn := of_decide_eq_true hi
    subst hn
    exact lkf_ok (k := 2) hM.2.2 hd (fun h => by cases h)
  case invokespecial i =>
    have hn := of_decide_eq_true hi
    subst hn
    exact lkf_ok (k := 3) hM.2.2 hd (fun h => by cases h)
  case invokevirtual i =>
    have hn := of_decide_eq_true hi
    subst hn
    exact lkf_ok (k := 4) hM.2.2 hd (fun h => by cases h)
  case new i =>
    have hn := of_decide_eq_true hi
    subst hn
    exact lkf_ok (k := 5) hM.2.2 hd (fun h => by cases h)
  case anewarray i =>
    have hn := of_decide_eq_true hi
    subst hn
    exact lkf_ok (k := 6) hM.2.2 hd (fun h => by cases h)
  case instanceof i =>
    have hn := of_decide_eq_true hi
    subst hn
    exact lkf_ok (k := 7) hM.2.2 hd (fun h => by cases h)
  case ldc i =>
    have hn := of_decide_eq_true hi
    subst hn
    exact lkf_ok (k := 8) hM.2.2 hd (fun h => by cases h)
  case ldc_w i =>
    have hn := of_decide_eq_true hi
    subst hn
    exact lkf_ok (k := 9) hM.2.2 hd (fun h => by cases h)
  case ldc2_w i =>
    have hn := of_decide_eq_true hi
    subst hn
    exact lkf_ok (k := 10) hM.2.2 hd (fun h => by cases h)
  case putfield i =>
    obtain ⟨hn, hx⟩ := Bool.and_eq_true_iff.mp hi
    have hn := of_decide_eq_true hn
    subst hn
    refine lkf_ok (k := 1) hM.2.2 hd (fun _ hf => ?_)
    rcases Bool.or_eq_true_iff.mp hx with h | h
    · exact absurd hf (of_decide_eq_true h)
    · exact of_decide_eq_true h
  case multianewarray i k =>
    obtain ⟨hn, hx⟩ := Bool.and_eq_true_iff.mp hi
    have hn := of_decide_eq_true hn
    have hx := of_decide_eq_true hx
    subst hn; subst hx
    exact lkf_ok (k := 11) hM.2.2 hd (fun h => by cases h)
  case newarray a =>
    have hn := of_decide_eq_true hi
    subst hn
    cases a
    case int => exact ok_nar hd (by decide) (by decide) rfl (fun _ h => by cases h) (fun _ _ => rfl) wA_int
    case char => exact ok_nar hd (by decide) (by decide) rfl (fun _ h => by cases h) (fun _ _ => rfl) wA_char
    all_goals exact ok_bad
  case tableswitch dflt lo hi2 offs =>
    simp only [iok, Bool.and_eq_true, decide_eq_true_eq, List.all_eq_true] at hi
    exact ok_tsw hd hi.1 hi.2.1 hi.2.2.1 hi.2.2.2.1 hi.2.2.2.2
  case lookupswitch dflt ps =>
    obtain ⟨h1, hi⟩ := Bool.and_eq_true_iff.mp hi
    obtain ⟨h2, hi⟩ := Bool.and_eq_true_iff.mp hi
    obtain ⟨h3, h4⟩ := Bool.and_eq_true_iff.mp hi
    exact ok_lsw hd h1 (fun q hq => of_decide_eq_true (List.all_eq_true.mp h2 q hq)) (of_decide_eq_true h3) (fun q hq => of_decide_eq_true (List.all_eq_true.mp h4 q hq))
  case ireturn =>
    have hn := of_decide_eq_true hi
    subst hn
    show SOK M pc (match mR M with | some ty => sIret ty | none => sBad)
    cases hr : mR M with
    | none => exact ok_bad
    | some ty => exact ok_iret hd hr
  case areturn =>
    have hn := of_decide_eq_true hi
    subst hn
    show SOK M pc (match mR M with | some (.object _) => sAret | _ => sBad)
    cases hr : mR M with
    | none => exact ok_bad
    | some ty =>
      cases ty
      case object C => exact ok_aret hd hr
      all_goals exact ok_bad
  all_goals exact ok_bad
def opAt (M : MR) (pc : Nat) : XS := match (mT M).lookup pc with
  | some q => tr M pc q.1
  | none => sBad
theorem opAt_ok {M : MR} (hM : MOK M) (pc : Nat) : SOK M pc (opAt M pc) := by
  unfold opAt
  split
  · rename_i q hl
    exact tr_ok hM (look_mem hl)
  · exact ok_bad
/-- the walk: at most n steps, with halts at the places 'cuts' -/
def vc (d : Nat) (M : MR) (Q : XQ) (cuts : List Nat) : Nat → XK
  | 0 => fun pc L st h z b => AR d M b pc L st h z Q
  | n + 1 => fun pc L st h z b => if pc ∈ cuts then AR d M b pc L st h z Q else opAt M pc L st h z b Q (vc d M Q cuts n) (stdC d M Q)
theorem vc_ok {d : Nat} {M : MR} {Q : XQ} {cuts : List Nat} (hM : MOK M) : ∀ (n pc : Nat) (L : XL) (st : List Value) (h : XH) (z b : Nat), vc d M Q cuts n pc L st h z b → AR d M b pc L st h z Q
  | 0, _, _, _, _, _, _, k => k
  | n + 1, pc, L, st, h, z, b, k => by
    unfold vc at k
    split at k
    · exact k
    · exact opAt_ok hM pc d b L st h z Q _ (vc_ok hM n) k
theorem vcs (cuts : List Nat) (n : Nat) {d : Nat} {M : MR} {Q : XQ} (hM : MOK M) {pc : Nat} {L : XL} {st : List Value} {h : XH} {z b : Nat} (k : opAt M pc L st h z b Q (vc d M Q cuts n) (stdC d M Q)) : AR d M b pc L st h z Q := opAt_ok hM pc d b L st h z Q _ (vc_ok hM n) k
theorem vc_s (d : Nat) (M : MR) (Q : XQ) (cuts : List Nat) (n pc : Nat) (L : XL) (st : List Value) (h : XH) (z b : Nat) : vc d M Q cuts (n + 1) pc L st h z b = if pc ∈ cuts then AR d M b pc L st h z Q else opAt M pc L st h z b Q (vc d M Q cuts n) (stdC d M Q) := rfl
theorem vc_0 (d : Nat) (M : MR) (Q : XQ) (cuts : List Nat) (pc : Nat) (L : XL) (st : List Value) (h : XH) (z b : Nat) : vc d M Q cuts 0 pc L st h z b = AR d M b pc L st h z Q := rfl
theorem ok_m_Fi_init : MOK m_Fi_init := ⟨k_Fi_init, by decide +kernel, rfl⟩
theorem ok_m_Pa_init : MOK m_Pa_init := ⟨k_Pa_init, by decide +kernel, rfl⟩
theorem ok_m_Sh_init : MOK m_Sh_init := ⟨k_Sh_init, by decide +kernel, rfl⟩
theorem ok_m_Pr_init : MOK m_Pr_init := ⟨k_Pr_init, by decide +kernel, rfl⟩
theorem ok_m_De_init : MOK m_De_init := ⟨k_De_init, by decide +kernel, rfl⟩
theorem ok_m_Jo_init : MOK m_Jo_init := ⟨k_Jo_init, by decide +kernel, rfl⟩
theorem ok_m_Fi_machine : MOK m_Fi_machine := ⟨k_Fi_machine, by decide +kernel, rfl⟩
theorem ok_m_Pa_isMachine : MOK m_Pa_isMachine := ⟨k_Pa_isMachine, by decide +kernel, rfl⟩
theorem ok_m_Pa_fitting : MOK m_Pa_fitting := ⟨k_Pa_fitting, by decide +kernel, rfl⟩
theorem ok_m_Pa_take : MOK m_Pa_take := ⟨k_Pa_take, by decide +kernel, rfl⟩
theorem ok_m_Pa_takeKind : MOK m_Pa_takeKind := ⟨k_Pa_takeKind, by decide +kernel, rfl⟩
theorem ok_m_Pa_kindOf : MOK m_Pa_kindOf := ⟨k_Pa_kindOf, by decide +kernel, rfl⟩
theorem ok_m_Pa_takeSide : MOK m_Pa_takeSide := ⟨k_Pa_takeSide, by decide +kernel, rfl⟩
theorem ok_m_Pa_digitOf : MOK m_Pa_digitOf := ⟨k_Pa_digitOf, by decide +kernel, rfl⟩
theorem ok_m_Fi_isSide : MOK m_Fi_isSide := ⟨k_Fi_isSide, by decide +kernel, rfl⟩
theorem ok_m_Fi_isWithin : MOK m_Fi_isWithin := ⟨k_Fi_isWithin, by decide +kernel, rfl⟩
theorem ok_m_Pa_takeSign : MOK m_Pa_takeSign := ⟨k_Pa_takeSign, by decide +kernel, rfl⟩
theorem ok_m_Pa_takeTurn : MOK m_Pa_takeTurn := ⟨k_Pa_takeTurn, by decide +kernel, rfl⟩
theorem ok_m_Pa_takeRestOfTurn : MOK m_Pa_takeRestOfTurn := ⟨k_Pa_takeRestOfTurn, by decide +kernel, rfl⟩
theorem ok_m_Pa_takeShift : MOK m_Pa_takeShift := ⟨k_Pa_takeShift, by decide +kernel, rfl⟩
theorem ok_m_Pa_mostShift : MOK m_Pa_mostShift := ⟨k_Pa_mostShift, by decide +kernel, rfl⟩
theorem ok_m_Pa_takeRestOfShift : MOK m_Pa_takeRestOfShift := ⟨k_Pa_takeRestOfShift, by decide +kernel, rfl⟩
theorem ok_m_Pa_takeComma : MOK m_Pa_takeComma := ⟨k_Pa_takeComma, by decide +kernel, rfl⟩
theorem ok_m_Pa_machineRead : MOK m_Pa_machineRead := ⟨k_Pa_machineRead, by decide +kernel, rfl⟩
theorem ok_m_Pa_partRead : MOK m_Pa_partRead := ⟨k_Pa_partRead, by decide +kernel, rfl⟩
theorem ok_m_Ga_init : MOK m_Ga_init := ⟨k_Ga_init, by decide +kernel, rfl⟩
theorem ok_m_Pt_init : MOK m_Pt_init := ⟨k_Pt_init, by decide +kernel, rfl⟩
theorem ok_m_Ro_init : MOK m_Ro_init := ⟨k_Ro_init, by decide +kernel, rfl⟩
theorem ok_m_To_init : MOK m_To_init := ⟨k_To_init, by decide +kernel, rfl⟩
theorem ok_m_Wo_init : MOK m_Wo_init := ⟨k_Wo_init, by decide +kernel, rfl⟩
theorem ok_m_Ma_init : MOK m_Ma_init := ⟨k_Ma_init, by decide +kernel, rfl⟩
theorem ok_m_Fi_part : MOK m_Fi_part := ⟨k_Fi_part, by decide +kernel, rfl⟩
theorem ok_m_Fi_partAt : MOK m_Fi_partAt := ⟨k_Fi_partAt, by decide +kernel, rfl⟩
theorem ok_m_Fi_machineAt : MOK m_Fi_machineAt := ⟨k_Fi_machineAt, by decide +kernel, rfl⟩
theorem ok_m_Pt_tell : MOK m_Pt_tell := ⟨k_Pt_tell, by decide +kernel, rfl⟩
theorem ok_m_Ga_kind : MOK m_Ga_kind := ⟨k_Ga_kind, by decide +kernel, rfl⟩
theorem ok_m_Ro_kind : MOK m_Ro_kind := ⟨k_Ro_kind, by decide +kernel, rfl⟩
theorem ok_m_To_kind : MOK m_To_kind := ⟨k_To_kind, by decide +kernel, rfl⟩
theorem ok_m_Wo_kind : MOK m_Wo_kind := ⟨k_Wo_kind, by decide +kernel, rfl⟩
theorem ok_m_Ga_turn : MOK m_Ga_turn := ⟨k_Ga_turn, by decide +kernel, rfl⟩
theorem ok_m_Ro_turn : MOK m_Ro_turn := ⟨k_Ro_turn, by decide +kernel, rfl⟩
theorem ok_m_Wo_turn : MOK m_Wo_turn := ⟨k_Wo_turn, by decide +kernel, rfl⟩
theorem ok_m_Ga_shift : MOK m_Ga_shift := ⟨k_Ga_shift, by decide +kernel, rfl⟩
theorem ok_m_Ro_shift : MOK m_Ro_shift := ⟨k_Ro_shift, by decide +kernel, rfl⟩
theorem ok_m_Wo_shift : MOK m_Wo_shift := ⟨k_Wo_shift, by decide +kernel, rfl⟩
theorem ok_m_Fi_as : MOK m_Fi_as := ⟨k_Fi_as, by decide +kernel, rfl⟩
theorem ok_m_Fi_isOfKind : MOK m_Fi_isOfKind := ⟨k_Fi_isOfKind, by decide +kernel, rfl⟩
theorem ok_m_Fi_print : MOK m_Fi_print := ⟨k_Fi_print, by decide +kernel, rfl⟩
theorem ok_m_Sh_next : MOK m_Sh_next := ⟨k_Sh_next, by decide +kernel, rfl⟩
theorem ok_m_Pr_begin : MOK m_Pr_begin := ⟨k_Pr_begin, by decide +kernel, rfl⟩
theorem ok_m_Pr_findPlaces : MOK m_Pr_findPlaces := ⟨k_Pr_findPlaces, by decide +kernel, rfl⟩
theorem ok_m_Fi_run : MOK m_Fi_run := ⟨k_Fi_run, by decide +kernel, rfl⟩
theorem ok_m_Sh_printAt : MOK m_Sh_printAt := ⟨k_Sh_printAt, by decide +kernel, rfl⟩
theorem ok_m_Pr_leave : MOK m_Pr_leave := ⟨k_Pr_leave, by decide +kernel, rfl⟩
theorem ok_m_Ga_touched : MOK m_Ga_touched := ⟨k_Ga_touched, by decide +kernel, rfl⟩
theorem ok_m_Fi_everyOf : MOK m_Fi_everyOf := ⟨k_Fi_everyOf, by decide +kernel, rfl⟩
theorem ok_m_Ro_touched : MOK m_Ro_touched := ⟨k_Ro_touched, by decide +kernel, rfl⟩
theorem ok_m_To_touched : MOK m_To_touched := ⟨k_To_touched, by decide +kernel, rfl⟩
theorem ok_m_Wo_touched : MOK m_Wo_touched := ⟨k_Wo_touched, by decide +kernel, rfl⟩
theorem ok_m_Fi_spooled : MOK m_Fi_spooled := ⟨k_Fi_spooled, by decide +kernel, rfl⟩
theorem ok_m_Fi_turned : MOK m_Fi_turned := ⟨k_Fi_turned, by decide +kernel, rfl⟩
theorem ok_m_Fi_isIn : MOK m_Fi_isIn := ⟨k_Fi_isIn, by decide +kernel, rfl⟩
theorem ok_m_Pr_put : MOK m_Pr_put := ⟨k_Pr_put, by decide +kernel, rfl⟩
theorem ok_m_Fi_mend : MOK m_Fi_mend := ⟨k_Fi_mend, by decide +kernel, rfl⟩
theorem ok_m_Pr_takeOut : MOK m_Pr_takeOut := ⟨k_Pr_takeOut, by decide +kernel, rfl⟩
theorem ok_m_Fi_copy : MOK m_Fi_copy := ⟨k_Fi_copy, by decide +kernel, rfl⟩
theorem ok_m_Pr_takeFrom : MOK m_Pr_takeFrom := ⟨k_Pr_takeFrom, by decide +kernel, rfl⟩
theorem ok_m_Pr_whiten : MOK m_Pr_whiten := ⟨k_Pr_whiten, by decide +kernel, rfl⟩
theorem ok_m_Fi_mark : MOK m_Fi_mark := ⟨k_Fi_mark, by decide +kernel, rfl⟩
theorem ok_m_Fi_picture : MOK m_Fi_picture := ⟨k_Fi_picture, by decide +kernel, rfl⟩
theorem ok_m_Pr_tell : MOK m_Pr_tell := ⟨k_Pr_tell, by decide +kernel, rfl⟩
theorem ok_m_Fi_whose : MOK m_Fi_whose := ⟨k_Fi_whose, by decide +kernel, rfl⟩
theorem ok_m_Fi_ownersOf : MOK m_Fi_ownersOf := ⟨k_Fi_ownersOf, by decide +kernel, rfl⟩
theorem ok_m_Ma_mayHaveMarked : MOK m_Ma_mayHaveMarked := ⟨k_Ma_mayHaveMarked, by decide +kernel, rfl⟩
theorem ok_m_Pr_marked : MOK m_Pr_marked := ⟨k_Pr_marked, by decide +kernel, rfl⟩
theorem ok_m_Pr_sidesMarked : MOK m_Pr_sidesMarked := ⟨k_Pr_sidesMarked, by decide +kernel, rfl⟩
theorem ok_m_Fi_isAmong : MOK m_Fi_isAmong := ⟨k_Fi_isAmong, by decide +kernel, rfl⟩
theorem ok_m_Law_cell : MOK m_Law_cell := ⟨k_Law_cell, by decide +kernel, rfl⟩
theorem ok_m_Law_at : MOK m_Law_at := ⟨k_Law_at, by decide +kernel, rfl⟩
theorem ok_m_Law_machineText : MOK m_Law_machineText := ⟨k_Law_machineText, by decide +kernel, rfl⟩
theorem ok_m_Law_number : MOK m_Law_number := ⟨k_Law_number, by decide +kernel, rfl⟩
theorem ok_m_Law_write : MOK m_Law_write := ⟨k_Law_write, by decide +kernel, rfl⟩
theorem ok_m_Fi_letters : MOK m_Fi_letters := ⟨k_Fi_letters, by decide +kernel, rfl⟩
theorem ok_m_Fi_lettersIn : MOK m_Fi_lettersIn := ⟨k_Fi_lettersIn, by decide +kernel, rfl⟩
theorem ok_m_Fi_byteOf : MOK m_Fi_byteOf := ⟨k_Fi_byteOf, by decide +kernel, rfl⟩
theorem ok_m_Pa_append : MOK m_Pa_append := ⟨k_Pa_append, by decide +kernel, rfl⟩
theorem ok_m_Law_leaves : MOK m_Law_leaves := ⟨k_Law_leaves, by decide +kernel, rfl⟩
theorem ok_m_Law_black : MOK m_Law_black := ⟨k_Law_black, by decide +kernel, rfl⟩
theorem ok_m_Law_start : MOK m_Law_start := ⟨k_Law_start, by decide +kernel, rfl⟩
theorem ok_m_Law_run : MOK m_Law_run := ⟨k_Law_run, by decide +kernel, rfl⟩
theorem ok_m_Law_mend : MOK m_Law_mend := ⟨k_Law_mend, by decide +kernel, rfl⟩
theorem ok_m_Law_copy : MOK m_Law_copy := ⟨k_Law_copy, by decide +kernel, rfl⟩
theorem ok_m_Law_marks : MOK m_Law_marks := ⟨k_Law_marks, by decide +kernel, rfl⟩
theorem ok_m_Law_white : MOK m_Law_white := ⟨k_Law_white, by decide +kernel, rfl⟩
theorem ok_m_Law_stands : MOK m_Law_stands := ⟨k_Law_stands, by decide +kernel, rfl⟩
theorem ok_m_Fi_length : MOK m_Fi_length := ⟨k_Fi_length, by decide +kernel, rfl⟩
theorem ok_m_Law_rounds : MOK m_Law_rounds := ⟨k_Law_rounds, by decide +kernel, rfl⟩
theorem ok_m_Fi_lets : MOK m_Fi_lets := ⟨k_Fi_lets, by decide +kernel, rfl⟩
theorem ok_m_Fi_isSort : MOK m_Fi_isSort := ⟨k_Fi_isSort, by decide +kernel, rfl⟩
theorem ok_m_Fi_isRound : MOK m_Fi_isRound := ⟨k_Fi_isRound, by decide +kernel, rfl⟩
theorem ok_m_Fi_mayBe : MOK m_Fi_mayBe := ⟨k_Fi_mayBe, by decide +kernel, rfl⟩
theorem ok_m_Jlong_bitCount : MOK m_Jlong_bitCount := ⟨k_Jlong_bitCount, by decide +kernel, rfl⟩
theorem ok_m_Fi_chance : MOK m_Fi_chance := ⟨k_Fi_chance, by decide +kernel, rfl⟩
theorem ok_m_Fi_chanceOf : MOK m_Fi_chanceOf := ⟨k_Fi_chanceOf, by decide +kernel, rfl⟩
theorem ok_m_Fi_commonDivisor : MOK m_Fi_commonDivisor := ⟨k_Fi_commonDivisor, by decide +kernel, rfl⟩
theorem ok_m_Law_share : MOK m_Law_share := ⟨k_Law_share, by decide +kernel, rfl⟩
theorem ok_m_Fi_rounds : MOK m_Fi_rounds := ⟨k_Fi_rounds, by decide +kernel, rfl⟩
theorem ok_m_Fi_roundsOf : MOK m_Fi_roundsOf := ⟨k_Fi_roundsOf, by decide +kernel, rfl⟩
theorem ok_m_Fi_wound : MOK m_Fi_wound := ⟨k_Fi_wound, by decide +kernel, rfl⟩
theorem ok_m_Fi_windings : MOK m_Fi_windings := ⟨k_Fi_windings, by decide +kernel, rfl⟩
theorem ok_m_Law_places : MOK m_Law_places := ⟨k_Law_places, by decide +kernel, rfl⟩
theorem ok_m_Fi_trace : MOK m_Fi_trace := ⟨k_Fi_trace, by decide +kernel, rfl⟩
theorem ok_m_Sh_addTrace : MOK m_Sh_addTrace := ⟨k_Sh_addTrace, by decide +kernel, rfl⟩
theorem ok_m_Law_last : MOK m_Law_last := ⟨k_Law_last, by decide +kernel, rfl⟩
theorem ok_m_Law_first : MOK m_Law_first := ⟨k_Law_first, by decide +kernel, rfl⟩
theorem ok_m_Fi_gone : MOK m_Fi_gone := ⟨k_Fi_gone, by decide +kernel, rfl⟩
theorem ok_m_Sh_tracesAllow : MOK m_Sh_tracesAllow := ⟨k_Sh_tracesAllow, by decide +kernel, rfl⟩
theorem ok_m_Pr_lastAhead : MOK m_Pr_lastAhead := ⟨k_Pr_lastAhead, by decide +kernel, rfl⟩
theorem ok_m_Pr_firstFrom : MOK m_Pr_firstFrom := ⟨k_Pr_firstFrom, by decide +kernel, rfl⟩
theorem ok_m_Fi_earlier : MOK m_Fi_earlier := ⟨k_Fi_earlier, by decide +kernel, rfl⟩
theorem ok_m_Fi_clear : MOK m_Fi_clear := ⟨k_Fi_clear, by decide +kernel, rfl⟩
theorem ok_m_Fi_count : MOK m_Fi_count := ⟨k_Fi_count, by decide +kernel, rfl⟩
theorem ok_m_Sh_pictures : MOK m_Sh_pictures := ⟨k_Sh_pictures, by decide +kernel, rfl⟩
theorem ok_m_Sh_marks : MOK m_Sh_marks := ⟨k_Sh_marks, by decide +kernel, rfl⟩
theorem ok_m_Pr_marksOn : MOK m_Pr_marksOn := ⟨k_Pr_marksOn, by decide +kernel, rfl⟩
theorem ok_m_Jint_bitCount : MOK m_Jint_bitCount := ⟨k_Jint_bitCount, by decide +kernel, rfl⟩
theorem ok_m_Law : MOK m_Law := ⟨k_Law, by decide +kernel, rfl⟩
