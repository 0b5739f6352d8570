/-! THE STEPS: each instruction as a step over the picture -/
def entG : List Value → XL
  | [] => []
  | v :: r => if v.category = 2 then some v :: none :: entG r else some v :: entG r
def entL (n : Nat) (as : List Value) : XL := entG as ++ List.replicate (n - (entG as).length) none
/-- a method called with its arguments -/
def CALL (d : Nat) (M : MR) (as : List Value) (h : XH) (z : Nat) (Q : XQ) : Prop := (lg_sl as).length + ((6 - d) + (d - 6)) * ((mL M - 18) * 1000) ≤ mL M ∧ AR d M (mU M) 0 (entL (mL M) as) [] h z Q
def callA : Nat → MR → List Value → XH → Nat → XQ → Prop
  | 0, _, _, _, _, _ => False
  | d + 1, M, as, h, z, Q => CALL d M as h z Q
def stdC (d : Nat) (M : MR) (Q : XQ) : XC := fun M' as h z nx L rest b => callA d M' as h z (fun v h' z' => AR d M b nx L (v.toList ++ rest) h' z' Q)
def SOK (M : MR) (pc : Nat) (S : XS) : Prop := ∀ (d b : Nat) (L : XL) (st : List Value) (h : XH) (z : Nat) (Q : XQ) (K : XK), (∀ pc' L' st' h' z' b', K pc' L' st' h' z' b' → AR d M b' pc' L' st' h' z' Q) → S L st h z b Q K (stdC d M Q) → AR d M b pc L st h z Q
def sBad : XS := fun _ _ _ _ _ _ _ _ => False
theorem ok_bad {M : MR} {pc : Nat} : SOK M pc sBad := fun _ _ _ _ _ _ _ _ _ h => h.elim

def sPush (v : Value) (nx : Nat) : XS := fun L st h z b _ K _ => K nx L (v :: st) h z b
theorem ok_iconst {M : MR} {pc : Nat} {n : Int} (hd : decode (mB M) pc = .ok (.iconst n, 1)) : SOK M pc (sPush (.int (Int32.ofInt n)) (pc + 1)) := by
  intro d b L st h z Q K hK hs
  intro D cid N0 p l e R s m args below meth c X H locs cells slots ls h1 h2 h3 h4 h5 h6
  exact lv_iconst X.1 X.2.1 hd rfl (hK _ _ _ _ _ _ hs D cid N0 p l e R s m args below meth c X H locs cells slots ls h1 h2 h3 h4 h5 h6)
theorem ok_bipush {M : MR} {pc : Nat} {n : Int} (hd : decode (mB M) pc = .ok (.bipush n, 2)) : SOK M pc (sPush (.int (Int8.ofInt n).toInt32) (pc + 2)) := by
  intro d b L st h z Q K hK hs
  intro D cid N0 p l e R s m args below meth c X H locs cells slots ls h1 h2 h3 h4 h5 h6
  exact lv_bipush X.1 X.2.1 hd rfl (hK _ _ _ _ _ _ hs D cid N0 p l e R s m args below meth c X H locs cells slots ls h1 h2 h3 h4 h5 h6)
theorem ok_sipush {M : MR} {pc : Nat} {n : Int} (hd : decode (mB M) pc = .ok (.sipush n, 3)) : SOK M pc (sPush (.int (Int16.ofInt n).toInt32) (pc + 3)) := by
  intro d b L st h z Q K hK hs
  intro D cid N0 p l e R s m args below meth c X H locs cells slots ls h1 h2 h3 h4 h5 h6
  exact lv_sipush X.1 X.2.1 hd rfl (hK _ _ _ _ _ _ hs D cid N0 p l e R s m args below meth c X H locs cells slots ls h1 h2 h3 h4 h5 h6)
theorem ok_lconst {M : MR} {pc : Nat} {n : Fin 2} (hd : decode (mB M) pc = .ok (.lconst n, 1)) : SOK M pc (sPush (.long (Int64.ofNat (n : Nat))) (pc + 1)) := by
  intro d b L st h z Q K hK hs
  intro D cid N0 p l e R s m args below meth c X H locs cells slots ls h1 h2 h3 h4 h5 h6
  exact lv_lconst X.1 X.2.1 hd rfl (hK _ _ _ _ _ _ hs D cid N0 p l e R s m args below meth c X H locs cells slots ls h1 h2 h3 h4 h5 h6)
theorem ok_null {M : MR} {pc : Nat}  (hd : decode (mB M) pc = .ok (.aconst_null, 1)) : SOK M pc (sPush (.null) (pc + 1)) := by
  intro d b L st h z Q K hK hs
  intro D cid N0 p l e R s m args below meth c X H locs cells slots ls h1 h2 h3 h4 h5 h6
  exact lv_null X.1 X.2.1 hd (hK _ _ _ _ _ _ hs D cid N0 p l e R s m args below meth c X H locs cells slots ls h1 h2 h3 h4 h5 h6)
theorem ok_ldc {M : MR} {pc : Nat} {i : Nat} {v : Int32} (hw : Cond.constant (mN M).cls i v ∈ xTB) (hd : decode (mB M) pc = .ok (.ldc i, 2)) : SOK M pc (sPush (.int v) (pc + 2)) := by
  intro d b L st h z Q K hK hs
  intro D cid N0 p l e R s m args below meth c X H locs cells slots ls h1 h2 h3 h4 h5 h6
  exact lv_ldc X.1 X.2.1 X.2.2.2.2.1 (X.2.2.2.2.2.1 _ hw) hd (hK _ _ _ _ _ _ hs D cid N0 p l e R s m args below meth c X H locs cells slots ls h1 h2 h3 h4 h5 h6)
theorem ok_ldcw {M : MR} {pc : Nat} {i : Nat} {v : Int32} (hw : Cond.constant (mN M).cls i v ∈ xTB) (hd : decode (mB M) pc = .ok (.ldc_w i, 3)) : SOK M pc (sPush (.int v) (pc + 3)) := by
  intro d b L st h z Q K hK hs
  intro D cid N0 p l e R s m args below meth c X H locs cells slots ls h1 h2 h3 h4 h5 h6
  exact lv_ldcw X.1 X.2.1 X.2.2.2.2.1 (X.2.2.2.2.2.1 _ hw) hd (hK _ _ _ _ _ _ hs D cid N0 p l e R s m args below meth c X H locs cells slots ls h1 h2 h3 h4 h5 h6)
theorem ok_ldc2 {M : MR} {pc : Nat} {i : Nat} {v : Int64} (hw : Cond.constantLong (mN M).cls i v ∈ xTB) (hd : decode (mB M) pc = .ok (.ldc2_w i, 3)) : SOK M pc (sPush (.long v) (pc + 3)) := by
  intro d b L st h z Q K hK hs
  intro D cid N0 p l e R s m args below meth c X H locs cells slots ls h1 h2 h3 h4 h5 h6
  exact lv_ldc2 X.1 X.2.1 X.2.2.2.2.1 (X.2.2.2.2.2.1 _ hw) hd (hK _ _ _ _ _ _ hs D cid N0 p l e R s m args below meth c X H locs cells slots ls h1 h2 h3 h4 h5 h6)
def sIld (i nx : Nat) : XS := fun L st h z b _ K _ => match gL L i with | some (.int x) => K nx L (.int x :: st) h z b | _ => False
theorem ok_iload_n {M : MR} {pc : Nat} {k : Fin 4} (hd : decode (mB M) pc = .ok (.iload_n k, 1)) : SOK M pc (sIld (k : Nat) (pc + 1)) := by
  intro d b L st h z Q K hK hs
  unfold sIld at hs
  split at hs
  · rename_i x hx
    intro D cid N0 p l e R s m args below meth c X H locs cells slots ls h1 h2 h3 h4 h5 h6
    exact lv_iload_n X.1 X.2.1 hd rfl (h6.2.2 _ (lvOf_mem.mpr (gL_some hx))) (hK _ _ _ _ _ _ hs D cid N0 p l e R s m args below meth c X H locs cells slots ls h1 h2 h3 h4 h5 h6)
  · exact hs.elim
theorem ok_iload {M : MR} {pc : Nat} {i : Nat} (hd : decode (mB M) pc = .ok (.iload i, 2)) : SOK M pc (sIld i (pc + 2)) := by
  intro d b L st h z Q K hK hs
  unfold sIld at hs
  split at hs
  · rename_i x hx
    intro D cid N0 p l e R s m args below meth c X H locs cells slots ls h1 h2 h3 h4 h5 h6
    exact lv_iload X.1 X.2.1 hd (h6.2.2 _ (lvOf_mem.mpr (gL_some hx))) (hK _ _ _ _ _ _ hs D cid N0 p l e R s m args below meth c X H locs cells slots ls h1 h2 h3 h4 h5 h6)
  · exact hs.elim
def sLld (i nx : Nat) : XS := fun L st h z b _ K _ => match gL L i with | some (.long x) => K nx L (.long x :: st) h z b | _ => False
theorem ok_lload_n {M : MR} {pc : Nat} {k : Fin 4} (hd : decode (mB M) pc = .ok (.lload_n k, 1)) : SOK M pc (sLld (k : Nat) (pc + 1)) := by
  intro d b L st h z Q K hK hs
  unfold sLld at hs
  split at hs
  · rename_i x hx
    intro D cid N0 p l e R s m args below meth c X H locs cells slots ls h1 h2 h3 h4 h5 h6
    exact lv_lload_n X.1 X.2.1 hd rfl (h6.2.2 _ (lvOf_mem.mpr (gL_some hx))) (hK _ _ _ _ _ _ hs D cid N0 p l e R s m args below meth c X H locs cells slots ls h1 h2 h3 h4 h5 h6)
  · exact hs.elim
theorem ok_lload {M : MR} {pc : Nat} {i : Nat} (hd : decode (mB M) pc = .ok (.lload i, 2)) : SOK M pc (sLld i (pc + 2)) := by
  intro d b L st h z Q K hK hs
  unfold sLld at hs
  split at hs
  · rename_i x hx
    intro D cid N0 p l e R s m args below meth c X H locs cells slots ls h1 h2 h3 h4 h5 h6
    exact lv_lload X.1 X.2.1 hd (h6.2.2 _ (lvOf_mem.mpr (gL_some hx))) (hK _ _ _ _ _ _ hs D cid N0 p l e R s m args below meth c X H locs cells slots ls h1 h2 h3 h4 h5 h6)
  · exact hs.elim
def sAld (i nx : Nat) : XS := fun L st h z b _ K _ => match gL L i with | some (.ref x) => K nx L (.ref x :: st) h z b | some .null => K nx L (.null :: st) h z b | _ => False
theorem ok_aload_n {M : MR} {pc : Nat} {k : Fin 4} (hd : decode (mB M) pc = .ok (.aload_n k, 1)) : SOK M pc (sAld (k : Nat) (pc + 1)) := by
  intro d b L st h z Q K hK hs
  unfold sAld at hs
  split at hs
  · rename_i x hx
    intro D cid N0 p l e R s m args below meth c X H locs cells slots ls h1 h2 h3 h4 h5 h6
    exact lv_aload_n X.1 X.2.1 hd rfl (h6.2.2 _ (lvOf_mem.mpr (gL_some hx))) (hK _ _ _ _ _ _ hs D cid N0 p l e R s m args below meth c X H locs cells slots ls h1 h2 h3 h4 h5 h6)
  · rename_i hx
    intro D cid N0 p l e R s m args below meth c X H locs cells slots ls h1 h2 h3 h4 h5 h6
    exact lv_aload_nN X.1 X.2.1 hd rfl (h6.2.2 _ (lvOf_mem.mpr (gL_some hx))) (hK _ _ _ _ _ _ hs D cid N0 p l e R s m args below meth c X H locs cells slots ls h1 h2 h3 h4 h5 h6)
  · exact hs.elim
theorem ok_aload {M : MR} {pc : Nat} {i : Nat} (hd : decode (mB M) pc = .ok (.aload i, 2)) : SOK M pc (sAld i (pc + 2)) := by
  intro d b L st h z Q K hK hs
  unfold sAld at hs
  split at hs
  · rename_i x hx
    intro D cid N0 p l e R s m args below meth c X H locs cells slots ls h1 h2 h3 h4 h5 h6
    exact lv_aload X.1 X.2.1 hd (h6.2.2 _ (lvOf_mem.mpr (gL_some hx))) (hK _ _ _ _ _ _ hs D cid N0 p l e R s m args below meth c X H locs cells slots ls h1 h2 h3 h4 h5 h6)
  · rename_i hx
    intro D cid N0 p l e R s m args below meth c X H locs cells slots ls h1 h2 h3 h4 h5 h6
    exact lv_aloadN X.1 X.2.1 hd (h6.2.2 _ (lvOf_mem.mpr (gL_some hx))) (hK _ _ _ _ _ _ hs D cid N0 p l e R s m args below meth c X H locs cells slots ls h1 h2 h3 h4 h5 h6)
  · exact hs.elim
def sIst (i nx : Nat) : XS := fun L st h z b _ K _ => match st with | .int x :: r => K nx (stI L i (.int x)) r h z b | _ => False
theorem ok_istore_n {M : MR} {pc : Nat} {k : Fin 4} (hd : decode (mB M) pc = .ok (.istore_n k, 1)) (hn : (k : Nat) < mL M) : SOK M pc (sIst (k : Nat) (pc + 1)) := by
  intro d b L st h z Q K hK hs
  unfold sIst at hs
  split at hs
  · rename_i x r
    intro D cid N0 p l e R s m args below meth c X H locs cells slots ls h1 h2 h3 h4 h5 h6
    exact lv_istore_n X.1 X.2.1 hd rfl h6 hn rfl (fun ls' hl => (hK _ _ _ _ _ _ hs D cid N0 p l e R s m args below meth c X H locs cells slots ls' h1 h2 h3 h4 h5 (lv_store1L hl)))
  · exact hs.elim
theorem ok_istore {M : MR} {pc : Nat} {i : Nat} (hd : decode (mB M) pc = .ok (.istore i, 2)) (hn : i < mL M) : SOK M pc (sIst i (pc + 2)) := by
  intro d b L st h z Q K hK hs
  unfold sIst at hs
  split at hs
  · rename_i x r
    intro D cid N0 p l e R s m args below meth c X H locs cells slots ls h1 h2 h3 h4 h5 h6
    exact lv_istore X.1 X.2.1 hd h6 hn rfl (fun ls' hl => (hK _ _ _ _ _ _ hs D cid N0 p l e R s m args below meth c X H locs cells slots ls' h1 h2 h3 h4 h5 (lv_store1L hl)))
  · exact hs.elim
def sLst (i nx : Nat) : XS := fun L st h z b _ K _ => match st with | .long x :: r => K nx (stL L i (.long x)) r h z b | _ => False
theorem ok_lstore_n {M : MR} {pc : Nat} {k : Fin 4} (hd : decode (mB M) pc = .ok (.lstore_n k, 1)) (hn : (k : Nat) + 1 < mL M) : SOK M pc (sLst (k : Nat) (pc + 1)) := by
  intro d b L st h z Q K hK hs
  unfold sLst at hs
  split at hs
  · rename_i x r
    intro D cid N0 p l e R s m args below meth c X H locs cells slots ls h1 h2 h3 h4 h5 h6
    exact lv_lstore_n X.1 X.2.1 hd rfl h6 hn rfl (fun ls' hl => (hK _ _ _ _ _ _ hs D cid N0 p l e R s m args below meth c X H locs cells slots ls' h1 h2 h3 h4 h5 (lv_store2L hl)))
  · exact hs.elim
theorem ok_lstore {M : MR} {pc : Nat} {i : Nat} (hd : decode (mB M) pc = .ok (.lstore i, 2)) (hn : i + 1 < mL M) : SOK M pc (sLst i (pc + 2)) := by
  intro d b L st h z Q K hK hs
  unfold sLst at hs
  split at hs
  · rename_i x r
    intro D cid N0 p l e R s m args below meth c X H locs cells slots ls h1 h2 h3 h4 h5 h6
    exact lv_lstore X.1 X.2.1 hd h6 hn rfl (fun ls' hl => (hK _ _ _ _ _ _ hs D cid N0 p l e R s m args below meth c X H locs cells slots ls' h1 h2 h3 h4 h5 (lv_store2L hl)))
  · exact hs.elim
def sAst (i nx : Nat) : XS := fun L st h z b _ K _ => match st with | .ref x :: r => K nx (stI L i (.ref x)) r h z b | .null :: r => K nx (stI L i .null) r h z b | _ => False
theorem ok_astore_n {M : MR} {pc : Nat} {k : Fin 4} (hd : decode (mB M) pc = .ok (.astore_n k, 1)) (hn : (k : Nat) < mL M) : SOK M pc (sAst (k : Nat) (pc + 1)) := by
  intro d b L st h z Q K hK hs
  unfold sAst at hs
  split at hs
  · rename_i x r
    intro D cid N0 p l e R s m args below meth c X H locs cells slots ls h1 h2 h3 h4 h5 h6
    exact lv_astore_n X.1 X.2.1 hd rfl h6 hn rfl (fun ls' hl => (hK _ _ _ _ _ _ hs D cid N0 p l e R s m args below meth c X H locs cells slots ls' h1 h2 h3 h4 h5 (lv_store1L hl)))
  · rename_i r
    intro D cid N0 p l e R s m args below meth c X H locs cells slots ls h1 h2 h3 h4 h5 h6
    exact lv_astore_nN X.1 X.2.1 hd rfl h6 hn rfl (fun ls' hl => (hK _ _ _ _ _ _ hs D cid N0 p l e R s m args below meth c X H locs cells slots ls' h1 h2 h3 h4 h5 (lv_store1L hl)))
  · exact hs.elim
theorem ok_astore {M : MR} {pc : Nat} {i : Nat} (hd : decode (mB M) pc = .ok (.astore i, 2)) (hn : i < mL M) : SOK M pc (sAst i (pc + 2)) := by
  intro d b L st h z Q K hK hs
  unfold sAst at hs
  split at hs
  · rename_i x r
    intro D cid N0 p l e R s m args below meth c X H locs cells slots ls h1 h2 h3 h4 h5 h6
    exact lv_astore X.1 X.2.1 hd h6 hn rfl (fun ls' hl => (hK _ _ _ _ _ _ hs D cid N0 p l e R s m args below meth c X H locs cells slots ls' h1 h2 h3 h4 h5 (lv_store1L hl)))
  · rename_i r
    intro D cid N0 p l e R s m args below meth c X H locs cells slots ls h1 h2 h3 h4 h5 h6
    exact lv_astoreN X.1 X.2.1 hd h6 hn rfl (fun ls' hl => (hK _ _ _ _ _ _ hs D cid N0 p l e R s m args below meth c X H locs cells slots ls' h1 h2 h3 h4 h5 (lv_store1L hl)))
  · exact hs.elim
def sInc (i : Nat) (n : Int) (nx : Nat) : XS := fun L st h z b _ K _ => match gL L i with | some (.int x) => K nx (stI L i (.int (x + Int32.ofInt n))) st h z b | _ => False
theorem ok_iinc {M : MR} {pc i : Nat} {n : Int} (hd : decode (mB M) pc = .ok (.iinc i n, 3)) (hn : i < mL M) : SOK M pc (sInc i n (pc + 3)) := by
  intro d b L st h z Q K hK hs
  unfold sInc at hs
  split at hs
  · rename_i x hx
    intro D cid N0 p l e R s m args below meth c X H locs cells slots ls h1 h2 h3 h4 h5 h6
    obtain ⟨k, hk⟩ := List.getElem?_of_mem (lvOf_mem.mpr (gL_some hx))
    exact lv_iinc (k := k) X.1 X.2.1 hd h6 hk rfl hn rfl (fun ls' hl => (hK _ _ _ _ _ _ hs D cid N0 p l e R s m args below meth c X H locs cells slots ls' h1 h2 h3 h4 h5 (lv_store1L hl)))
  · exact hs.elim
def sBI (f : Int32 → Int32 → Int32) (nx : Nat) : XS := fun L st h z b _ K _ => match st with | .int y :: .int x :: r => K nx L (.int (f x y) :: r) h z b | _ => False
def sBL (f : Int64 → Int64 → Int64) (nx : Nat) : XS := fun L st h z b _ K _ => match st with | .long y :: .long x :: r => K nx L (.long (f x y) :: r) h z b | _ => False
def sDI (f : Int32 → Int32 → Int32) (nx : Nat) : XS := fun L st h z b _ K _ => match st with | .int y :: .int x :: r => (¬ y = 0) ∧ K nx L (.int (f x y) :: r) h z b | _ => False
def sDL (f : Int64 → Int64 → Int64) (nx : Nat) : XS := fun L st h z b _ K _ => match st with | .long y :: .long x :: r => (¬ y = 0) ∧ K nx L (.long (f x y) :: r) h z b | _ => False
def sSL (f : Int64 → Int32 → Int64) (nx : Nat) : XS := fun L st h z b _ K _ => match st with | .int y :: .long x :: r => K nx L (.long (f x y) :: r) h z b | _ => False
def sUI (f : Int32 → Int32) (nx : Nat) : XS := fun L st h z b _ K _ => match st with | .int x :: r => K nx L (.int (f x) :: r) h z b | _ => False
def sIL (nx : Nat) : XS := fun L st h z b _ K _ => match st with | .int x :: r => K nx L (.long x.toInt64 :: r) h z b | _ => False
def sLI (nx : Nat) : XS := fun L st h z b _ K _ => match st with | .long x :: r => K nx L (.int x.toInt32 :: r) h z b | _ => False
def sCmp (nx : Nat) : XS := fun L st h z b _ K _ => match st with | .long y :: .long x :: r => K nx L (.int (lg_cmp x y) :: r) h z b | _ => False
theorem ok_iadd {M : MR} {pc : Nat} (hd : decode (mB M) pc = .ok (.iadd, 1)) : SOK M pc (sBI (fun x y => x + y) (pc + 1)) := by
  intro d b L st h z Q K hK hs
  unfold sBI at hs
  split at hs
  · rename_i y x r
    intro D cid N0 p l e R s m args below meth c X H locs cells slots ls h1 h2 h3 h4 h5 h6
    exact lv_iadd X.1 X.2.1 hd (hK _ _ _ _ _ _ hs D cid N0 p l e R s m args below meth c X H locs cells slots ls h1 h2 h3 h4 h5 h6)
  · exact hs.elim
theorem ok_isub {M : MR} {pc : Nat} (hd : decode (mB M) pc = .ok (.isub, 1)) : SOK M pc (sBI (fun x y => x - y) (pc + 1)) := by
  intro d b L st h z Q K hK hs
  unfold sBI at hs
  split at hs
  · rename_i y x r
    intro D cid N0 p l e R s m args below meth c X H locs cells slots ls h1 h2 h3 h4 h5 h6
    exact lv_isub X.1 X.2.1 hd (hK _ _ _ _ _ _ hs D cid N0 p l e R s m args below meth c X H locs cells slots ls h1 h2 h3 h4 h5 h6)
  · exact hs.elim
theorem ok_imul {M : MR} {pc : Nat} (hd : decode (mB M) pc = .ok (.imul, 1)) : SOK M pc (sBI (fun x y => x * y) (pc + 1)) := by
  intro d b L st h z Q K hK hs
  unfold sBI at hs
  split at hs
  · rename_i y x r
    intro D cid N0 p l e R s m args below meth c X H locs cells slots ls h1 h2 h3 h4 h5 h6
    exact lv_imul X.1 X.2.1 hd (hK _ _ _ _ _ _ hs D cid N0 p l e R s m args below meth c X H locs cells slots ls h1 h2 h3 h4 h5 h6)
  · exact hs.elim
theorem ok_iand {M : MR} {pc : Nat} (hd : decode (mB M) pc = .ok (.iand, 1)) : SOK M pc (sBI (fun x y => x &&& y) (pc + 1)) := by
  intro d b L st h z Q K hK hs
  unfold sBI at hs
  split at hs
  · rename_i y x r
    intro D cid N0 p l e R s m args below meth c X H locs cells slots ls h1 h2 h3 h4 h5 h6
    exact lv_iand X.1 X.2.1 hd (hK _ _ _ _ _ _ hs D cid N0 p l e R s m args below meth c X H locs cells slots ls h1 h2 h3 h4 h5 h6)
  · exact hs.elim
theorem ok_ior {M : MR} {pc : Nat} (hd : decode (mB M) pc = .ok (.ior, 1)) : SOK M pc (sBI (fun x y => x ||| y) (pc + 1)) := by
  intro d b L st h z Q K hK hs
  unfold sBI at hs
  split at hs
  · rename_i y x r
    intro D cid N0 p l e R s m args below meth c X H locs cells slots ls h1 h2 h3 h4 h5 h6
    exact lv_ior X.1 X.2.1 hd (hK _ _ _ _ _ _ hs D cid N0 p l e R s m args below meth c X H locs cells slots ls h1 h2 h3 h4 h5 h6)
  · exact hs.elim
theorem ok_ixor {M : MR} {pc : Nat} (hd : decode (mB M) pc = .ok (.ixor, 1)) : SOK M pc (sBI (fun x y => x ^^^ y) (pc + 1)) := by
  intro d b L st h z Q K hK hs
  unfold sBI at hs
  split at hs
  · rename_i y x r
    intro D cid N0 p l e R s m args below meth c X H locs cells slots ls h1 h2 h3 h4 h5 h6
    exact lv_ixor X.1 X.2.1 hd (hK _ _ _ _ _ _ hs D cid N0 p l e R s m args below meth c X H locs cells slots ls h1 h2 h3 h4 h5 h6)
  · exact hs.elim
theorem ok_ishl {M : MR} {pc : Nat} (hd : decode (mB M) pc = .ok (.ishl, 1)) : SOK M pc (sBI (fun x y => x <<< (y &&& 31)) (pc + 1)) := by
  intro d b L st h z Q K hK hs
  unfold sBI at hs
  split at hs
  · rename_i y x r
    intro D cid N0 p l e R s m args below meth c X H locs cells slots ls h1 h2 h3 h4 h5 h6
    exact lv_ishl X.1 X.2.1 hd (hK _ _ _ _ _ _ hs D cid N0 p l e R s m args below meth c X H locs cells slots ls h1 h2 h3 h4 h5 h6)
  · exact hs.elim
theorem ok_ishr {M : MR} {pc : Nat} (hd : decode (mB M) pc = .ok (.ishr, 1)) : SOK M pc (sBI (fun x y => x >>> (y &&& 31)) (pc + 1)) := by
  intro d b L st h z Q K hK hs
  unfold sBI at hs
  split at hs
  · rename_i y x r
    intro D cid N0 p l e R s m args below meth c X H locs cells slots ls h1 h2 h3 h4 h5 h6
    exact lv_ishr X.1 X.2.1 hd (hK _ _ _ _ _ _ hs D cid N0 p l e R s m args below meth c X H locs cells slots ls h1 h2 h3 h4 h5 h6)
  · exact hs.elim
theorem ok_iushr {M : MR} {pc : Nat} (hd : decode (mB M) pc = .ok (.iushr, 1)) : SOK M pc (sBI (fun x y => (x.toUInt32 >>> (y.toUInt32 &&& Int32.toUInt32 31)).toInt32) (pc + 1)) := by
  intro d b L st h z Q K hK hs
  unfold sBI at hs
  split at hs
  · rename_i y x r
    intro D cid N0 p l e R s m args below meth c X H locs cells slots ls h1 h2 h3 h4 h5 h6
    exact lv_iushr X.1 X.2.1 hd rfl (hK _ _ _ _ _ _ hs D cid N0 p l e R s m args below meth c X H locs cells slots ls h1 h2 h3 h4 h5 h6)
  · exact hs.elim
theorem ok_ladd {M : MR} {pc : Nat} (hd : decode (mB M) pc = .ok (.ladd, 1)) : SOK M pc (sBL (fun x y => x + y) (pc + 1)) := by
  intro d b L st h z Q K hK hs
  unfold sBL at hs
  split at hs
  · rename_i y x r
    intro D cid N0 p l e R s m args below meth c X H locs cells slots ls h1 h2 h3 h4 h5 h6
    exact lv_ladd X.1 X.2.1 hd (hK _ _ _ _ _ _ hs D cid N0 p l e R s m args below meth c X H locs cells slots ls h1 h2 h3 h4 h5 h6)
  · exact hs.elim
theorem ok_lsub {M : MR} {pc : Nat} (hd : decode (mB M) pc = .ok (.lsub, 1)) : SOK M pc (sBL (fun x y => x - y) (pc + 1)) := by
  intro d b L st h z Q K hK hs
  unfold sBL at hs
  split at hs
  · rename_i y x r
    intro D cid N0 p l e R s m args below meth c X H locs cells slots ls h1 h2 h3 h4 h5 h6
    exact lv_lsub X.1 X.2.1 hd (hK _ _ _ _ _ _ hs D cid N0 p l e R s m args below meth c X H locs cells slots ls h1 h2 h3 h4 h5 h6)
  · exact hs.elim
theorem ok_lmul {M : MR} {pc : Nat} (hd : decode (mB M) pc = .ok (.lmul, 1)) : SOK M pc (sBL (fun x y => x * y) (pc + 1)) := by
  intro d b L st h z Q K hK hs
  unfold sBL at hs
  split at hs
  · rename_i y x r
    intro D cid N0 p l e R s m args below meth c X H locs cells slots ls h1 h2 h3 h4 h5 h6
    exact lv_lmul X.1 X.2.1 hd (hK _ _ _ _ _ _ hs D cid N0 p l e R s m args below meth c X H locs cells slots ls h1 h2 h3 h4 h5 h6)
  · exact hs.elim
theorem ok_land {M : MR} {pc : Nat} (hd : decode (mB M) pc = .ok (.land, 1)) : SOK M pc (sBL (fun x y => x &&& y) (pc + 1)) := by
  intro d b L st h z Q K hK hs
  unfold sBL at hs
  split at hs
  · rename_i y x r
    intro D cid N0 p l e R s m args below meth c X H locs cells slots ls h1 h2 h3 h4 h5 h6
    exact lv_land X.1 X.2.1 hd (hK _ _ _ _ _ _ hs D cid N0 p l e R s m args below meth c X H locs cells slots ls h1 h2 h3 h4 h5 h6)
  · exact hs.elim
theorem ok_lor {M : MR} {pc : Nat} (hd : decode (mB M) pc = .ok (.lor, 1)) : SOK M pc (sBL (fun x y => x ||| y) (pc + 1)) := by
  intro d b L st h z Q K hK hs
  unfold sBL at hs
  split at hs
  · rename_i y x r
    intro D cid N0 p l e R s m args below meth c X H locs cells slots ls h1 h2 h3 h4 h5 h6
    exact lv_lor X.1 X.2.1 hd (hK _ _ _ _ _ _ hs D cid N0 p l e R s m args below meth c X H locs cells slots ls h1 h2 h3 h4 h5 h6)
  · exact hs.elim
theorem ok_lxor {M : MR} {pc : Nat} (hd : decode (mB M) pc = .ok (.lxor, 1)) : SOK M pc (sBL (fun x y => x ^^^ y) (pc + 1)) := by
  intro d b L st h z Q K hK hs
  unfold sBL at hs
  split at hs
  · rename_i y x r
    intro D cid N0 p l e R s m args below meth c X H locs cells slots ls h1 h2 h3 h4 h5 h6
    exact lv_lxor X.1 X.2.1 hd (hK _ _ _ _ _ _ hs D cid N0 p l e R s m args below meth c X H locs cells slots ls h1 h2 h3 h4 h5 h6)
  · exact hs.elim
theorem ok_idiv {M : MR} {pc : Nat} (hd : decode (mB M) pc = .ok (.idiv, 1)) : SOK M pc (sDI (fun x y => x / y) (pc + 1)) := by
  intro d b L st h z Q K hK hs
  unfold sDI at hs
  split at hs
  · rename_i y x r
    intro D cid N0 p l e R s m args below meth c X H locs cells slots ls h1 h2 h3 h4 h5 h6
    exact lv_idiv X.1 X.2.1 hd hs.1 (hK _ _ _ _ _ _ hs.2 D cid N0 p l e R s m args below meth c X H locs cells slots ls h1 h2 h3 h4 h5 h6)
  · exact hs.elim
theorem ok_irem {M : MR} {pc : Nat} (hd : decode (mB M) pc = .ok (.irem, 1)) : SOK M pc (sDI (fun x y => x - x / y * y) (pc + 1)) := by
  intro d b L st h z Q K hK hs
  unfold sDI at hs
  split at hs
  · rename_i y x r
    intro D cid N0 p l e R s m args below meth c X H locs cells slots ls h1 h2 h3 h4 h5 h6
    exact lv_irem X.1 X.2.1 hd hs.1 (hK _ _ _ _ _ _ hs.2 D cid N0 p l e R s m args below meth c X H locs cells slots ls h1 h2 h3 h4 h5 h6)
  · exact hs.elim
theorem ok_ldiv {M : MR} {pc : Nat} (hd : decode (mB M) pc = .ok (.ldiv, 1)) : SOK M pc (sDL (fun x y => x / y) (pc + 1)) := by
  intro d b L st h z Q K hK hs
  unfold sDL at hs
  split at hs
  · rename_i y x r
    intro D cid N0 p l e R s m args below meth c X H locs cells slots ls h1 h2 h3 h4 h5 h6
    exact lv_ldiv X.1 X.2.1 hd hs.1 (hK _ _ _ _ _ _ hs.2 D cid N0 p l e R s m args below meth c X H locs cells slots ls h1 h2 h3 h4 h5 h6)
  · exact hs.elim
theorem ok_lrem {M : MR} {pc : Nat} (hd : decode (mB M) pc = .ok (.lrem, 1)) : SOK M pc (sDL (fun x y => x - x / y * y) (pc + 1)) := by
  intro d b L st h z Q K hK hs
  unfold sDL at hs
  split at hs
  · rename_i y x r
    intro D cid N0 p l e R s m args below meth c X H locs cells slots ls h1 h2 h3 h4 h5 h6
    exact lv_lrem X.1 X.2.1 hd hs.1 (hK _ _ _ _ _ _ hs.2 D cid N0 p l e R s m args below meth c X H locs cells slots ls h1 h2 h3 h4 h5 h6)
  · exact hs.elim
theorem ok_lshl {M : MR} {pc : Nat} (hd : decode (mB M) pc = .ok (.lshl, 1)) : SOK M pc (sSL (fun x y => x <<< (y.toInt64 &&& 63)) (pc + 1)) := by
  intro d b L st h z Q K hK hs
  unfold sSL at hs
  split at hs
  · rename_i y x r
    intro D cid N0 p l e R s m args below meth c X H locs cells slots ls h1 h2 h3 h4 h5 h6
    exact lv_lshl X.1 X.2.1 hd rfl (hK _ _ _ _ _ _ hs D cid N0 p l e R s m args below meth c X H locs cells slots ls h1 h2 h3 h4 h5 h6)
  · exact hs.elim
theorem ok_lushr {M : MR} {pc : Nat} (hd : decode (mB M) pc = .ok (.lushr, 1)) : SOK M pc (sSL (fun x y => (x.toUInt64 >>> (y.toInt64.toUInt64 &&& Int64.toUInt64 63)).toInt64) (pc + 1)) := by
  intro d b L st h z Q K hK hs
  unfold sSL at hs
  split at hs
  · rename_i y x r
    intro D cid N0 p l e R s m args below meth c X H locs cells slots ls h1 h2 h3 h4 h5 h6
    exact lv_lushr X.1 X.2.1 hd rfl (hK _ _ _ _ _ _ hs D cid N0 p l e R s m args below meth c X H locs cells slots ls h1 h2 h3 h4 h5 h6)
  · exact hs.elim
theorem ok_ineg {M : MR} {pc : Nat} (hd : decode (mB M) pc = .ok (.ineg, 1)) : SOK M pc (sUI (fun x => -x) (pc + 1)) := by
  intro d b L st h z Q K hK hs
  unfold sUI at hs
  split at hs
  · rename_i x r
    intro D cid N0 p l e R s m args below meth c X H locs cells slots ls h1 h2 h3 h4 h5 h6
    exact lv_ineg X.1 X.2.1 hd (hK _ _ _ _ _ _ hs D cid N0 p l e R s m args below meth c X H locs cells slots ls h1 h2 h3 h4 h5 h6)
  · exact hs.elim
theorem ok_i2c {M : MR} {pc : Nat} (hd : decode (mB M) pc = .ok (.i2c, 1)) : SOK M pc (sUI (fun x => (x.toUInt32 % 65536).toInt32) (pc + 1)) := by
  intro d b L st h z Q K hK hs
  unfold sUI at hs
  split at hs
  · rename_i x r
    intro D cid N0 p l e R s m args below meth c X H locs cells slots ls h1 h2 h3 h4 h5 h6
    exact lv_i2c X.1 X.2.1 hd rfl (hK _ _ _ _ _ _ hs D cid N0 p l e R s m args below meth c X H locs cells slots ls h1 h2 h3 h4 h5 h6)
  · exact hs.elim
theorem ok_i2l {M : MR} {pc : Nat} (hd : decode (mB M) pc = .ok (.i2l, 1)) : SOK M pc (sIL (pc + 1)) := by
  intro d b L st h z Q K hK hs
  unfold sIL at hs
  split at hs
  · rename_i x r
    intro D cid N0 p l e R s m args below meth c X H locs cells slots ls h1 h2 h3 h4 h5 h6
    exact lv_i2l X.1 X.2.1 hd rfl (hK _ _ _ _ _ _ hs D cid N0 p l e R s m args below meth c X H locs cells slots ls h1 h2 h3 h4 h5 h6)
  · exact hs.elim
theorem ok_l2i {M : MR} {pc : Nat} (hd : decode (mB M) pc = .ok (.l2i, 1)) : SOK M pc (sLI (pc + 1)) := by
  intro d b L st h z Q K hK hs
  unfold sLI at hs
  split at hs
  · rename_i x r
    intro D cid N0 p l e R s m args below meth c X H locs cells slots ls h1 h2 h3 h4 h5 h6
    exact lv_l2i X.1 X.2.1 hd rfl (hK _ _ _ _ _ _ hs D cid N0 p l e R s m args below meth c X H locs cells slots ls h1 h2 h3 h4 h5 h6)
  · exact hs.elim
theorem ok_lcmp {M : MR} {pc : Nat} (hd : decode (mB M) pc = .ok (.lcmp, 1)) : SOK M pc (sCmp (pc + 1)) := by
  intro d b L st h z Q K hK hs
  unfold sCmp at hs
  split at hs
  · rename_i y x r
    intro D cid N0 p l e R s m args below meth c X H locs cells slots ls h1 h2 h3 h4 h5 h6
    exact W.lcmp X.1 X.2.1 hd (hK _ _ _ _ _ _ hs D cid N0 p l e R s m args below meth c X H locs cells slots ls h1 h2 h3 h4 h5 h6)
  · exact hs.elim
def cat1 : Value → Bool
  | .long _ => false
  | .double _ => false
  | _ => true
theorem cat1_ok {v : Value} (h : cat1 v = true) : v.category = 1 := by cases v <;> simp [cat1] at h <;> rfl
def sDup (nx : Nat) : XS := fun L st h z b _ K _ => match st with | v :: r => cat1 v = true ∧ K nx L (v :: v :: r) h z b | _ => False
theorem ok_dup {M : MR} {pc : Nat} (hd : decode (mB M) pc = .ok (.dup, 1)) : SOK M pc (sDup (pc + 1)) := by
  intro d b L st h z Q K hK hs
  unfold sDup at hs
  split at hs
  · rename_i v r
    intro D cid N0 p l e R s m args below meth c X H locs cells slots ls h1 h2 h3 h4 h5 h6
    exact lv_dup X.1 X.2.1 hd (cat1_ok hs.1) (hK _ _ _ _ _ _ hs.2 D cid N0 p l e R s m args below meth c X H locs cells slots ls h1 h2 h3 h4 h5 h6)
  · exact hs.elim
def sDup2 (nx : Nat) : XS := fun L st h z b _ K _ => match st with | v :: u :: r => (cat1 v = true ∧ cat1 u = true) ∧ K nx L (v :: u :: v :: u :: r) h z b | _ => False
theorem ok_dup2 {M : MR} {pc : Nat} (hd : decode (mB M) pc = .ok (.dup2, 1)) : SOK M pc (sDup2 (pc + 1)) := by
  intro d b L st h z Q K hK hs
  unfold sDup2 at hs
  split at hs
  · rename_i v u r
    intro D cid N0 p l e R s m args below meth c X H locs cells slots ls h1 h2 h3 h4 h5 h6
    exact lv_dup2_11 X.1 X.2.1 hd (cat1_ok hs.1.1) (cat1_ok hs.1.2) (hK _ _ _ _ _ _ hs.2 D cid N0 p l e R s m args below meth c X H locs cells slots ls h1 h2 h3 h4 h5 h6)
  · exact hs.elim
def cH : ClassFile.Cond → Int32 → Int32 → Prop
  | .eq, x, y => x = y
  | .ne, x, y => x ≠ y
  | .lt, x, y => x < y
  | .ge, x, y => y ≤ x
  | .gt, x, y => y < x
  | .le, x, y => x ≤ y
def sGo (tgt : Nat) : XS := fun L st h z b _ K _ => K tgt L st h z b
def sIf (c : ClassFile.Cond) (tgt nx : Nat) : XS := fun L st h z b _ K _ => match st with | .int x :: r => (cH c x 0 → K tgt L r h z b) ∧ (¬ cH c x 0 → K nx L r h z b) | _ => False
def sCm (c : ClassFile.Cond) (tgt nx : Nat) : XS := fun L st h z b _ K _ => match st with | .int y :: .int x :: r => (cH c x y → K tgt L r h z b) ∧ (¬ cH c x y → K nx L r h z b) | _ => False
def sNul (tgt nx : Nat) : XS := fun L st h z b _ K _ => match st with | .null :: r => K tgt L r h z b | .ref _ :: r => K nx L r h z b | _ => False
theorem ok_goto {M : MR} {pc : Nat} {o : Int} (hd : decode (mB M) pc = .ok (.goto o, 3)) (ht : 0 ≤ (pc : Int) + o) : SOK M pc (sGo ((pc : Int) + o).toNat) := by
  intro d b L st h z Q K hK hs
  intro D cid N0 p l e R s m args below meth c X H locs cells slots ls h1 h2 h3 h4 h5 h6
  exact lv_goto X.1 X.2.1 hd (by omega) (hK _ _ _ _ _ _ hs D cid N0 p l e R s m args below meth c X H locs cells slots ls h1 h2 h3 h4 h5 h6)
theorem ok_if {M : MR} {pc : Nat} {cc : ClassFile.Cond} {o : Int} (hd : decode (mB M) pc = .ok (.ifCond cc o, 3)) (ht : 0 ≤ (pc : Int) + o) : SOK M pc (sIf cc ((pc : Int) + o).toNat (pc + 3)) := by
  intro d b L st h z Q K hK hs
  unfold sIf at hs
  split at hs
  · rename_i x r
    intro D cid N0 p l e R s m args below meth c X H locs cells slots ls h1 h2 h3 h4 h5 h6
    have ht2 : (pc : Int) + o = (((pc : Int) + o).toNat : Int) := by omega
    cases cc
    · exact lv_if_eq X.1 X.2.1 hd ht2 (fun q => hK _ _ _ _ _ _ (hs.1 q) D cid N0 p l e R s m args below meth c X H locs cells slots ls h1 h2 h3 h4 h5 h6) (fun q => hK _ _ _ _ _ _ (hs.2 q) D cid N0 p l e R s m args below meth c X H locs cells slots ls h1 h2 h3 h4 h5 h6)
    · exact lv_if_ne X.1 X.2.1 hd ht2 (fun q => hK _ _ _ _ _ _ (hs.1 q) D cid N0 p l e R s m args below meth c X H locs cells slots ls h1 h2 h3 h4 h5 h6) (fun q => hK _ _ _ _ _ _ (hs.2 (fun n => n q)) D cid N0 p l e R s m args below meth c X H locs cells slots ls h1 h2 h3 h4 h5 h6)
    · exact lv_if_lt X.1 X.2.1 hd ht2 (fun q => hK _ _ _ _ _ _ (hs.1 q) D cid N0 p l e R s m args below meth c X H locs cells slots ls h1 h2 h3 h4 h5 h6) (fun q => hK _ _ _ _ _ _ (hs.2 q) D cid N0 p l e R s m args below meth c X H locs cells slots ls h1 h2 h3 h4 h5 h6)
    · exact lv_if_ge X.1 X.2.1 hd ht2 (fun q => hK _ _ _ _ _ _ (hs.1 q) D cid N0 p l e R s m args below meth c X H locs cells slots ls h1 h2 h3 h4 h5 h6) (fun q => hK _ _ _ _ _ _ (hs.2 q) D cid N0 p l e R s m args below meth c X H locs cells slots ls h1 h2 h3 h4 h5 h6)
    · exact lv_if_gt X.1 X.2.1 hd ht2 (fun q => hK _ _ _ _ _ _ (hs.1 q) D cid N0 p l e R s m args below meth c X H locs cells slots ls h1 h2 h3 h4 h5 h6) (fun q => hK _ _ _ _ _ _ (hs.2 q) D cid N0 p l e R s m args below meth c X H locs cells slots ls h1 h2 h3 h4 h5 h6)
    · exact lv_if_le X.1 X.2.1 hd ht2 (fun q => hK _ _ _ _ _ _ (hs.1 q) D cid N0 p l e R s m args below meth c X H locs cells slots ls h1 h2 h3 h4 h5 h6) (fun q => hK _ _ _ _ _ _ (hs.2 q) D cid N0 p l e R s m args below meth c X H locs cells slots ls h1 h2 h3 h4 h5 h6)
  · exact hs.elim
theorem ok_cm {M : MR} {pc : Nat} {cc : ClassFile.Cond} {o : Int} (hd : decode (mB M) pc = .ok (.if_icmp cc o, 3)) (ht : 0 ≤ (pc : Int) + o) : SOK M pc (sCm cc ((pc : Int) + o).toNat (pc + 3)) := by
  intro d b L st h z Q K hK hs
  unfold sCm at hs
  split at hs
  · rename_i y x r
    intro D cid N0 p l e R s m args below meth c X H locs cells slots ls h1 h2 h3 h4 h5 h6
    have ht2 : (pc : Int) + o = (((pc : Int) + o).toNat : Int) := by omega
    cases cc
    · exact lv_icmp_eq X.1 X.2.1 hd ht2 (fun q => hK _ _ _ _ _ _ (hs.1 q) D cid N0 p l e R s m args below meth c X H locs cells slots ls h1 h2 h3 h4 h5 h6) (fun q => hK _ _ _ _ _ _ (hs.2 q) D cid N0 p l e R s m args below meth c X H locs cells slots ls h1 h2 h3 h4 h5 h6)
    · exact lv_icmp_ne X.1 X.2.1 hd ht2 (fun q => hK _ _ _ _ _ _ (hs.1 q) D cid N0 p l e R s m args below meth c X H locs cells slots ls h1 h2 h3 h4 h5 h6) (fun q => hK _ _ _ _ _ _ (hs.2 (fun n => n q)) D cid N0 p l e R s m args below meth c X H locs cells slots ls h1 h2 h3 h4 h5 h6)
    · exact lv_icmp_lt X.1 X.2.1 hd ht2 (fun q => hK _ _ _ _ _ _ (hs.1 q) D cid N0 p l e R s m args below meth c X H locs cells slots ls h1 h2 h3 h4 h5 h6) (fun q => hK _ _ _ _ _ _ (hs.2 q) D cid N0 p l e R s m args below meth c X H locs cells slots ls h1 h2 h3 h4 h5 h6)
    · exact lv_icmp_ge X.1 X.2.1 hd ht2 (fun q => hK _ _ _ _ _ _ (hs.1 q) D cid N0 p l e R s m args below meth c X H locs cells slots ls h1 h2 h3 h4 h5 h6) (fun q => hK _ _ _ _ _ _ (hs.2 q) D cid N0 p l e R s m args below meth c X H locs cells slots ls h1 h2 h3 h4 h5 h6)
    · exact lv_icmp_gt X.1 X.2.1 hd ht2 (fun q => hK _ _ _ _ _ _ (hs.1 q) D cid N0 p l e R s m args below meth c X H locs cells slots ls h1 h2 h3 h4 h5 h6) (fun q => hK _ _ _ _ _ _ (hs.2 q) D cid N0 p l e R s m args below meth c X H locs cells slots ls h1 h2 h3 h4 h5 h6)
    · exact lv_icmp_le X.1 X.2.1 hd ht2 (fun q => hK _ _ _ _ _ _ (hs.1 q) D cid N0 p l e R s m args below meth c X H locs cells slots ls h1 h2 h3 h4 h5 h6) (fun q => hK _ _ _ _ _ _ (hs.2 q) D cid N0 p l e R s m args below meth c X H locs cells slots ls h1 h2 h3 h4 h5 h6)
  · exact hs.elim
theorem ok_ifnull {M : MR} {pc : Nat} {o : Int} (hd : decode (mB M) pc = .ok (.ifnull o, 3)) (ht : 0 ≤ (pc : Int) + o) : SOK M pc (sNul ((pc : Int) + o).toNat (pc + 3)) := by
  intro d b L st h z Q K hK hs
  unfold sNul at hs
  split at hs
  · rename_i r
    intro D cid N0 p l e R s m args below meth c X H locs cells slots ls h1 h2 h3 h4 h5 h6
    exact lv_ifnullN X.1 X.2.1 hd (by omega) (hK _ _ _ _ _ _ hs D cid N0 p l e R s m args below meth c X H locs cells slots ls h1 h2 h3 h4 h5 h6)
  · rename_i x r
    intro D cid N0 p l e R s m args below meth c X H locs cells slots ls h1 h2 h3 h4 h5 h6
    exact lv_ifnull X.1 X.2.1 hd (hK _ _ _ _ _ _ hs D cid N0 p l e R s m args below meth c X H locs cells slots ls h1 h2 h3 h4 h5 h6)
  · exact hs.elim
theorem ok_ifnonnull {M : MR} {pc : Nat} {o : Int} (hd : decode (mB M) pc = .ok (.ifnonnull o, 3)) (ht : 0 ≤ (pc : Int) + o) : SOK M pc (sNul (pc + 3) ((pc : Int) + o).toNat) := by
  intro d b L st h z Q K hK hs
  unfold sNul at hs
  split at hs
  · rename_i r
    intro D cid N0 p l e R s m args below meth c X H locs cells slots ls h1 h2 h3 h4 h5 h6
    exact lv_ifnonnullN X.1 X.2.1 hd (hK _ _ _ _ _ _ hs D cid N0 p l e R s m args below meth c X H locs cells slots ls h1 h2 h3 h4 h5 h6)
  · rename_i x r
    intro D cid N0 p l e R s m args below meth c X H locs cells slots ls h1 h2 h3 h4 h5 h6
    exact lv_ifnonnull X.1 X.2.1 hd (by omega) (hK _ _ _ _ _ _ hs D cid N0 p l e R s m args below meth c X H locs cells slots ls h1 h2 h3 h4 h5 h6)
  · exact hs.elim
