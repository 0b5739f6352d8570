/-! THE STEPS: grids, instanceof, switches, answers, calls -/
def gHeap (h : XH) (z n k : Nat) : XH := fun a => if a = z then some (.inl (6, n, .inr (.inr (.inr (.inr (fun i => if i < n then some (z + 1 + i) else none)))))) else if z < a ∧ a ≤ z + n then some (.inl (0, k, .inl (fun _ => 0))) else h a
def sMna (nx : Nat) : XS := fun L st h z b _ K _ => match st with
  | .int k :: .int n :: r => (¬ n < 0) ∧ (¬ k < 0) ∧ n.toNatClampNeg + 1 ≤ b ∧ n.toNatClampNeg ≤ 150 ∧ k.toNatClampNeg ≤ 150 ∧ K nx L (.ref z :: r) (gHeap h z n.toNatClampNeg k.toNatClampNeg) (z + 1 + n.toNatClampNeg) (b - (n.toNatClampNeg + 1))
  | _ => False
theorem fill_at {T : State} {cA cy : ClassId} {n k : Nat} : ∀ j, j < n → (Jvm.Free.Multi.fill T cA cy n k (defaultValue .int) n).heap[T.heap.size + 1 + j]? = some (vp_cell cy (k, .inl (fun _ => 0))) := by
  intro j hj
  have := Jvm.Free.Multi.fill_inner T cA cy n k (defaultValue .int) n j hj
  rw [this]
  refine congrArg some ?_
  show ({ cls := cy, slots := Array.replicate k (.int 0), vm := .none } : Cell) = _
  rw [arrV_new]
  rfl
theorem fill_out (c : ClassId) (N h0 : Nat) : ∀ i : Nat, Jvm.Free.Multi.outerC c N h0 i = arrV c N (fun j => va_rf (if j < i then some (h0 + 1 + j) else none))
  | 0 => by
    show ({ cls := c, slots := Array.replicate N .null, vm := .none } : Cell) = _
    rw [arrV_new]
    refine congrArg (arrV c N) (funext fun j => ?_)
    simp [va_rf]
  | i + 1 => by
    show (Jvm.Free.Multi.outerC c N h0 i).setSlot i (.ref (h0 + 1 + i)) = _
    rw [fill_out c N h0 i, arrV_store]
    refine congrArg (arrV c N) (funext fun j => ?_)
    by_cases e : j = i
    · subst e
      simp [updV, va_rf]
    · by_cases h : j < i
      · simp [updV, e, h, Nat.lt_succ_of_lt h]
      · simp [updV, e, h, show ¬ j < i + 1 by omega]
theorem ok_mna {M : MR} {pc i : Nat} (hd : decode (mB M) pc = .ok (.multianewarray i 2, 4)) (w1 : Cond.classLink (mN M).cls i ("[" ++ (FieldType.array .int).toString) ∈ xTB) (w2 : Cond.arrayClass .int ∈ xTB) : SOK M pc (sMna (pc + 4)) := by
  intro d b L st h z Q K hK hs
  unfold sMna at hs
  split at hs
  · rename_i k n r
    obtain ⟨hn, hk, hb, hn3, hk3, hs⟩ := hs
    intro D cid N0 p l e R s m args below meth c X H locs cells slots ls h1 h2 h3 h4 h5 h6 T hT Xs
    have hts := X.2.2.2.2.2.1
    have hz : H.size = z := h1.1
    have hmul : n.toNatClampNeg * k.toNatClampNeg ≤ n.toNatClampNeg * 150 := Nat.mul_le_mul_left _ hk3
    obtain ⟨vm₁, cA, comp, -, fA, fC, hO, -, X', step⟩ := Xs.multianewarray2F X.1 X.2.2.2.2.1 (hts _ w1) X.2.2.2.2.2.2.1.2.2.2.1 (hts _ w2) (g := F0 m pc ls (.int k :: .int n :: r)) rfl (by rw [X.2.1]; exact hd) rfl hn hk (by omega) (by show _ * 4 ≤ _; omega) (by omega) rfl rfl (by omega) (by omega)
    have e6 : cA = cid 6 := by
      have := (X.2.2.2.2.2.2.1.1.2 6 _ (xTys_at (t := 6) rfl)).2
      exact Option.some.inj (fA.symm.trans this)
    have e0 : comp = cid 0 := by
      have := (X.2.2.2.2.2.2.1.1.2 0 _ (xTys_at (t := 0) rfl)).2
      exact Option.some.inj (fC.symm.trans this)
    subst e6; subst e0
    have hat := @fill_at (T.setVm vm₁) (cid 6) (cid 0) n.toNatClampNeg k.toNatClampNeg
    generalize hF : Jvm.Free.Multi.fill (T.setVm vm₁) (cid 6) (cid 0) n.toNatClampNeg k.toNatClampNeg (defaultValue .int) n.toNatClampNeg = F at X' step hat
    have hTh : (T.setVm vm₁).heap = H := hT
    obtain ⟨f1, f2, -, -⟩ := Jvm.Free.Multi.fill_facts (T.setVm vm₁) (cid 6) (cid 0) n.toNatClampNeg k.toNatClampNeg (defaultValue .int) n.toNatClampNeg
    rw [hF, hTh] at f1 f2
    rw [hTh] at hat
    have hold : ∀ x : Nat, x < H.size → F.heap[x]? = H[x]? := fun x hx => by
      have := Jvm.Free.Multi.fill_old (T.setVm vm₁) (cid 6) (cid 0) n.toNatClampNeg k.toNatClampNeg (defaultValue .int) (a := x) (by rw [hTh]; exact hx) n.toNatClampNeg
      rw [hF, hTh] at this
      exact this
    have hHR : HR D cid s N0 (gHeap h z n.toNatClampNeg k.toNatClampNeg) (z + 1 + n.toNatClampNeg) F.heap := by
      refine ⟨by rw [f1, hz], by have := h1.2.1; omega, fun a e' ha => ?_⟩
      unfold gHeap at ha
      split at ha
      · rename_i c1
        cases ha
        refine .inl ⟨by decide, by rw [c1]; exact h1.2.1, ?_⟩
        rw [c1, ← hz, f2, vp_cell_q, fill_out]
      · split at ha
        · rename_i c1 c2
          cases ha
          refine .inl ⟨by decide, by have := h1.2.1; omega, ?_⟩
          have := hat (a - (z + 1)) (by omega)
          rw [← this, hz]
          congr 1
          omega
        · exact (h1.2.2 a e' ha).kept (hold a (h1.2.2 a e' ha).lt)
    have hSF : SF N0 s F.heap := ⟨by rw [f1]; have := h3.1; omega, fun q g1 g2 => (hold q (Nat.lt_of_lt_of_le g1 h3.1)).trans (h3.2 q g1 g2)⟩
    have kk := hK _ _ _ _ _ _ hs D cid N0 p l e R s m args below meth c X F.heap locs (cells + 1 + n.toNatClampNeg) (slots + n.toNatClampNeg + n.toNatClampNeg * k.toNatClampNeg) ls hHR h2 hSF (by omega) (by omega) h6
    have kk2 : W p l e R s m args below meth c F.heap locs (cells + 1 + n.toNatClampNeg) (slots + n.toNatClampNeg + n.toNatClampNeg * k.toNatClampNeg) (MQ below (QC D cid N0 Q) args s (cells + b) (slots + 300 * b) (fun q => N0 ≤ q)) (F0 m (pc + 4) ls (.ref z :: r)) := by
      refine W.widen (k := cells + 1 + n.toNatClampNeg) (n := slots + 300 * (n.toNatClampNeg + 1)) (Nat.le_refl _) (by omega) ?_
      have kk := hK _ _ _ _ _ _ hs D cid N0 p l e R s m args below meth c X F.heap locs (cells + 1 + n.toNatClampNeg) (slots + 300 * (n.toNatClampNeg + 1)) ls hHR h2 hSF (by omega) (by omega) h6
      rw [show cells + 1 + n.toNatClampNeg + (b - (n.toNatClampNeg + 1)) = cells + b by omega, show slots + 300 * (n.toNatClampNeg + 1) + 300 * (b - (n.toNatClampNeg + 1)) = slots + 300 * b by omega] at kk
      exact kk
    obtain ⟨t, a1, b1⟩ := kk2 F rfl X'
    refine ⟨t, step t ?_, b1⟩
    have e : T.heap.size = z := by rw [hT, hz]
    rw [e]
    exact a1
  · exact hs.elim
/-- instanceof: the classes that are, those that aren't -/
def sIns (y n : List Nat) (nx : Nat) : XS := fun L st h z b _ K _ => match st with
  | .ref a :: r => match h a with
    | some (.inr (ci, _)) => (ci ∈ y ∧ K nx L (.int 1 :: r) h z b) ∨ (ci ∈ n ∧ K nx L (.int 0 :: r) h z b)
    | _ => False
  | _ => False
theorem ok_ins {M : MR} {pc i : Nat} {y n : List Nat} {nm : String} (hd : decode (mB M) pc = .ok (.instanceof i, 3)) (w1 : Cond.classLink (mN M).cls i nm ∈ xTB) (hy : ∀ ci ∈ y, ∃ C T N, xcl[ci]? = some (C, T, N) ∧ (C = nm ∨ Cond.castable C nm ∈ xNW)) (hn : ∀ ci ∈ n, ∃ C T N, xcl[ci]? = some (C, T, N) ∧ (C, nm) ∈ xNC) : SOK M pc (sIns y n (pc + 3)) := by
  intro d b L st h z Q K hK hs
  unfold sIns at hs
  split at hs
  · rename_i a r
    split at hs
    · rename_i ci fs ha
      intro D cid N0 p l e R s m args below meth c X H locs cells slots ls h1 h2 h3 h4 h5 h6
      have hts := X.2.2.2.2.2.1
      obtain ⟨q', hq', cell, g1, g2, g3, -⟩ := (h1.2.2 a _ ha).2
      rcases hs with ⟨hm, hs⟩ | ⟨hm, hs⟩
      · obtain ⟨C, T, N, c1, c2⟩ := hy ci hm
        have kk := hK _ _ _ _ _ _ hs D cid N0 p l e R s m args below meth c X H locs cells slots ls h1 h2 h3 h4 h5 h6
        have hKn := (X.2.2.2.2.2.2.1.1.1 ci _ c1).2
        have hrecv : ∃ cell : Cell, H[a]? = some cell ∧ cell.vm.isStatics = false ∧ s.vm.findClass C = some cell.cls := ⟨cell, g1, by rw [g3]; rfl, by rw [g2]; exact hKn.1⟩
        rcases c2 with rfl | c2
        · exact va_instS X.1 X.2.1 X.2.2.2.2.1 (hts _ w1) hKn hrecv hd kk
        · exact va_instY X.1 X.2.1 X.2.2.2.2.1 (hts _ w1) (X.2.2.2.2.2.2.1.2.1 _ c2) hrecv hd kk
      · obtain ⟨C, T, N, c1, c2⟩ := hn ci hm
        have kk := hK _ _ _ _ _ _ hs D cid N0 p l e R s m args below meth c X H locs cells slots ls h1 h2 h3 h4 h5 h6
        have hKn := (X.2.2.2.2.2.2.1.1.1 ci _ c1).2
        exact va_instNo X.1 X.2.1 X.2.2.2.2.1 (hts _ w1) (X.2.2.2.2.2.2.1.2.2.2.2 _ c2) ⟨cell, g1, by rw [g3]; rfl, by rw [g2]; exact hKn.1⟩ hd kk
    · exact hs.elim
  · exact hs.elim
/-! switches -/
def swK : List (Int × Nat) → Nat → Int32 → (Nat → Prop) → Prop
  | [], df, _, P => P df
  | (c, t) :: r, df, x, P => (x = Int32.ofInt c → P t) ∧ (¬ x = Int32.ofInt c → swK r df x P)
def sSw (cs : List (Int × Nat)) (df : Nat) : XS := fun L st h z b _ K _ => match st with
  | .int x :: r => swK cs df x (fun t => K t L r h z b)
  | _ => False
def twc (pc : Nat) : Int → List Int → List (Int × Nat)
  | _, [] => []
  | lo, o :: os => (lo, ((pc : Int) + o).toNat) :: twc pc (lo + 1) os
theorem sw_int {x : Int32} {c : Int} (h1 : -2147483648 ≤ c) (h2 : c < 2147483648) : x = Int32.ofInt c ↔ x.toInt = c := by
  constructor
  · intro h
    rw [h, Int32.toInt_ofInt]
    simp [Int.bmod_def]
    omega
  · intro h
    rw [← h]
    simp
theorem twc_in {pc df : Nat} {x : Int32} {P : Nat → Prop} : ∀ (os : List Int) (lo : Int), -2147483648 ≤ lo → lo + os.length ≤ 2147483648 → swK (twc pc lo os) df x P → ∀ (i : Nat) (o : Int), os[i]? = some o → x.toInt = lo + i → P ((pc : Int) + o).toNat
  | [], lo, _, _, _, i, o, h, _ => by simp at h
  | o' :: os, lo, a1, a2, hs, i, o, h, hx => by
    simp only [twc, swK, List.length_cons] at hs a2
    by_cases c : x = Int32.ofInt lo
    · have := (sw_int a1 (by omega)).mp c
      have i0 : i = 0 := by omega
      subst i0
      simp at h
      subst h
      exact hs.1 c
    · have h' : x.toInt ≠ lo := fun q => c ((sw_int a1 (by omega)).mpr q)
      cases i with
      | zero => omega
      | succ i => exact twc_in os (lo + 1) (by omega) (by omega) (hs.2 c) i o (by simpa using h) (by omega)
theorem twc_out {pc df : Nat} {x : Int32} {P : Nat → Prop} : ∀ (os : List Int) (lo : Int), -2147483648 ≤ lo → lo + os.length ≤ 2147483648 → swK (twc pc lo os) df x P → (x.toInt < lo ∨ lo + os.length ≤ x.toInt) → P df
  | [], lo, _, _, hs, _ => hs
  | o' :: os, lo, a1, a2, hs, hx => by
    simp only [twc, swK, List.length_cons] at hs a2 hx
    have c : ¬ x = Int32.ofInt lo := fun q => by
      have := (sw_int a1 (by omega)).mp q
      omega
    exact twc_out os (lo + 1) (by omega) (by omega) (hs.2 c) (by omega)
theorem ok_tsw {M : MR} {pc len : Nat} {dflt lo hi : Int} {offs : Array Int} (hd : decode (mB M) pc = .ok (.tableswitch dflt lo hi offs, len)) (h1 : -2147483648 ≤ lo) (h2 : hi < 2147483648) (h3 : lo + offs.toList.length = hi + 1) (h4 : 0 ≤ (pc : Int) + dflt) (h5 : ∀ o ∈ offs.toList, 0 ≤ (pc : Int) + o) : SOK M pc (sSw (twc pc lo offs.toList) ((pc : Int) + dflt).toNat) := by
  intro d b L st h z Q K hK hs
  unfold sSw at hs
  split at hs
  · rename_i x r
    intro D cid N0 p l e R s m args below meth c X H locs cells slots ls g1 g2 g3 g4 g5 g6
    by_cases hx : x.toInt < lo ∨ hi < x.toInt
    · have := twc_out _ _ h1 (by omega) hs (by omega)
      exact lv_tableOut X.1 X.2.1 hd hx (by omega) (hK _ _ _ _ _ _ this D cid N0 p l e R s m args below meth c X H locs cells slots ls g1 g2 g3 g4 g5 g6)
    · have hi' : (x.toInt - lo).toNat < offs.toList.length := by omega
      have hg : offs.toList[(x.toInt - lo).toNat]? = some offs.toList[(x.toInt - lo).toNat] := List.getElem?_eq_getElem hi'
      generalize offs.toList[(x.toInt - lo).toNat] = o at hg
      have := twc_in _ _ h1 (by omega) hs _ o hg (by omega)
      have h0 := h5 o (List.mem_of_getElem? hg)
      exact lv_tableIn X.1 X.2.1 hd (fun q => hx (.inl q)) (fun q => hx (.inr q)) (by rw [← Array.getElem?_toList]; exact hg) (by omega) (hK _ _ _ _ _ _ this D cid N0 p l e R s m args below meth c X H locs cells slots ls g1 g2 g3 g4 g5 g6)
  · exact hs.elim
def lwc (pc : Nat) (ps : List (Int × Int)) : List (Int × Nat) := ps.map fun q => (q.1, ((pc : Int) + q.2).toNat)
theorem lwc_at {pc : Nat} {x : Int32} {P : Nat → Prop} {dflt : Int} : ∀ (ps : List (Int × Int)), (∀ q ∈ ps, -2147483648 ≤ q.1 ∧ q.1 < 2147483648) → swK (lwc pc ps) ((pc : Int) + dflt).toNat x P → P ((pc : Int) + Op.lookupswitch.offset ps dflt x.toInt).toNat
  | [], _, hs => hs
  | (a, o) :: ps, hr, hs => by
    have ha := hr _ List.mem_cons_self
    simp only [lwc, List.map_cons, swK] at hs
    rw [Op.lookupswitch.offset_cons]
    by_cases c : x = Int32.ofInt a
    · rw [if_pos ((sw_int ha.1 ha.2).mp c).symm]
      exact hs.1 c
    · rw [if_neg (fun q => c ((sw_int ha.1 ha.2).mpr q.symm))]
      exact lwc_at ps (fun q hq => hr q (List.mem_cons_of_mem _ hq)) (hs.2 c)
theorem lwc_pos {pc : Nat} {x dflt : Int} : ∀ (ps : List (Int × Int)), (∀ q ∈ ps, 0 ≤ (pc : Int) + q.2) → 0 ≤ (pc : Int) + dflt → 0 ≤ (pc : Int) + Op.lookupswitch.offset ps dflt x
  | [], _, h => h
  | (a, o) :: ps, hr, h => by
    rw [Op.lookupswitch.offset_cons]
    split
    · exact hr _ List.mem_cons_self
    · exact lwc_pos ps (fun q hq => hr q (List.mem_cons_of_mem _ hq)) h
theorem ok_lsw {M : MR} {pc len : Nat} {dflt : Int} {ps : Array (Int × Int)} (hd : decode (mB M) pc = .ok (.lookupswitch dflt ps, len)) (h1 : (ps.toList.zip (ps.toList.drop 1)).all (fun (a, next) => a.1 < next.1) = true) (h2 : ∀ q ∈ ps.toList, -2147483648 ≤ q.1 ∧ q.1 < 2147483648) (h4 : 0 ≤ (pc : Int) + dflt) (h5 : ∀ q ∈ ps.toList, 0 ≤ (pc : Int) + q.2) : SOK M pc (sSw (lwc pc ps.toList) ((pc : Int) + dflt).toNat) := by
  intro d b L st h z Q K hK hs
  unfold sSw at hs
  split at hs
  · rename_i x r
    intro D cid N0 p l e R s m args below meth c X H locs cells slots ls g1 g2 g3 g4 g5 g6
    have h0 := lwc_pos (x := x.toInt) _ h5 h4
    have hs2 := lwc_at (P := fun t => K t L r h z b) _ h2 hs
    exact lv_lookup X.1 X.2.1 hd h1 rfl (tgt := ((pc : Int) + Op.lookupswitch.offset ps.toList dflt x.toInt).toNat) (by omega) (hK _ _ _ _ _ _ hs2 D cid N0 p l e R s m args below meth c X H locs cells slots ls g1 g2 g3 g4 g5 g6)
  · exact hs.elim
/-! answers -/
theorem QC_of {D : va_G} {cid : Nat → ClassId} {N0 : Nat} {Q : XQ} {args : Array Value} {s : State} {H : Heap} {v : Option Value} {h : XH} {z : Nat} (hq : Q v h z) (h1 : HR D cid s N0 h z H) (h3 : SF N0 s H) : ∀ t : State, t.heap = H → s.WarmedH t.vm → QC D cid N0 Q args s (.returned v) t := by
  intro t ht hW
  exact ⟨v, h, z, rfl, hq, by rw [ht]; exact h1.moved hW.alike, by rw [ht]; exact h3⟩
def sIret (ty : FieldType) : XS := fun _ st h z _ Q _ _ => match st with
  | [.int x] => narrow ty (.int x) = .int x ∧ Q (some (.int x)) h z
  | _ => False
def sLret : XS := fun _ st h z _ Q _ _ => match st with
  | [.long x] => Q (some (.long x)) h z
  | _ => False
def sAret : XS := fun _ st h z _ Q _ _ => match st with
  | [.ref x] => Q (some (.ref x)) h z
  | [.null] => Q (some .null) h z
  | _ => False
def sVret : XS := fun _ st h z _ Q _ _ => match st with
  | [] => Q none h z
  | _ => False
theorem ok_iret {M : MR} {pc : Nat} {ty : FieldType} (hd : decode (mB M) pc = .ok (.ireturn, 1)) (hr : mR M = some ty) : SOK M pc (sIret ty) := by
  intro d b L st h z Q K hK hs
  unfold sIret at hs
  split at hs
  · obtain ⟨hn, hs⟩ := hs
    intro D cid N0 p l e R s m args below meth c X H locs cells slots ls h1 h2 h3 h4 h5 h6
    exact W.widen (k := cells + b) (n := slots + 300 * b) (by omega) (by omega) (W.zret X.1 X.2.1 (X.2.2.1.trans hr) hn (QC_of hs h1 h3) h2 hd X.2.2.2.2.2.2.2.1)
  · exact hs.elim
theorem ok_lret {M : MR} {pc : Nat} (hd : decode (mB M) pc = .ok (.lreturn, 1)) (hr : mR M = some .long) : SOK M pc sLret := by
  intro d b L st h z Q K hK hs
  unfold sLret at hs
  split at hs
  · intro D cid N0 p l e R s m args below meth c X H locs cells slots ls h1 h2 h3 h4 h5 h6
    exact W.widen (k := cells + b) (n := slots + 300 * b) (by omega) (by omega) (W.lret X.1 X.2.1 (X.2.2.1.trans hr) (QC_of hs h1 h3) h2 hd X.2.2.2.2.2.2.2.1)
  · exact hs.elim
theorem ok_aret {M : MR} {pc : Nat} {C : String} (hd : decode (mB M) pc = .ok (.areturn, 1)) (hr : mR M = some (.object C)) : SOK M pc sAret := by
  intro d b L st h z Q K hK hs
  unfold sAret at hs
  split at hs
  · rename_i x
    intro D cid N0 p l e R s m args below meth c X H locs cells slots ls h1 h2 h3 h4 h5 h6
    exact W.widen (k := cells + b) (n := slots + 300 * b) (by omega) (by omega) (W.aret X.1 X.2.1 (X.2.2.1.trans hr) (.inl ⟨_, rfl⟩) (.inr ⟨_, rfl⟩) (QC_of hs h1 h3) h2 hd X.2.2.2.2.2.2.2.1)
  · intro D cid N0 p l e R s m args below meth c X H locs cells slots ls h1 h2 h3 h4 h5 h6
    exact W.widen (k := cells + b) (n := slots + 300 * b) (by omega) (by omega) (W.aret X.1 X.2.1 (X.2.2.1.trans hr) (.inl ⟨_, rfl⟩) (.inl rfl) (QC_of hs h1 h3) h2 hd X.2.2.2.2.2.2.2.1)
  · exact hs.elim
theorem ok_vret {M : MR} {pc : Nat} (hd : decode (mB M) pc = .ok (.return_, 1)) (hr : mR M = none) : SOK M pc sVret := by
  intro d b L st h z Q K hK hs
  unfold sVret at hs
  split at hs
  · intro D cid N0 p l e R s m args below meth c X H locs cells slots ls h1 h2 h3 h4 h5 h6
    exact W.widen (k := cells + b) (n := slots + 300 * b) (by omega) (by omega) (W.vret X.1 X.2.1 (X.2.2.1.trans hr) (QC_of hs h1 h3) h2 hd X.2.2.2.2.2.2.2.1)
  · exact hs.elim
