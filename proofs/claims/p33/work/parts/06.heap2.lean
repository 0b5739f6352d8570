/-! THE STEPS ON ARRAYS, NEW CELLS, ANSWERS -/
def sCal (nx : Nat) : XS := fun L st h z b _ K _ => match st with
  | .int i :: .ref a :: r => match h a with
    | some (.inl (t, n, .inl f)) => t = 1 ∧ vp_in i n ∧ K nx L (.int (f i.toNatClampNeg) :: r) h z b
    | _ => False
  | _ => False
theorem ok_cal {M : MR} {pc : Nat} (hd : decode (mB M) pc = .ok (.caload, 1)) : SOK M pc (sCal (pc + 1)) := by
  intro d b L st h z Q K hK hs
  unfold sCal at hs
  split at hs
  · rename_i i a r
    split at hs
    · rename_i t n f ha
      obtain ⟨ht, hin, hs⟩ := hs
      subst ht
      intro D cid N0 p l e R s m args below meth c X H locs cells slots ls h1 h2 h3 h4 h5 h6
      have kk := (hK _ _ _ _ _ _ hs D cid N0 p l e R s m args below meth c X H locs cells slots ls h1 h2 h3 h4 h5 h6)
      rcases h1.2.2 a _ ha with ⟨t7, -, hc⟩ | ⟨t9, -⟩
      · exact va_cald X.1 X.2.1 X.2.2.2.2.2.2.1.1 (hP1 hc) 0 1 rfl (xTys_at (t := 1) rfl) hin hd kk
      · cases t9
    · exact hs.elim
  · exact hs.elim
def sLal (nx : Nat) : XS := fun L st h z b _ K _ => match st with
  | .int i :: .ref a :: r => match h a with
    | some (.inl (t, n, .inr (.inl f))) => t = 2 ∧ vp_in i n ∧ K nx L (.long (f i.toNatClampNeg) :: r) h z b
    | _ => False
  | _ => False
def sAal (nx : Nat) : XS := fun L st h z b _ K _ => match st with
  | .int i :: .ref a :: r => match h a with
    | some (.inl (t, n, .inr (.inr (.inr (.inr f))))) => (t = 3 ∨ t = 4 ∨ t = 5 ∨ t = 6) ∧ vp_in i n ∧ K nx L (va_rf (f i.toNatClampNeg) :: r) h z b
    | _ => False
  | _ => False
theorem ok_aal {M : MR} {pc : Nat} (hd : decode (mB M) pc = .ok (.aaload, 1)) : SOK M pc (sAal (pc + 1)) := by
  intro d b L st h z Q K hK hs
  unfold sAal at hs
  split at hs
  · rename_i i a r
    split at hs
    · rename_i t n f ha
      obtain ⟨ht, hin, hs⟩ := hs
      intro D cid N0 p l e R s m args below meth c X H locs cells slots ls h1 h2 h3 h4 h5 h6
      have kk := (hK _ _ _ _ _ _ hs D cid N0 p l e R s m args below meth c X H locs cells slots ls h1 h2 h3 h4 h5 h6)
      have hlt : i.toNatClampNeg < n := Nat.not_le.mp fun q => hin (Or.inr q)
      rcases h1.2.2 a _ ha with ⟨t7, -, hc⟩ | ⟨t9, -⟩
      · have hAr : ∃ ty : FieldType, ty.isReference = true ∧ ArrOfT s (cid t) ty := by
          have hK1 := X.2.2.2.2.2.2.1.1
          rcases ht with rfl | rfl | rfl | rfl
          · exact ⟨_, rfl, (hK1.2 3 _ (xTys_at (t := 3) rfl)).1⟩
          · exact ⟨_, rfl, (hK1.2 4 _ (xTys_at (t := 4) rfl)).1⟩
          · exact ⟨_, rfl, (hK1.2 5 _ (xTys_at (t := 5) rfl)).1⟩
          · exact ⟨_, rfl, (hK1.2 6 _ (xTys_at (t := 6) rfl)).1⟩
        obtain ⟨ty, hr, hA⟩ := hAr
        exact W.aald (v := va_rf (f i.toNatClampNeg)) (ty := ty) X.1 X.2.1 hc (hA n (fun j => va_rf (f j))) hr (fun q => by cases q) (by show ¬ (i < 0 ∨ (arrV _ _ _).slots.size ≤ _); rw [arrV_size]; exact hin) (by show (arrV _ _ _).slots[_]? = _; rw [arrV_read _ _ hlt]) rfl rfl hd kk
      · omega
    · exact hs.elim
  · exact hs.elim
def sIas (nx : Nat) : XS := fun L st h z b _ K _ => match st with
  | .int x :: .int i :: .ref a :: r => match h a with
    | some (.inl (t, n, .inl f)) => t = 0 ∧ vp_in i n ∧ K nx L r (hset h a (.inl (0, n, .inl (upd f i.toNatClampNeg x)))) z b
    | _ => False
  | _ => False
theorem ok_ias {M : MR} {pc : Nat} (hd : decode (mB M) pc = .ok (.iastore, 1)) : SOK M pc (sIas (pc + 1)) := by
  intro d b L st h z Q K hK hs
  unfold sIas at hs
  split at hs
  · rename_i x i a r
    split at hs
    · rename_i t n f ha
      obtain ⟨ht, hin, hs⟩ := hs
      subst ht
      intro D cid N0 p l e R s m args below meth c X H locs cells slots ls h1 h2 h3 h4 h5 h6
      rcases h1.2.2 a _ ha with ⟨t7, ha0, hc⟩ | ⟨t9, -⟩
      · have hlt : i.toNatClampNeg < n := Nat.not_le.mp fun q => hin (Or.inr q)
        refine W.iast X.1 X.2.1 hc ((X.2.2.2.2.2.2.1.1.2 0 _ (xTys_at (t := 0) rfl)).1 n (fun j => .int (f j))) (fun q => by cases q) (by show ¬ (i < 0 ∨ (arrV _ _ _).slots.size ≤ _); rw [arrV_size]; exact hin) rfl rfl hd fun H1 e1 e2 e3 => ?_
        refine hK _ _ _ _ _ _ hs D cid N0 p l e R s m args below meth c X H1 _ cells slots ls (h1.set e2 e3 (.inl ⟨by decide, ha0, ?_⟩)) (fun q hq => ?_) (h3.put ha0 e2 e3) h4 h5 h6
        · rw [e1, vp_cell_i, vp_cell_i, arrV_store]
          congr 2
          funext q
          by_cases hq : q = i.toNatClampNeg
          · subst hq
            simp [updV, upd]
            try rfl
          · simp [updV, upd, hq]
        · rcases List.mem_append.mp hq with h' | h'
          · exact h2 q h'
          · rw [List.mem_singleton.mp h']; exact ha0
      · cases t9
    · exact hs.elim
  · exact hs.elim
def sCas (nx : Nat) : XS := fun L st h z b _ K _ => match st with
  | .int x :: .int i :: .ref a :: r => match h a with
    | some (.inl (t, n, .inl f)) => t = 1 ∧ vp_in i n ∧ K nx L r (hset h a (.inl (1, n, .inl (upd f i.toNatClampNeg (vp_nar .char x))))) z b
    | _ => False
  | _ => False
theorem ok_cas {M : MR} {pc : Nat} (hd : decode (mB M) pc = .ok (.castore, 1)) : SOK M pc (sCas (pc + 1)) := by
  intro d b L st h z Q K hK hs
  unfold sCas at hs
  split at hs
  · rename_i x i a r
    split at hs
    · rename_i t n f ha
      obtain ⟨ht, hin, hs⟩ := hs
      subst ht
      intro D cid N0 p l e R s m args below meth c X H locs cells slots ls h1 h2 h3 h4 h5 h6
      rcases h1.2.2 a _ ha with ⟨t7, ha0, hc⟩ | ⟨t9, -⟩
      · have hlt : i.toNatClampNeg < n := Nat.not_le.mp fun q => hin (Or.inr q)
        refine W.cast X.1 X.2.1 hc ((X.2.2.2.2.2.2.1.1.2 1 _ (xTys_at (t := 1) rfl)).1 n (fun j => .int (f j))) (fun q => by cases q) (by show ¬ (i < 0 ∨ (arrV _ _ _).slots.size ≤ _); rw [arrV_size]; exact hin) rfl rfl hd fun H1 e1 e2 e3 => ?_
        refine hK _ _ _ _ _ _ hs D cid N0 p l e R s m args below meth c X H1 _ cells slots ls (h1.set e2 e3 (.inl ⟨by decide, ha0, ?_⟩)) (fun q hq => ?_) (h3.put ha0 e2 e3) h4 h5 h6
        · rw [e1, vp_cell_i, vp_cell_i, arrV_store]
          congr 2
          funext q
          by_cases hq : q = i.toNatClampNeg
          · subst hq
            simp [updV, upd, vp_nar]
            try rfl
          · simp [updV, upd, vp_nar, hq]
        · rcases List.mem_append.mp hq with h' | h'
          · exact h2 q h'
          · rw [List.mem_singleton.mp h']; exact ha0
      · cases t9
    · exact hs.elim
  · exact hs.elim
def sLas (nx : Nat) : XS := fun L st h z b _ K _ => match st with
  | .long x :: .int i :: .ref a :: r => match h a with
    | some (.inl (t, n, .inr (.inl f))) => t = 2 ∧ vp_in i n ∧ K nx L r (hset h a (.inl (2, n, .inr (.inl (vp_updL f i.toNatClampNeg x))))) z b
    | _ => False
  | _ => False
/-- which classes' objects an array of references takes -/
def aTk : Nat → List Nat
  | 3 => [3]
  | 4 => [1, 6, 8, 9]
  | 5 => [5]
  | _ => []
def sAas (nx : Nat) : XS := fun L st h z b _ K _ => match st with
  | .ref v :: .int i :: .ref a :: r => match h a, h v with
    | some (.inl (t, n, .inr (.inr (.inr (.inr f))))), some (.inr (ci, _)) => ci ∈ aTk t ∧ vp_in i n ∧ K nx L r (hset h a (.inl (t, n, .inr (.inr (.inr (.inr (va_up f i.toNatClampNeg (some v)))))))) z b
    | _, _ => False
  | _ => False
theorem aTk_ok {D : va_G} {cid : Nat → ClassId} {s : State} (hK : KX D cid s) {t ci : Nat} (h : ci ∈ aTk t) : ∃ (kA : Class) (comp : ClassId) (E : String) (kE kC : Class), s.vm.classes[cid t]? = some kA ∧ kA.kind = .array comp (.object E) ∧ s.vm.classes[comp]? = some kE ∧ s.vm.classes[D.1 ci]? = some kC ∧ s.vm.assignable (D.1 ci) comp = true := by
  have same : ∀ (t ci : Nat) (E : String) (T : u_T) (N : Nat), xty[t]? = some (.object E) → xcl[ci]? = some (E, T, N) → ∃ (kA : Class) (comp : ClassId) (E : String) (kE kC : Class), s.vm.classes[cid t]? = some kA ∧ kA.kind = .array comp (.object E) ∧ s.vm.classes[comp]? = some kE ∧ s.vm.classes[D.1 ci]? = some kC ∧ s.vm.assignable (D.1 ci) comp = true := by
    intro t ci E T N h1 h2
    obtain ⟨kA, comp, k1, k2, k3, -⟩ := (hK.1.2 t _ (xTys_at h1)).2
    have hcls := (hK.1.1 ci _ h2).2
    have hcomp : comp = D.1 ci := Option.some.inj (k3.symm.trans hcls.1)
    subst hcomp
    obtain ⟨kC, hkC, -⟩ := hcls.2
    exact ⟨kA, _, E, kC, kC, k1, k2, hkC, hkC, va_assign hcls⟩
  have sub : ∀ (t ci : Nat) (C E : String) (T : u_T) (N : Nat), xty[t]? = some (.object E) → xcl[ci]? = some (C, T, N) → Cond.castable C E ∈ xNW → ∃ (kA : Class) (comp : ClassId) (E : String) (kE kC : Class), s.vm.classes[cid t]? = some kA ∧ kA.kind = .array comp (.object E) ∧ s.vm.classes[comp]? = some kE ∧ s.vm.classes[D.1 ci]? = some kC ∧ s.vm.assignable (D.1 ci) comp = true := by
    intro t ci C E T N h1 h2 h3
    obtain ⟨kA, comp, k1, k2, k3, -⟩ := (hK.1.2 t _ (xTys_at h1)).2
    have hcls := (hK.1.1 ci _ h2).2
    obtain ⟨kE, hkE, -⟩ := Vm.findClass_spec k3
    obtain ⟨c0, t1, f1, f2, f3⟩ := Cond.castable_spec (va_Nw.use (A := #[]) rfl (hK.2.1 _ h3))
    cases hcls.1.symm.trans f1
    cases k3.symm.trans f2
    obtain ⟨kC, hkC, -⟩ := hcls.2
    exact ⟨kA, _, E, kE, kC, k1, k2, hkE, hkC, f3⟩
  match t, h with
  | 3, h => rw [List.mem_singleton.mp h]; exact same 3 3 _ _ _ rfl rfl
  | 5, h => rw [List.mem_singleton.mp h]; exact same 5 5 _ _ _ rfl rfl
  | 4, h =>
    rcases List.mem_cons.mp h with rfl | h
    · exact sub 4 1 _ _ _ _ rfl rfl (by decide +kernel)
    rcases List.mem_cons.mp h with rfl | h
    · exact sub 4 6 _ _ _ _ rfl rfl (by decide +kernel)
    rcases List.mem_cons.mp h with rfl | h
    · exact sub 4 8 _ _ _ _ rfl rfl (by decide +kernel)
    rcases List.mem_cons.mp h with rfl | h
    · exact sub 4 9 _ _ _ _ rfl rfl (by decide +kernel)
    cases h
  | 0, h => cases h
  | 1, h => cases h
  | 2, h => cases h
  | t + 6, h => cases h
theorem ok_aas {M : MR} {pc : Nat} (hd : decode (mB M) pc = .ok (.aastore, 1)) : SOK M pc (sAas (pc + 1)) := by
  intro d b L st h z Q K hK hs
  unfold sAas at hs
  split at hs
  · rename_i v i a r
    split at hs
    · rename_i t n f ci fs ha hv
      obtain ⟨ht, hin, hs⟩ := hs
      intro D cid N0 p l e R s m args below meth c X H locs cells slots ls h1 h2 h3 h4 h5 h6
      have hlt : i.toNatClampNeg < n := Nat.not_le.mp fun q => hin (Or.inr q)
      have h0 : ¬ i < 0 := fun q => hin (Or.inl q)
      rcases h1.2.2 a _ ha with ⟨t7, ha0, hc⟩ | ⟨t9, f', hf', -⟩
      · obtain ⟨kA, comp, E, kE, kC, k1, k2, k3, k4, k5⟩ := aTk_ok X.2.2.2.2.2.2.1 ht
        obtain ⟨r', hr', cellV, g1, g2, g3, -⟩ := (h1.2.2 v _ hv).2
        refine W.aast X.1 X.2.1 hc (fun q h => by cases h) (fun h => by cases h) k1 k2 rfl k3 ⟨h0, by show _ < (arrV _ _ _).slots.size; rw [arrV_size]; exact hlt⟩ g1 (fun q h => by rw [g3] at h; cases h) (by rw [g2]; exact k4) (by rw [g2]; exact k5) rfl rfl hd fun H1 e1 e2 e3 => ?_
        refine hK _ _ _ _ _ _ hs D cid N0 p l e R s m args below meth c X H1 _ cells slots ls (h1.set e2 e3 (.inl ⟨t7, ha0, ?_⟩)) (fun q hq => ?_) (h3.put ha0 e2 e3) h4 h5 h6
        · rw [e1, vp_cell_q, vp_cell_q, arrV_store]
          congr 2
          funext q
          by_cases hq : q = i.toNatClampNeg
          · subst hq
            simp [updV, va_up, va_rf]
          · simp [updV, va_up, hq]
        · rcases List.mem_append.mp hq with h' | h'
          · exact h2 q h'
          · rw [List.mem_singleton.mp h']; exact ha0
      · cases hf'
    · exact hs.elim
  · exact hs.elim
def sLen (nx : Nat) : XS := fun L st h z b _ K _ => match st with
  | .ref a :: r => match h a with
    | some (.inl (t, n, x)) => (t < 7 ∨ t = 9) ∧ K nx L (.int (Int32.ofNat n) :: r) h z b
    | _ => False
  | _ => False
theorem ok_len {M : MR} {pc : Nat} (hd : decode (mB M) pc = .ok (.arraylength, 1)) : SOK M pc (sLen (pc + 1)) := by
  intro d b L st h z Q K hK hs
  unfold sLen at hs
  split at hs
  · rename_i a r
    split at hs
    · rename_i t n x ha
      obtain ⟨ht, hs⟩ := hs
      intro D cid N0 p l e R s m args below meth c X H locs cells slots ls h1 h2 h3 h4 h5 h6
      have kk := (hK _ _ _ _ _ _ hs D cid N0 p l e R s m args below meth c X H locs cells slots ls h1 h2 h3 h4 h5 h6)
      rcases h1.2.2 a _ ha with ⟨t7, -, hc⟩ | ⟨t9, f, hf, scr, x1, x2, x3, x4, x5⟩
      · have hx : ∃ ty, (xTys cid)[t]? = some (cid t, ty) := by
          match t, t7 with
          | 0, _ => exact ⟨_, rfl⟩
          | 1, _ => exact ⟨_, rfl⟩
          | 2, _ => exact ⟨_, rfl⟩
          | 3, _ => exact ⟨_, rfl⟩
          | 4, _ => exact ⟨_, rfl⟩
          | 5, _ => exact ⟨_, rfl⟩
          | 6, _ => exact ⟨_, rfl⟩
        obtain ⟨ty, hty⟩ := hx
        exact va_alen X.1 X.2.1 X.2.2.2.2.2.2.1.1 (hP1 hc) 0 t rfl hty rfl hd kk
      · exact W.alen (n := Int32.ofNat n) X.1 X.2.1 x1 x2 (by rw [x4]) rfl rfl hd kk
    · exact hs.elim
  · exact hs.elim
def sNew (ci : Nat) (fs : List Value) (nx : Nat) : XS := fun L st h z b _ K _ => match b with
  | b' + 1 => K nx L (.ref z :: st) (hset h z (.inr (ci, fs))) (z + 1) b'
  | 0 => False
theorem ok_new {M : MR} {pc i ci : Nat} {fs : List Value} {C : String} {T : u_T} {N : Nat} (hd : decode (mB M) pc = .ok (.new i, 3)) (hc : xcl[ci]? = some (C, T, N)) (hin : ∀ w ∈ u_ws C T N, w ∈ xTB) (ys : List FieldType) (hys : ∀ k, k < N → parseFieldDescriptor (T k).2.2.1 = some (ys.getD k .int)) (hfs : ∀ k, k < N → defaultValue (ys.getD k .int) = vp_V fs k) (hN : N ≤ 300) (w1 : Cond.classLink (mN M).cls i C ∈ xTB) (w2 : Cond.instantiable C N ∈ xTB) (w3 : Cond.initialized C ∈ xTB) : SOK M pc (sNew ci fs (pc + 3)) := by
  intro d b L st h z Q K hK hs
  unfold sNew at hs
  split at hs
  · rename_i b'
    intro D cid N0 p l e R s m args below meth c X H locs cells slots ls h1 h2 h3 h4 h5 h6
    have hts := X.2.2.2.2.2.1
    have hKn := X.2.2.2.2.2.2.1.1.1 ci _ hc
    refine W.newcK X.1 X.2.1 X.2.2.2.2.1 (hts _ w1) (hts _ w2) (hts _ w3) rfl hd (by omega) (by omega) hKn.2.1 rfl fun H1 kC hkC e1 z1 o1 => ?_
    refine W.widen (k := cells + 1) (n := slots + 300) (Nat.le_refl _) (by omega) ?_
    have hz : H.size = z := h1.1
    have := hK _ _ _ _ _ _ hs D cid N0 p l e R s m args below meth c X H1 locs (cells + 1) (slots + 300) ls (h1.push z1 o1 ⟨h1.2.1, ?_⟩) h2 (h3.push z1 o1) (by omega) (by omega) h6
    · rw [show cells + 1 + b' = cells + (b' + 1) by omega, show slots + 300 + 300 * b' = slots + 300 * (b' + 1) by omega] at this
      rw [hz]
      exact this
    · rw [← hz]
      exact ⟨_, hc, (u_born (fun k => ys.getD k .int) hts hin hKn hkC e1 hys).to hfs⟩
  · exact hs.elim
/-- a new row of numbers -/
def sNar (t : Nat) (x : (Nat → Int32) ⊕ (Nat → Int64) ⊕ (Nat → UInt32) ⊕ (Nat → UInt64) ⊕ (Nat → Option Nat)) (nx : Nat) : XS := fun L st h z b _ K _ => match b, st with
  | b' + 1, .int n :: r => (¬ n < 0) ∧ n.toNatClampNeg ≤ 300 ∧ K nx L (.ref z :: r) (hset h z (.inl (t, n.toNatClampNeg, x))) (z + 1) b'
  | _, _ => False
theorem ok_nar {M : MR} {pc t : Nat} {x} {aty : ArrayType} (hd : decode (mB M) pc = .ok (.newarray aty, 2)) (h8 : componentBytes (newarray.typeOf aty) ≤ 8) (ht7 : t < 7) (hty : xty[t]? = some (newarray.typeOf aty)) (hprim : ∀ C, newarray.typeOf aty ≠ .object C) (hx : ∀ (n : Nat) (cA : ClassId), vp_cell cA (n, x) = arrV cA n (fun _ => defaultValue (newarray.typeOf aty))) (w1 : Cond.arrayClass (newarray.typeOf aty) ∈ xTB) : SOK M pc (sNar t x (pc + 2)) := by
  intro d b L st h z Q K hK hs
  unfold sNar at hs
  split at hs
  · rename_i b' n r
    obtain ⟨hn, hn3, hs⟩ := hs
    intro D cid N0 p l e R s m args below meth c X H locs cells slots ls h1 h2 h3 h4 h5 h6
    have hts := X.2.2.2.2.2.1
    have hz : H.size = z := h1.1
    refine va_newaK X.1 X.2.1 (hts _ w1) rfl hd rfl hn rfl ?_ (by omega) (by omega) rfl fun H1 cA e1 z1 o1 hAr hNm => ?_
    · have := Nat.mul_le_mul hn3 h8
      omega
    have hcA : cA = cid t := by
      have := (X.2.2.2.2.2.2.1.1.2 t _ (xTys_at hty)).2
      unfold va_RA at this
      cases aty <;> exact Option.some.inj (hNm.symm.trans this)
    subst hcA
    refine W.widen (k := cells + 1) (n := slots + 300) (Nat.le_refl _) (by omega) ?_
    have := hK _ _ _ _ _ _ hs D cid N0 p l e R s m args below meth c X H1 locs (cells + 1) (slots + 300) ls (h1.push z1 o1 (.inl ⟨ht7, h1.2.1, ?_⟩)) h2 (h3.push z1 o1) (by omega) (by omega) h6
    · rw [show cells + 1 + b' = cells + (b' + 1) by omega, show slots + 300 + 300 * b' = slots + 300 * (b' + 1) by omega] at this
      rw [hz]
      exact this
    · rw [← hz, hx]
      exact e1
  · exact hs.elim
theorem ok_anew {M : MR} {pc t i : Nat} {C : String} (hd : decode (mB M) pc = .ok (.anewarray i, 3)) (ht7 : t < 7) (hty : xty[t]? = some (.object C)) (hao : C ∈ xAO) (w1 : Cond.classLink (mN M).cls i C ∈ xTB) : SOK M pc (sNar t (.inr (.inr (.inr (.inr (fun _ => none))))) (pc + 3)) := by
  intro d b L st h z Q K hK hs
  unfold sNar at hs
  split at hs
  · rename_i b' n r
    obtain ⟨hn, hn3, hs⟩ := hs
    intro D cid N0 p l e R s m args below meth c X H locs cells slots ls h1 h2 h3 h4 h5 h6
    have hts := X.2.2.2.2.2.1
    have hz : H.size = z := h1.1
    refine W.anew X.1 X.2.1 X.2.2.2.2.1 (hts _ w1) (va_AO.use (X.2.2.2.2.2.2.1.2.2.1 C hao)) rfl hd rfl hn (by omega) (by omega) (by omega) fun cA kA comp f1 f2 f3 f4 => ?_
    generalize hH1 : H.push ({ cls := cA, slots := Array.replicate n.toNatClampNeg .null, vm := .none } : Cell) = H1
    have z1 : H1.size = H.size + 1 := by rw [← hH1, Array.size_push]
    have e1 : H1[H.size]? = some (arrV cA n.toNatClampNeg (fun _ => .null)) := by rw [← hH1, Array.getElem?_push_size, ← arrV_new]
    have o1 : ∀ q : Nat, q < H.size → H1[q]? = H[q]? := fun q hq => by rw [← hH1, Array.getElem?_push, if_neg (Nat.ne_of_lt hq)]
    have hcA : cA = cid t := by
      obtain ⟨_, _, _, _, _, h9⟩ := (X.2.2.2.2.2.2.1.1.2 t _ (xTys_at hty)).2
      exact Option.some.inj (f1.symm.trans h9)
    subst hcA
    refine W.widen (k := cells + 1) (n := slots + 300) (Nat.le_refl _) (by omega) ?_
    have := hK _ _ _ _ _ _ hs D cid N0 p l e R s m args below meth c X H1 locs (cells + 1) (slots + 300) ls (h1.push z1 o1 (.inl ⟨ht7, h1.2.1, ?_⟩)) h2 (h3.push z1 o1) (by omega) (by omega) h6
    · rw [show cells + 1 + b' = cells + (b' + 1) by omega, show slots + 300 + 300 * b' = slots + 300 * (b' + 1) by omega] at this
      rw [hz]
      exact this
    · rw [← hz, vp_cell_q]
      exact e1
  · exact hs.elim
