/-! THE STEPS: calls -/
def popN : Nat → List Value → List Value → Option (List Value × List Value)
  | 0, st, as => some (as, st)
  | n + 1, v :: r, as => popN n r (v :: as)
  | _ + 1, [], _ => none
theorem popN_spec : ∀ {n : Nat} {st as as' r : List Value}, popN n st as = some (as', r) → ∃ q : List Value, as' = q ++ as ∧ st = q.reverse ++ r ∧ q.length = n
  | 0, st, as, as', r, h => by simp [popN] at h; exact ⟨[], by simp [h.1], by simp [h.2], rfl⟩
  | n + 1, v :: t, as, as', r, h => by
    obtain ⟨q, h1, h2, h3⟩ := popN_spec (n := n) (by simpa [popN] using h)
    exact ⟨q ++ [v], by simp [h1], by simp [h2], by simp [h3]⟩
  | n + 1, [], as, as', r, h => by simp [popN] at h
def catS : List Value → Nat
  | [] => 0
  | .long _ :: r => 2 + catS r
  | .double _ :: r => 2 + catS r
  | _ :: r => 1 + catS r
theorem catS_ok : ∀ l : List Value, (l.map fun v => v.category).sum = catS l
  | [] => rfl
  | v :: r => by
    rw [List.map_cons, List.sum_cons, catS_ok r]
    cases v <;> rfl
/-- what the tables must say of a method that is called -/
def mOK (M : MR) : Prop := plainName (mN M).cls = true ∧ Cond.code (mN M) (mB M) (mL M) (mR M) ∈ xTB ∧ mL M ≤ 25 ∧ Cond.initialized (mN M).cls ∈ xTB ∧ (mN M).cls ≠ "java/lang/invoke/MethodHandle" ∧ (mN M).cls ≠ "java/lang/invoke/VarHandle"
def wsM (M : MR) : List Cond := Cond.code (mN M) (mB M) (mL M) (mR M) :: xTB
theorem bdL_26 (d : Nat) : 26 ≤ bdL d := by unfold bdL; omega
theorem bd_call {n m d : Nat} (h : n + ((6 - d) + (d - 6)) * ((m - 18) * 1000) ≤ m) (h8 : m ≤ 25) : 8 + (m + 11) + bdL d ≤ bdL (d + 1) := by
  unfold bdL
  by_cases c : m ≤ 18
  · split <;> split <;> omega
  · have e : (6 - d) + (d - 6) = 0 := Nat.eq_zero_of_not_pos (fun p => by
      have := Nat.le_mul_of_pos_left ((m - 18) * 1000) p
      omega)
    have : d = 6 := by omega
    subst this
    simp
    omega
def rmM (d : Nat) (M : MR) : Room := { frames := d + 1, cells := mU M, slots := 300 * mU M, locals := bdL d }
theorem lvG_ent (k : Nat) : ∀ (as : List Value) (i : Nat), lvG i (entG as ++ List.replicate k none) = lv_args i as
  | [], i => by
    have : ∀ (k i : Nat), lvG i (List.replicate k none) = [] := by
      intro k
      induction k with
      | zero => intro i; rfl
      | succ k ih => intro i; simp [List.replicate_succ, lvG, ih]
    simpa [entG, lv_args] using this k i
  | v :: r, i => by
    unfold entG lv_args
    split
    · simp [lvG, lvG_ent k r]
    · simp [lvG, lvG_ent k r]
theorem KX.same {D : va_G} {cid : Nat → ClassId} {u U : State} (hv : u.vm = U.vm) (h : KX D cid u) : KX D cid U := by
  have ha : u.vm.Alike U.vm := by rw [hv]; exact Vm.Alike.refl _
  refine ⟨va_K.moved ha h.1, fun w hw => ?_, fun C hC => (h.2.2.1 C hC).moved ha, xAA_moved ha h.2.2.2.1, fun q hq => (h.2.2.2.2 q hq).moved ha⟩
  have h1 := h.2.1 w hw
  have hs := List.all_eq_true.mp xNW_sp w hw
  exact va_Nw.same (by cases w <;> first | rfl | (simp [xSp] at hs; done)) hv h1
def PX (as : List Value) (D : va_G) (cid : Nat → ClassId) (N0 : Nat) (h : XH) (z : Nat) : Array Value → State → Prop := va_Pc as (fun U => HR D cid U N0 h z U.heap ∧ KX D cid U)
theorem PX_blind {as : List Value} {D : va_G} {cid : Nat → ClassId} {N0 : Nat} {h : XH} {z : Nat} : FrameBlind (PX as D cid N0 h z) := by
  rintro a U g mk ⟨h1, h2, h3⟩
  exact ⟨h1, HR.moved (u := U) (U := U.calling g mk a) (Vm.Alike.refl U.vm) h2, KX.same (u := U) (U := U.calling g mk a) rfl h3⟩
theorem met_of {d : Nat} {M : MR} {as : List Value} {h : XH} {z : Nat} {Q : XQ} (hM : mOK M) (hA : CALL d M as h z Q) (D : va_G) (cid : Nat → ClassId) (N0 : Nat) (l : Launch) : Met l (mN M) (wsM M) (rmM d M) (PX as D cid N0 h z) (QC D cid N0 Q) (mU M) (300 * mU M) (fun q => N0 ≤ q) := by
  refine Met.ofW (cc := mB M) (maxL := mL M) (ret := mR M) hM.1 rfl ?_
  intro p e s m args below meth c s₁ B hml hv
  obtain ⟨rfl, hH, hK⟩ := hv
  have hts := atoms_spec (ws := wsM M) B.pre
  have hin := (name_of_methodNamed B.named B.method).1
  rw [lg_entry_eq]
  have hl := lv_entry as (Nat.le_trans (Nat.le_add_right _ _) hA.1)
  generalize (lg_sl as ++ List.replicate (mL M - (lg_sl as).length) Slot.unset).toArray = ls at hl ⊢
  have := hA.2 D cid N0 p l e (rmM d M) s m as.toArray below meth c ⟨B.exec, B.bytes, B.returns, hml, findClass_of_methodNamed B.named, fun w hw => hts w (List.mem_cons_of_mem _ hw), hK, B.notSynchronized, hin, Nat.le_refl _, Nat.le_refl _⟩ s.heap [] 0 0 ls hH (fun q hq => by cases hq) ⟨Nat.le_refl _, fun _ _ _ => rfl⟩ (by show 0 + mU M ≤ mU M; omega) (by show 0 + 300 * mU M ≤ 300 * mU M; omega) (by
      unfold lvOf entL
      rw [lvG_ent]
      exact hl)
  rw [Nat.zero_add, Nat.zero_add] at this
  exact this
section CG
variable {p : Program} {l : Launch} {e : Env} {R : Room} {s : State} {m : MethodId} {args : Array Value} {below : List Frame} {meth : Method} {c : Code} {H : Heap} {locs : List Loc} {cells slots : Nat} {Qf : State → Prop}
theorem call_go {pc mc ms : Nat} {ls : Array Slot} {rest st0 : List Value} {a : Array Value} {D : va_G} {cid : Nat → ClassId} {N0 : Nat} {Q : XQ} (hr : va_Run p l e R s m args below meth c H locs cells slots mc ms (F0 m pc ls st0) rest (QC D cid N0 Q a) (fun q => N0 ≤ q)) (h2 : ∀ q ∈ locs, N0 ≤ q.base) (h3 : SF N0 s H)
    (kk : ∀ (v : Option Value) (h' : XH) (z' : Nat) (H1 : Heap) (locs1 : List Loc), Q v h' z' → HR D cid s N0 h' z' H1 → (∀ q ∈ locs1, N0 ≤ q.base) → SF N0 s H1 → W p l e R s m args below meth c H1 locs1 (cells + mc) (slots + ms) Qf (F0 m (pc + 3) ls (v.toList ++ rest))) : W p l e R s m args below meth c H locs cells slots Qf (F0 m pc ls st0) := by
  intro T hT X
  obtain ⟨v, st₀, t, T', L, h0, X', hL, e1, e2, ⟨v', h', z', hv, hQ, hHR, hSF⟩, st⟩ := hr T hT X
  cases hv
  obtain ⟨t2, a1, b1⟩ := kk v h' z' T'.heap (locs ++ L) hQ (by rw [e1]; exact hHR.moved (by rw [← e2]; exact X'.warmed.alike.symm)) (fun q hq => by
      rcases List.mem_append.mp hq with h | h
      · exact h2 q h
      · exact hL q h)
    ⟨by rw [e1]; exact Nat.le_trans h3.1 (by rw [← h0]; exact hSF.1), fun q g1 g2 => by
      rw [e1, hSF.2 q (by rw [h0]; exact Nat.lt_of_lt_of_le g1 h3.1) g2, h0]
      exact h3.2 q g1 g2⟩ T' rfl X'
  exact ⟨t2, st t2 a1, b1⟩
end CG
/-- what the tables must say of a call's entry -/
def cOK (own : String) (i : Nat) (M : MR) (n : Nat) : Prop := mOK M ∧ (parseMethodDescriptor (mN M).desc).map (fun d => d.parameters.length) = some n ∧ (Cond.methodLink own i (mN M) ∈ xTB ∨ ∃ host, Cond.methodLinkNest own i (mN M) host ∈ xNW)
def sSta (M' : MR) (u n nx : Nat) : XS := fun L st h z b _ _ C => match popN n st [] with
  | some (as, r) => catS r ≤ 8 ∧ u ≤ b ∧ C M' as h z nx L r (b - u)
  | none => False
def sSpe (M' : MR) (u n nx : Nat) : XS := fun L st h z b _ _ C => match popN n st [] with
  | some (as, .ref a :: r) => catS r ≤ 8 ∧ u ≤ b ∧ C M' (.ref a :: as) h z nx L r (b - u)
  | _ => False
def sVir (V : List (Nat × MR)) (u n nx : Nat) : XS := fun L st h z b _ _ C => match popN n st [] with
  | some (as, .ref a :: r) => match h a with
    | some (.inr (ci, _)) => match V.lookup ci with
      | some M' => catS r ≤ 8 ∧ u ≤ b ∧ C M' (.ref a :: as) h z nx L r (b - u)
      | none => False
    | _ => False
  | _ => False
theorem wsM_warm {s : State} {args : Array Value} {M : MR} (hM : mOK M) (hts : ∀ w ∈ xTB, w.before args s = true) : ∀ w ∈ wsM M, ∀ (a' : Array Value) (U : State), s.WarmedH U.vm → w.before a' U = true :=
  pay_in hts (fun w hw => by
    rcases List.mem_cons.mp hw with rfl | hw
    · exact ⟨hM.2.1, xTB_good hM.2.1⟩
    · exact ⟨hw, xTB_good hw⟩)
theorem lenOf {M : MR} {n : Nat} (h : (parseMethodDescriptor (mN M).desc).map (fun d => d.parameters.length) = some n) : ∀ sig, parseMethodDescriptor (mN M).desc = some sig → n = sig.parameters.length := fun sig q => by
  rw [q] at h
  exact (Option.some.inj h).symm
theorem ok_sta {M M' : MR} {pc i u n : Nat} (hd : decode (mB M) pc = .ok (.invokestatic i, 3)) (hc : cOK (mN M).cls i M' n) (hst : Cond.static (mN M') ∈ xTB) (hu : mU M' = u) : SOK M pc (sSta M' u n (pc + 3)) := by
  intro d b L st h z Q K hK hs
  unfold sSta at hs
  split at hs
  · rename_i as r hp
    obtain ⟨hcat, hub, hs⟩ := hs
    cases d with
    | zero => exact hs.elim
    | succ d =>
      obtain ⟨q, q1, q2, q3⟩ := popN_spec hp
      rw [List.append_nil] at q1
      subst q1
      intro D cid N0 p l e R s m args below meth c X H locs cells slots ls h1 h2 h3 h4 h5 h6
      have hts := X.2.2.2.2.2.1
      have hM := met_of hc.1 hs D cid N0 l
      have hpre : PreS s H (PX as D cid N0 h z) as := ⟨PX_blind, fun U hU hW => ⟨rfl, by rw [hU]; exact h1.moved hW.alike, X.2.2.2.2.2.2.1.moved hW⟩⟩
      have hR1 : (rmM d M').frames + 1 ≤ R.frames := X.2.2.2.2.2.2.2.2.2.1
      have hR2 : 8 + (mL M' + 11) + (rmM d M').locals ≤ R.locals := by
        have := X.2.2.2.2.2.2.2.2.2.2
        have h8 := hc.1.2.2.1
        have := bd_call hs.1 h8
        show 8 + (mL M' + 11) + bdL d ≤ R.locals
        omega
      have run : va_Run p l e R s m args below meth c H locs cells slots (mU M') (300 * mU M') (F0 m pc ls st) r (QC D cid N0 (fun v h' z' => AR (d + 1) M (b - u) (pc + 3) L (v.toList ++ r) h' z' Q) as.toArray) (fun q => N0 ≤ q) := by
        rcases hc.2.2 with w | ⟨host, w⟩
        · exact va_runS (As := as) ⟨X.1, X.2.1, X.2.2.2.1, X.2.2.2.2.1, hts⟩ hM ⟨⟨rfl, rfl, hR1, hR2, wsM_warm hc.1 hts, List.mem_cons_self, hts _ hc.1.2.1, hts _ hc.1.2.2.2.1, hc.1.2.2.2.2, lenOf hc.2.1, hts _ w⟩, hts _ hst⟩ hpre rfl q3 h6.1 q2 (by rw [catS_ok]; show 2 * 0 + _ ≤ 8; omega) hd ⟨by omega, by omega⟩
        · exact va_runSN (host := host) (As := as) ⟨X.1, X.2.1, X.2.2.2.1, X.2.2.2.2.1, hts⟩ hM ⟨⟨⟨rfl, rfl, hR1, hR2, wsM_warm hc.1 hts, List.mem_cons_self⟩, hts _ hc.1.2.1, hts _ hc.1.2.2.2.1, hc.1.2.2.2.2, lenOf hc.2.1, va_Nw.use rfl (X.2.2.2.2.2.2.1.2.1 _ w)⟩, hts _ hst, trivial⟩ hpre rfl q3 h6.1 q2 (by rw [catS_ok]; show 2 * 0 + _ ≤ 8; omega) hd ⟨by omega, by omega⟩
      refine call_go run h2 h3 (fun v h' z' H1 locs1 hQ g1 g2 g3 => ?_)
      have := hQ D cid N0 p l e R s m args below meth c X H1 locs1 (cells + mU M') (slots + 300 * mU M') ls g1 g2 g3 (by omega) (by omega) h6
      rw [show cells + mU M' + (b - u) = cells + b by omega, show slots + 300 * mU M' + 300 * (b - u) = slots + 300 * b by omega] at this
      exact this
  · exact hs.elim
theorem ok_spe {M M' : MR} {pc i u n : Nat} (hd : decode (mB M) pc = .ok (.invokespecial i, 3)) (hc : cOK (mN M).cls i M' n) (hst : Cond.instanceMethod (mN M') ∈ xTB) (hu : mU M' = u) (hinit : (mN M').name = "<init>") (hret : mR M' = none) : SOK M pc (sSpe M' u n (pc + 3)) := by
  intro d b L st h z Q K hK hs
  unfold sSpe at hs
  split at hs
  · rename_i as a r hp
    obtain ⟨hcat, hub, hs⟩ := hs
    cases d with
    | zero => exact hs.elim
    | succ d =>
      obtain ⟨q, q1, q2, q3⟩ := popN_spec hp
      rw [List.append_nil] at q1
      subst q1
      intro D cid N0 p l e R s m args below meth c X H locs cells slots ls h1 h2 h3 h4 h5 h6
      have hts := X.2.2.2.2.2.1
      have hM := met_of hc.1 hs D cid N0 l
      have hpre : PreS s H (PX (.ref a :: as) D cid N0 h z) (.ref a :: as) := ⟨PX_blind, fun U hU hW => ⟨rfl, by rw [hU]; exact h1.moved hW.alike, X.2.2.2.2.2.2.1.moved hW⟩⟩
      have hR1 : (rmM d M').frames + 1 ≤ R.frames := X.2.2.2.2.2.2.2.2.2.1
      have hR2 : 8 + (mL M' + 11) + (rmM d M').locals ≤ R.locals := by
        have := X.2.2.2.2.2.2.2.2.2.2
        have h8 := hc.1.2.2.1
        have := bd_call hs.1 h8
        show 8 + (mL M' + 11) + bdL d ≤ R.locals
        omega
      have hcode := hc.1.2.1
      rw [hret] at hcode
      have hcin : Cond.code (mN M') (mB M') (mL M') none ∈ wsM M' := List.mem_cons_of_mem _ hcode
      have run : va_Run p l e R s m args below meth c H locs cells slots (mU M') (300 * mU M') (F0 m pc ls st) r (QC D cid N0 (fun v h' z' => AR (d + 1) M (b - u) (pc + 3) L (v.toList ++ r) h' z' Q) (Value.ref a :: as).toArray) (fun q => N0 ≤ q) := by
        rcases hc.2.2 with w | ⟨host, w⟩
        · exact va_runI (As := as) ⟨X.1, X.2.1, X.2.2.2.1, X.2.2.2.2.1, hts⟩ hM ⟨⟨rfl, rfl, hR1, hR2, wsM_warm hc.1 hts, hcin, hts _ hcode, hts _ hc.1.2.2.2.1, hc.1.2.2.2.2, lenOf hc.2.1, hts _ w⟩, hinit, hts _ hst⟩ hpre rfl q3 h6.1 q2 (by rw [catS_ok]; show 2 * 0 + _ ≤ 8; omega) hd ⟨by omega, by omega⟩
        · exact va_runIN (host := host) (As := as) ⟨X.1, X.2.1, X.2.2.2.1, X.2.2.2.2.1, hts⟩ hM ⟨⟨⟨rfl, rfl, hR1, hR2, wsM_warm hc.1 hts, hcin⟩, hts _ hcode, hts _ hc.1.2.2.2.1, hc.1.2.2.2.2, lenOf hc.2.1, va_Nw.use rfl (X.2.2.2.2.2.2.1.2.1 _ w)⟩, hinit, hts _ hst⟩ hpre rfl q3 h6.1 q2 (by rw [catS_ok]; show 2 * 0 + _ ≤ 8; omega) hd ⟨by omega, by omega⟩
      refine call_go run h2 h3 (fun v h' z' H1 locs1 hQ g1 g2 g3 => ?_)
      have := hQ D cid N0 p l e R s m args below meth c X H1 locs1 (cells + mU M') (slots + 300 * mU M') ls g1 g2 g3 (by omega) (by omega) h6
      rw [show cells + mU M' + (b - u) = cells + b by omega, show slots + 300 * mU M' + 300 * (b - u) = slots + 300 * b by omega] at this
      exact this
  · exact hs.elim
/-- what the tables must say of a virtual call's entry, for a receiver of the class ci -/
def vOK (own : String) (i : Nat) (ci : Nat) (M : MR) (n : Nat) : Prop := mOK M ∧ Cond.instanceMethod (mN M) ∈ xTB ∧ ∃ (C : String) (T : u_T) (N : Nat), xcl[ci]? = some (C, T, N) ∧
  (((parseMethodDescriptor (mN M).desc).map (fun d => d.parameters.length) = some n ∧ Cond.methodLink own i (mN M) ∈ xTB ∧ Cond.selects C (mN M) (mN M) ∈ xTB) ∨
   ∃ (x : MethodName) (owner : String), (parseMethodDescriptor x.desc).map (fun d => d.parameters.length) = some n ∧ Cond.methodLink own i x ∈ xTB ∧ Cond.sameMethod x.cls owner x.name x.desc ∈ xTB ∧ Cond.selects C x (mN M) ∈ xTB ∧ (owner ≠ "java/lang/invoke/MethodHandle" ∧ owner ≠ "java/lang/invoke/VarHandle") ∧ (mN M = ⟨owner, x.name, x.desc⟩ ∨ Cond.declares ⟨owner, x.name, x.desc⟩ ∈ xNW))
theorem ok_vir {M : MR} {V : List (Nat × MR)} {pc i u n : Nat} (hd : decode (mB M) pc = .ok (.invokevirtual i, 3)) (hc : ∀ ci M', V.lookup ci = some M' → vOK (mN M).cls i ci M' n ∧ mU M' = u) : SOK M pc (sVir V u n (pc + 3)) := by
  intro d b L st h z Q K hK hs
  unfold sVir at hs
  split at hs
  · rename_i as a r hp
    split at hs
    · rename_i ci fs ha
      split at hs
      · rename_i M' hV
        obtain ⟨hcat, hub, hs⟩ := hs
        obtain ⟨⟨hc1, hst, C, T, N, hcl, hcc⟩, hu⟩ := hc ci M' hV
        cases d with
        | zero => exact hs.elim
        | succ d =>
          obtain ⟨q, q1, q2, q3⟩ := popN_spec hp
          rw [List.append_nil] at q1
          subst q1
          intro D cid N0 p l e R s m args below meth c X H locs cells slots ls h1 h2 h3 h4 h5 h6
          have hts := X.2.2.2.2.2.1
          have hM := met_of hc1 hs D cid N0 l
          obtain ⟨q', hq', cell, g1, g2, g3, -⟩ := (h1.2.2 a _ ha).2
          have hKn := (X.2.2.2.2.2.2.1.1.1 ci _ hcl).2
          have hpre : PreV s H C a (PX (.ref a :: as) D cid N0 h z) as := ⟨PX_blind, ⟨cell, g1, by rw [g3]; rfl, by rw [g2]; exact hKn.1⟩, fun U hU hW => ⟨rfl, by rw [hU]; exact h1.moved hW.alike, X.2.2.2.2.2.2.1.moved hW⟩⟩
          have hR1 : (rmM d M').frames + 1 ≤ R.frames := X.2.2.2.2.2.2.2.2.2.1
          have hR2 : 8 + (mL M' + 11) + (rmM d M').locals ≤ R.locals := by
            have := X.2.2.2.2.2.2.2.2.2.2
            have h8 := hc1.2.2.1
            have := bd_call hs.1 h8
            show 8 + (mL M' + 11) + bdL d ≤ R.locals
            omega
          have run : va_Run p l e R s m args below meth c H locs cells slots (mU M') (300 * mU M') (F0 m pc ls st) r (QC D cid N0 (fun v h' z' => AR (d + 1) M (b - u) (pc + 3) L (v.toList ++ r) h' z' Q) (Value.ref a :: as).toArray) (fun q => N0 ≤ q) := by
            rcases hcc with ⟨w1, w2, w3⟩ | ⟨x, owner, w1, w2, w3, w4, w5, w6⟩
            · exact va_runV (C := C) (As := as) ⟨X.1, X.2.1, X.2.2.2.1, X.2.2.2.2.1, hts⟩ hM ⟨⟨rfl, rfl, hR1, hR2, wsM_warm hc1 hts, List.mem_cons_self, hts _ hc1.2.1, hts _ hc1.2.2.2.1, hc1.2.2.2.2, lenOf w1, hts _ w2⟩, hts _ hst, hts _ w3⟩ hpre rfl q3 h6.1 q2 (by rw [catS_ok]; show 2 * 0 + _ ≤ 8; omega) hd ⟨by omega, by omega⟩
            · refine va_runU (C := C) (owner := owner) (x := x) (y := mN M') (As := as) ⟨X.1, X.2.1, X.2.2.2.1, X.2.2.2.2.1, hts⟩ hM ⟨⟨rfl, rfl, hR1, hR2, wsM_warm hc1 hts, List.mem_cons_self⟩, hts _ hc1.2.1, hts _ hc1.2.2.2.1, w5, fun sig h => ?_, hts _ w2, hts _ w3, ?_, hts _ w4, hts _ hst⟩ hpre rfl q3 h6.1 q2 (by rw [catS_ok]; show 2 * 0 + _ ≤ 8; omega) hd ⟨by omega, by omega⟩
              · rw [h] at w1
                exact (Option.some.inj w1).symm
              · rcases w6 with w6 | w6
                · rw [← w6]
                  exact va_Decl.of (hts _ hst) (hts _ hc1.2.1)
                · exact va_Decl.abs (X.2.2.2.2.2.2.1.2.1 _ w6)
          refine call_go run h2 h3 (fun v h' z' H1 locs1 hQ g1 g2 g3 => ?_)
          have := hQ D cid N0 p l e R s m args below meth c X H1 locs1 (cells + mU M') (slots + 300 * mU M') ls g1 g2 g3 (by omega) (by omega) h6
          rw [show cells + mU M' + (b - u) = cells + b by omega, show slots + 300 * mU M' + 300 * (b - u) = slots + 300 * b by omega] at this
          exact this
      · exact hs.elim
    · exact hs.elim
  · exact hs.elim
def sObj (nx : Nat) : XS := fun L st h z b _ K _ => match st with
  | .ref _ :: r => catS r ≤ 8 ∧ K nx L r h z b
  | _ => False
theorem ok_obj {M : MR} {pc i : Nat} (hd : decode (mB M) pc = .ok (.invokespecial i, 3)) (w1 : Cond.methodLink (mN M).cls i Lib.objectInit ∈ xTB) (w2 : Cond.instanceMethod Lib.objectInit ∈ xTB) (w3 : Cond.code Lib.objectInit ⟨#[0xb1]⟩ 1 none ∈ xTB) : SOK M pc (sObj (pc + 3)) := by
  intro d b L st h z Q K hK hs
  unfold sObj at hs
  split at hs
  · obtain ⟨hcat, hs⟩ := hs
    intro D cid N0 p l e R s m args below meth c X H locs cells slots ls h1 h2 h3 h4 h5 h6
    have hts := X.2.2.2.2.2.1
    have := X.2.2.2.2.2.2.2.2.2.1
    have := X.2.2.2.2.2.2.2.2.2.2
    have := bdL_26 d
    exact W.objInit X.1 X.2.1 X.2.2.2.2.1 (hts _ w1) (hts _ w2) (hts _ w3) rfl (h6.1.trans X.2.2.2.1.symm) rfl hd (by omega) (by rw [catS_ok]; show 2 * 0 + _ + 12 ≤ _; omega) (hK _ _ _ _ _ _ hs D cid N0 p l e R s m args below meth c X H locs cells slots ls h1 h2 h3 h4 h5 h6)
  · exact hs.elim
def sMax (nx : Nat) : XS := fun L st h z b _ K _ => match st with
  | .int y :: .int x :: r => catS r ≤ 8 ∧ K nx L (.int (if x < y then y else x) :: r) h z b
  | _ => False
def sMin (nx : Nat) : XS := fun L st h z b _ K _ => match st with
  | .int y :: .int x :: r => catS r ≤ 8 ∧ K nx L (.int (if y < x then y else x) :: r) h z b
  | _ => False
theorem ok_max {M : MR} {pc i : Nat} (hd : decode (mB M) pc = .ok (.invokestatic i, 3)) (w1 : Cond.methodLink (mN M).cls i Lib.Math.max.name ∈ xTB) (w2 : Cond.static Lib.Math.max.name ∈ xTB) (w3 : Cond.initialized "java/lang/Math" ∈ xTB) (w4 : Cond.code Lib.Math.max.name Lib.Math.max.code 2 (some .int) ∈ xTB) : SOK M pc (sMax (pc + 3)) := by
  intro d b L st h z Q K hK hs
  unfold sMax at hs
  split at hs
  · obtain ⟨hcat, hs⟩ := hs
    intro D cid N0 p l e R s m args below meth c X H locs cells slots ls h1 h2 h3 h4 h5 h6
    have hts := X.2.2.2.2.2.1
    have := X.2.2.2.2.2.2.2.2.2.1
    have := X.2.2.2.2.2.2.2.2.2.2
    have := bdL_26 d
    exact va_mmax X.1 X.2.1 (X.2.2.2.1.trans h6.1.symm) X.2.2.2.2.1 (hts _ w1) (hts _ w2) (hts _ w3) (hts _ w4) (by omega) (by rw [catS_ok]; omega) (by omega) (by omega) hd (hK _ _ _ _ _ _ hs D cid N0 p l e R s m args below meth c X H locs cells slots ls h1 h2 h3 h4 h5 h6)
  · exact hs.elim
theorem ok_min {M : MR} {pc i : Nat} (hd : decode (mB M) pc = .ok (.invokestatic i, 3)) (w1 : Cond.methodLink (mN M).cls i Lib.Math.min.name ∈ xTB) (w2 : Cond.static Lib.Math.min.name ∈ xTB) (w3 : Cond.initialized "java/lang/Math" ∈ xTB) (w4 : Cond.code Lib.Math.min.name Lib.Math.min.code 2 (some .int) ∈ xTB) : SOK M pc (sMin (pc + 3)) := by
  intro d b L st h z Q K hK hs
  unfold sMin at hs
  split at hs
  · obtain ⟨hcat, hs⟩ := hs
    intro D cid N0 p l e R s m args below meth c X H locs cells slots ls h1 h2 h3 h4 h5 h6
    have hts := X.2.2.2.2.2.1
    have := X.2.2.2.2.2.2.2.2.2.1
    have := X.2.2.2.2.2.2.2.2.2.2
    have := bdL_26 d
    exact va_mmin X.1 X.2.1 (X.2.2.2.1.trans h6.1.symm) X.2.2.2.2.1 (hts _ w1) (hts _ w2) (hts _ w3) (hts _ w4) (by omega) (by rw [catS_ok]; omega) (by omega) (by omega) hd (hK _ _ _ _ _ _ hs D cid N0 p l e R s m args below meth c X H locs cells slots ls h1 h2 h3 h4 h5 h6)
  · exact hs.elim
/-- System.arraycopy between two rows of ints -/
def sAcp (nx : Nat) : XS := fun L st h z b _ K _ => match st with
  | .int n :: .int dp :: .ref a :: .int sp :: .ref a0 :: r => match h a0, h a with
    | some (.inl (t0, n0, .inl f)), some (.inl (t1, n1, .inl g)) => t0 = 0 ∧ t1 = 0 ∧ r = [] ∧ (¬ sp < 0) ∧ (¬ dp < 0) ∧ (¬ n < 0) ∧ sp.toNatClampNeg + n.toNatClampNeg ≤ n0 ∧ dp.toNatClampNeg + n.toNatClampNeg ≤ n1 ∧ K nx L [] (hset h a (.inl (0, n1, .inl (va_cpy f g sp.toNatClampNeg dp.toNatClampNeg n.toNatClampNeg)))) z b
    | _, _ => False
  | _ => False
