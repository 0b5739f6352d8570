/-! THE STEPS ON CELLS -/
/-- where a field stands: for the numbers of the classes that have it, its place -/
def sGet (F : List (Nat × Nat)) (nx : Nat) : XS := fun L st h z b _ K _ => match st with
  | .ref a :: r => match h a with
    | some (.inr (ci, fs)) => match F.lookup ci with
      | some j => match fs[j]? with
        | some v => K nx L (v :: r) h z b
        | none => False
      | none => False
    | _ => False
  | _ => False
def sPut (F : List (Nat × Nat)) (ty : FieldType) (nx : Nat) : XS := fun L st h z b _ K _ => match st with
  | v :: .ref a :: r => match h a with
    | some (.inr (ci, fs)) => match F.lookup ci with
      | some j => (narrow ty v = v ∧ fits ty v = true) ∧ j < fs.length ∧ K nx L r (hset h a (.inr (ci, fs.set j v))) z b
      | none => False
    | _ => False
  | _ => False
/-- what the tables must say of a field's entry: its class's number, place, owner -/
def fOK (wr : Bool) (own : String) (i : Nat) (ref nm ds : String) (ty : FieldType) (fin : Bool) (ci j : Nat) : Prop :=
  ∃ (C : String) (T : u_T) (N : Nat), xcl[ci]? = some (C, T, N) ∧ j < N ∧ (T j).2.1 = nm ∧ (T j).2.2.1 = ds ∧ (T j).2.2.2 = fin ∧ (ref = (T j).1 ∨ Cond.sameField ref (T j).1 nm ds ∈ xTB) ∧ Cond.fieldLink own i ref nm ds ∈ xTB ∧ parseFieldDescriptor ds = some ty ∧ (∀ w ∈ u_ws C T N, w ∈ xTB) ∧ (∀ a, a < N → ∀ b, b < N → a ≠ b → (T a).2.1 ≠ (T b).2.1) ∧ (∃ ys : List FieldType, ∀ k, k < N → parseFieldDescriptor (T k).2.2.1 = some (ys.getD k .int)) ∧ (wr = true → fin = true → (T j).1 = own)
theorem fOK_same {own ref nm ds : String} {T : u_T} {j : Nat} {s : State} {args : Array Value} (hts : ∀ w ∈ xTB, w.before args s = true) (h1 : (T j).2.1 = nm) (h2 : (T j).2.2.1 = ds) (hr : ref = (T j).1 ∨ Cond.sameField ref (T j).1 nm ds ∈ xTB) :
    ∀ x, s.fieldFound? (T j).1 (T j).2.1 (T j).2.2.1 = some x → s.fieldFound? ref (T j).2.1 (T j).2.2.1 = some x := by
  intro x hx
  rcases hr with rfl | hr
  · exact hx
  · rw [h1, h2] at hx ⊢
    exact u_same (hts _ hr) x hx
theorem ok_get {M : MR} {pc i : Nat} {F : List (Nat × Nat)} {ref nm ds : String} {ty : FieldType} {fin : Bool} (hd : decode (mB M) pc = .ok (.getfield i, 3)) (hF : ∀ ci j, F.lookup ci = some j → fOK false (mN M).cls i ref nm ds ty fin ci j) : SOK M pc (sGet F (pc + 3)) := by
  intro d b L st h z Q K hK hs
  unfold sGet at hs
  split at hs
  · rename_i a r
    split at hs
    · rename_i ci fs ha
      split at hs
      · rename_i j hj
        split at hs
        · rename_i v hv
          obtain ⟨C, T, N, g1, g2, g3, g4, g5, g6, g7, g8, g9, -, -⟩ := hF ci j hj
          intro D cid N0 p l e R s m args below meth c X H locs cells slots ls h1 h2 h3 h4 h5 h6
          have hat := (h1.2.2 a _ ha).2
          have hP : va_P D xcl [(a, .inr (ci, fs))] H := fun k q hq => by
            cases k with
            | zero => cases hq; exact hat
            | succ k => simp at hq
          exact va_get X.1 X.2.1 (Ts := xTB) X.2.2.2.2.2.1 g9 X.2.2.2.2.1 X.2.2.2.2.2.2.1.1 hP 0 rfl g1 j g2 (by rw [g3, g4]; exact X.2.2.2.2.2.1 _ g7) (fOK_same (own := (mN M).cls) X.2.2.2.2.2.1 g3 g4 g6) hv hd (hK _ _ _ _ _ _ hs D cid N0 p l e R s m args below meth c X H locs cells slots ls h1 h2 h3 h4 h5 h6)
        · exact hs.elim
      · exact hs.elim
    · exact hs.elim
  · exact hs.elim
theorem ok_put {M : MR} {pc i : Nat} {F : List (Nat × Nat)} {ref nm ds : String} {ty : FieldType} {fin : Bool} (hd : decode (mB M) pc = .ok (.putfield i, 3)) (hF : ∀ ci j, F.lookup ci = some j → fOK true (mN M).cls i ref nm ds ty fin ci j) (hfin : fin = false ∨ (mN M).name = "<init>") : SOK M pc (sPut F ty (pc + 3)) := by
  intro d b L st h z Q K hK hs
  unfold sPut at hs
  split at hs
  · rename_i v a r
    split at hs
    · rename_i ci fs ha
      split at hs
      · rename_i j hj
        obtain ⟨C, T, N, g1, g2, g3, g4, g5, g6, g7, g8, g9, g10, ⟨ys, g11⟩, g12⟩ := hF ci j hj
        obtain ⟨⟨hn, hfit⟩, hl, hs⟩ := hs
        intro D cid N0 p l e R s m args below meth c X H locs cells slots ls h1 h2 h3 h4 h5 h6
        have ha0 := (h1.2.2 a _ ha).1
        have hat := (h1.2.2 a _ ha).2
        have hP : va_P D xcl [(a, .inr (ci, fs))] H := fun k q hq => by
          cases k with
          | zero => cases hq; exact hat
          | succ k => simp at hq
        have hts := X.2.2.2.2.2.1
        have hown := X.2.2.2.2.1
        have hK1 := X.2.2.2.2.2.2.1.1
        have hap := va_apart (own := (mN M).cls) hts g9 (fun k => ys.getD k .int) g11 g10 hK1 g1
        obtain ⟨r', q0, cell, q1, q2, q3, q4⟩ := hat
        have hr : r' = (C, T, N) := Option.some.inj (q0.symm.trans g1)
        subst hr
        obtain ⟨hS, hfc, kC, hkC, hkind⟩ := hK1.1 ci _ g1
        obtain ⟨cf, kf, fi, f, hi, hsl⟩ := hS j g2
        have hst := (u_facts hfc hkC (u_lays hts g9 g2) hi).1
        have hlay := hts _ (g9 _ (u_in_lay g2))
        have hsame := fOK_same (own := (mN M).cls) hts g3 g4 g6
        have hlink : (Cond.fieldLink (mN M).cls i ref (T j).2.1 (T j).2.2.1).before args s = true := by rw [g3, g4]; exact hts _ g7
        have hd2 : parseFieldDescriptor (T j).2.2.1 = some ty := by rw [g4]; exact g8
        have fin_ : ∀ (H1 : Heap), H1[a]? = some (cell.setSlot (D.2 ci j) v) → H1.size = H.size → (∀ q : Nat, q ≠ a → H1[q]? = H[q]?) → W p l e R s m args below meth c H1 (locs ++ [⟨a, D.2 ci j⟩]) cells slots (MQ below (QC D cid N0 Q) args s (cells + b) (slots + 300 * b) (fun q => N0 ≤ q)) (F0 m (pc + 3) ls r) := by
          intro H1 e1 e2 e3
          refine hK _ _ _ _ _ _ hs D cid N0 p l e R s m args below meth c X H1 (locs ++ [⟨a, D.2 ci j⟩]) cells slots ls (h1.set e2 e3 ⟨ha0, ?_⟩) (fun q hq => ?_) (h3.put ha0 e2 e3) h4 h5 h6
          · exact ⟨_, g1, t_OB.to (V := updV (vp_V fs) j v) ⟨_, e1, q2, q3, t_set q4 hap g2 v⟩ (fun k _ => vp_updV_set hl v k)⟩
          · rcases List.mem_append.mp hq with h' | h'
            · exact h2 q h'
            · rw [List.mem_singleton.mp h']; exact ha0
        unfold u_lay at hlay
        by_cases hf : (T j).2.2.2 = true
        · rw [if_pos hf] at hlay
          have hinit : meth.name = "<init>" := by
            rcases hfin with q | q
            · rw [g5, q] at hf; cases hf
            · exact X.2.2.2.2.2.2.2.2.1.trans q
          have hcf : m.cls = cf := by
            obtain ⟨_, _, c', _, _, _, -, -, hf', -, -, -, hown2, -⟩ := Cond.laysFinal_spec hlay
            have e1 : c' = cf := by have := hi.symm.trans hf'; simp at this; exact this.1.symm
            rw [g12 rfl (g5.symm.trans hf)] at hown2
            rw [← e1]; exact Option.some.inj (hown.symm.trans hown2)
          have h6' := u_fits hfc hkC hkind (Or.inr hlay) hi hd2 hn hfit
          refine W.putFinK X.1 X.2.1 hown hlink (hsame _ hi) hst hcf hinit (by rw [q2]; exact h6') q1 q3 (by rw [hsl]; exact k2_hasslot (q4 j g2)) rfl rfl hd fun H' e1 e2 e3 => ?_
          rw [hsl] at e1 ⊢
          exact fin_ H' e1 e2 e3
        · rw [if_neg hf] at hlay
          have h6' := u_store hfc hkC hkind hlay hi hd2 hn hfit
          refine W.putK X.1 X.2.1 (f := f) ⟨hown, hlink, ⟨_, _, _, hsame _ hi⟩, hst⟩ (by rw [q2]; exact h6') q1 q3 (by rw [hsl]; exact k2_hasslot (q4 j g2)) rfl rfl hd fun H' e1 e2 e3 => ?_
          rw [hsl] at e1 ⊢
          exact fin_ H' e1 e2 e3
      · exact hs.elim
    · exact hs.elim
  · exact hs.elim
/-! arrays -/
def sIal (nx : Nat) : XS := fun L st h z b _ K _ => match st with
  | .int i :: .ref a :: r => match h a with
    | some (.inl (t, n, .inl f)) => (t = 0 ∨ t = 9) ∧ vp_in i n ∧ K nx L (.int (f i.toNatClampNeg) :: r) h z b
    | _ => False
  | _ => False
theorem xTys_at {cid : Nat → ClassId} {t : Nat} {ty : FieldType} (h : xty[t]? = some ty) : (xTys cid)[t]? = some (cid t, ty) := by
  match t, h with
  | 0, h => cases h; rfl
  | 1, h => cases h; rfl
  | 2, h => cases h; rfl
  | 3, h => cases h; rfl
  | 4, h => cases h; rfl
  | 5, h => cases h; rfl
  | 6, h => cases h; rfl
  | t + 7, h => simp [xty] at h
theorem hP1 {D : va_G} {cid : Nat → ClassId} {H : Heap} {a t n : Nat} {x} (h : H[a]? = some (vp_cell (cid t) (n, x))) : va_P D xcl [(a, .inl (cid t, n, x))] H := fun k q hq => by
  cases k with
  | zero => cases hq; exact h
  | succ k => simp at hq
theorem ok_ial {M : MR} {pc : Nat} (hd : decode (mB M) pc = .ok (.iaload, 1)) : SOK M pc (sIal (pc + 1)) := by
  intro d b L st h z Q K hK hs
  unfold sIal at hs
  split at hs
  · rename_i i a r
    split at hs
    · rename_i t n f ha
      obtain ⟨ht, hin, hs⟩ := hs
      intro D cid N0 p l e R s m args below meth c X H locs cells slots ls h1 h2 h3 h4 h5 h6
      have kk := hK _ _ _ _ _ _ hs D cid N0 p l e R s m args below meth c X H locs cells slots ls h1 h2 h3 h4 h5 h6
      rcases h1.2.2 a _ ha with ⟨t7, -, hc⟩ | ⟨t9, f', hf', hx⟩
      · have t0 : t = 0 := by omega
        subst t0
        exact va_iald X.1 X.2.1 X.2.2.2.2.2.2.1.1 (hP1 hc) 0 0 rfl (xTys_at (t := 0) rfl) hin hd kk
      · cases hf'
        obtain ⟨scr, x1, x2, x3, x4, x5⟩ := hx
        have hlt : i.toNatClampNeg < n := Nat.not_le.mp fun q => hin (Or.inr q)
        exact W.iald X.1 X.2.1 x1 x2 x3 (by rw [x4]; exact hin) (x5 _ hlt) rfl rfl hd kk
    · exact hs.elim
  · exact hs.elim
