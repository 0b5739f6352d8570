/-! THE WHOLE: each frame from the print that has it best -/
def adO (ah : Option Nat) (p c : Nat) : Nat := match ah with
  | none => 0
  | some x => if x = p then 0 else c
def csO (O : Nat → Option Nat) (ah : Option Nat) (c : Nat) (p : Option Nat) : Nat := match p with
  | none => 0
  | some x => (O x).getD 0 + adO ah x c
/-- the first of the best prints for a frame -/
def chp (O : Nat → Option Nat) (ah : Option Nat) (c : Nat) : Nat → Option Nat
  | 0 => none
  | p + 1 => match O p with
    | none => chp O ah c p
    | some v => match chp O ah c p with
      | none => some p
      | some g => if v + adO ah p c < (O g).getD 0 + adO ah g c then some p else some g
theorem chp_some {O : Nat → Option Nat} {ah : Option Nat} {c : Nat} : ∀ {n x : Nat}, chp O ah c n = some x → x < n ∧ ∃ v, O x = some v := by
  intro n
  induction n with
  | zero => intro x h; cases h
  | succ p ih =>
    intro x h
    unfold chp at h
    split at h
    · have := ih h
      exact ⟨by omega, this.2⟩
    · rename_i v hv
      split at h
      · cases h
        exact ⟨by omega, v, hv⟩
      · rename_i g hg
        split at h
        · cases h
          exact ⟨by omega, v, hv⟩
        · cases h
          have := ih hg
          exact ⟨by omega, this.2⟩
theorem adO_le (ah : Option Nat) (p c : Nat) : adO ah p c ≤ c := by
  unfold adO
  split
  · omega
  · split <;> omega
def okO (np : Nat) (O : Nat → Option Nat) (R : Nat → Int32) : Prop := ∀ p, p < np → R p = oI (O p) ∧ ∀ v, O p = some v → v ≤ 10000
theorem csO_le {np : Nat} {O : Nat → Option Nat} {R : Nat → Int32} (hO : okO np O R) {ah : Option Nat} {c : Nat} (hc : c ≤ 99) {p : Option Nat} (hp : ∀ x, p = some x → x < np) : csO O ah c p ≤ 10099 := by
  unfold csO
  split
  · omega
  · rename_i x
    have h1 := adO_le ah x c
    have h2 := (hO x (hp x rfl)).2
    rcases hv : O x with _ | v
    · simp only [Option.getD_none]
      omega
    · have := h2 v hv
      simp only [Option.getD_some]
      omega
theorem oI_n : oI none = -1 := rfl
theorem oI_s (i : Nat) : oI (some i) = nI i := rfl
def rsJ (S : SH) (c : Nat) (O : Nat → Nat → Option Nat) (bh : Option Nat) (p : Nat) : Nat := match bh with
  | none => 0
  | some g => csO (O g) (some p) c (chp (O g) (some p) c S.n)
/-- what a print costs for a frame, with all frames behind it -/
def rowJ (S : SH) (c f : Nat) (O : Nat → Nat → Option Nat) (bh : Option Nat) (p : Nat) : Option Nat := match plc (S.sz p) (S.f p) f with
  | none => none
  | some l => some (pop 8 (S.b p l) + pop 8 (S.w p l) + rsJ S c O bh p)
def hadF (R : Nat → Option Nat) : Nat → Bool
  | 0 => false
  | p + 1 => hadF R p || (R p).isSome
def wgJ (S : SH) (n c : Nat) : Nat → (Nat → Nat → Option Nat) × Option Nat
  | 0 => (fun _ _ => none, none)
  | m + 1 => (fun g => if g = n - (m + 1) then rowJ S c (n - (m + 1)) (wgJ S n c m).1 (wgJ S n c m).2 else (wgJ S n c m).1 g, if hadF (rowJ S c (n - (m + 1)) (wgJ S n c m).1 (wgJ S n c m).2) S.n then some (n - (m + 1)) else (wgJ S n c m).2)
theorem JoRaw.O {h : XH} {a pr to lo : Nat} {N : Nat → Nat → Int32} {C : Nat → Int32} (x : JoRaw h a pr to lo N C) (pr' to' lo' : Nat) : JoRaw (hset h a (.inr (2, [.ref (a + 1), .ref (a + 50), .int (nI pr'), .int (nI to'), .int (nI lo')]))) a pr' to' lo' N C := by
  obtain ⟨e0, ⟨g, e1, er⟩, e5⟩ := x
  exact ⟨hset_s _ _ _, ⟨g, by rw [hset_n _ _ (by omega)]; exact e1, fun i hi => ⟨(er i hi).1, by rw [hset_n _ _ (by omega)]; exact (er i hi).2⟩⟩, by rw [hset_n _ _ (by omega)]; exact e5⟩
theorem JoRaw.C {h : XH} {a pr to lo : Nat} {N : Nat → Nat → Int32} {C : Nat → Int32} (x : JoRaw h a pr to lo N C) (C' : Nat → Int32) : JoRaw (hset h (a + 50) (.inl (0, 48, .inl C'))) a pr to lo N C' := by
  obtain ⟨e0, ⟨g, e1, er⟩, e5⟩ := x
  exact ⟨by rw [hset_n _ _ (by omega)]; exact e0, ⟨g, by rw [hset_n _ _ (by omega)]; exact e1, fun i hi => ⟨(er i hi).1, by rw [hset_n _ _ (by omega)]; exact (er i hi).2⟩⟩, hset_s _ _ _⟩
theorem JoRaw.N {h : XH} {a pr to lo : Nat} {N : Nat → Nat → Int32} {C : Nat → Int32} (x : JoRaw h a pr to lo N C) (i : Nat) (hi : i < 48) (R : Nat → Int32) : JoRaw (hset h (a + 2 + i) (.inl (0, 6, .inl R))) a pr to lo (fun j => if j = i then R else N j) C := by
  obtain ⟨e0, ⟨g, e1, er⟩, e5⟩ := x
  refine ⟨by rw [hset_n _ _ (by omega)]; exact e0, ⟨g, by rw [hset_n _ _ (by omega)]; exact e1, fun j hj => ⟨(er j hj).1, ?_⟩⟩, by rw [hset_n _ _ (by omega)]; exact e5⟩
  show _ = some (Sum.inl (0, 6, Sum.inl (if j = i then R else N j)))
  by_cases c : j = i
  · rw [c, hset_s, if_pos rfl]
  · rw [hset_n _ _ (by omega), if_neg c]
    exact (er j hj).2
theorem JoRaw.kept {h h' : XH} {a pr to lo : Nat} {N : Nat → Nat → Int32} {C : Nat → Int32} (x : JoRaw h a pr to lo N C) (o : ∀ q, a ≤ q → q < a + 51 → h' q = h q) : JoRaw h' a pr to lo N C := by
  obtain ⟨e0, ⟨g, e1, er⟩, e5⟩ := x
  exact ⟨by rw [o _ (by omega) (by omega)]; exact e0, ⟨g, by rw [o _ (by omega) (by omega)]; exact e1, fun i hi => ⟨(er i hi).1, by rw [o _ (by omega) (by omega)]; exact (er i hi).2⟩⟩, by rw [o _ (by omega) (by omega)]; exact e5⟩
