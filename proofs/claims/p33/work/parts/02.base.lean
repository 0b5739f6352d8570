/-! THE BASE: an abstract machine over the kit's W: cells by address, locals by place, one judgement AR; each instruction a step of it -/
abbrev XE : Type := (Nat × vp_A) ⊕ (Nat × List Value)
abbrev XH : Type := Nat → Option XE
abbrev XL : Type := List (Option Value)
/-- a method: its name, bytes, locals, what it answers, its home's number, how many cells it may make, its instructions -/
abbrev MR : Type := MethodName × ByteArray × Nat × Option FieldType × Nat × Nat × List (Nat × Instr × Nat)
abbrev mN (M : MR) : MethodName := M.1
abbrev mB (M : MR) : ByteArray := M.2.1
abbrev mL (M : MR) : Nat := M.2.2.1
abbrev mR (M : MR) : Option FieldType := M.2.2.2.1
abbrev mC (M : MR) : Nat := M.2.2.2.2.1
abbrev mU (M : MR) : Nat := M.2.2.2.2.2.1
abbrev mT (M : MR) : List (Nat × Instr × Nat) := M.2.2.2.2.2.2
abbrev XQ : Type := Option Value → XH → Nat → Prop
abbrev XK : Type := Nat → XL → List Value → XH → Nat → Nat → Prop
abbrev XC : Type := MR → List Value → XH → Nat → Nat → XL → List Value → Nat → Prop
abbrev XS : Type := XL → List Value → XH → Nat → Nat → XQ → XK → XC → Prop
def hset (h : XH) (a : Nat) (e : XE) : XH := fun q => if q = a then some e else h q
theorem hset_s (h : XH) (a : Nat) (e : XE) : hset h a e a = some e := if_pos rfl
theorem hset_n (h : XH) {a q : Nat} (e : XE) (n : q ≠ a) : hset h a e q = h q := if_neg n
theorem hset_hset (h : XH) (a : Nat) (e e' : XE) : hset (hset h a e) a e' = hset h a e' := by
  funext q
  unfold hset
  by_cases c : q = a
  · simp [c]
  · simp [c]
theorem hset_id {h : XH} {a : Nat} {e : XE} (x : h a = some e) : hset h a e = h := by
  funext q
  unfold hset
  by_cases c : q = a
  · simp [c, x]
  · simp [c]
/-! locals by place -/
def lvG : Nat → XL → List (Nat × Value)
  | _, [] => []
  | i, none :: r => lvG (i + 1) r
  | i, some v :: r => (i, v) :: lvG (i + 1) r
theorem lvG_mem : ∀ (L : XL) (i j : Nat) (v : Value), (j, v) ∈ lvG i L ↔ ∃ k, j = i + k ∧ L[k]? = some (some v) := by
  intro L
  induction L with
  | nil => intro i j v; simp [lvG]
  | cons x r ih =>
    intro i j v
    have hh : (∃ k, j = i + 1 + k ∧ r[k]? = some (some v)) ↔ ∃ k, j = i + (k + 1) ∧ (x :: r)[k + 1]? = some (some v) := by
      constructor
      · rintro ⟨k, h1, h2⟩
        exact ⟨k, by omega, by simpa using h2⟩
      · rintro ⟨k, h1, h2⟩
        exact ⟨k, by omega, by simpa using h2⟩
    cases x with
    | none =>
      rw [lvG, ih, hh]
      constructor
      · rintro ⟨k, h1, h2⟩; exact ⟨k + 1, h1, h2⟩
      · rintro ⟨k, h1, h2⟩
        cases k with
        | zero => simp at h2
        | succ k => exact ⟨k, h1, h2⟩
    | some w =>
      rw [lvG, List.mem_cons, ih, hh]
      constructor
      · rintro (h | ⟨k, h1, h2⟩)
        · cases h; exact ⟨0, rfl, rfl⟩
        · exact ⟨k + 1, h1, h2⟩
      · rintro ⟨k, h1, h2⟩
        cases k with
        | zero =>
          left
          simp at h2
          rw [h2, h1]; rfl
        | succ k => exact Or.inr ⟨k, h1, h2⟩
def lvOf (L : XL) : List (Nat × Value) := lvG 0 L
theorem lvOf_mem {L : XL} {j : Nat} {v : Value} : (j, v) ∈ lvOf L ↔ L[j]? = some (some v) := by
  unfold lvOf
  rw [lvG_mem]
  constructor
  · rintro ⟨k, h1, h2⟩; rw [h1]; simpa using h2
  · intro h; exact ⟨j, by omega, h⟩
def gL : XL → Nat → Option Value
  | [], _ => none
  | x :: _, 0 => x
  | _ :: r, i + 1 => gL r i
theorem gL_some : ∀ {L : XL} {i : Nat} {v : Value}, gL L i = some v → L[i]? = some (some v)
  | [], _, _, h => by simp [gL] at h
  | x :: _, 0, _, h => by simp [gL] at h; simp [h]
  | _ :: r, i + 1, _, h => by simpa using gL_some (L := r) (by simpa [gL] using h)
def clr : Option Value → Option Value
  | some (.long _) => none
  | some (.double _) => none
  | x => x
theorem clr_some {x : Option Value} {v : Value} (h : clr x = some v) : x = some v ∧ v.category ≠ 2 := by
  cases x with
  | none => simp [clr] at h
  | some w => cases w <;> simp [clr] at h <;> subst h <;> simp [Value.category]
/-- a value of one slot is stored at i -/
def stI : XL → Nat → Value → XL
  | [], _, _ => []
  | _ :: r, 0, v => some v :: r
  | x :: r, 1, v => clr x :: stI r 0 v
  | x :: r, i + 2, v => x :: stI r (i + 1) v
/-- a value of two slots is stored at i -/
def stL : XL → Nat → Value → XL
  | [], _, _ => []
  | [_], 0, v => [some v]
  | _ :: _ :: r, 0, v => some v :: none :: r
  | x :: r, 1, v => clr x :: stL r 0 v
  | x :: r, i + 2, v => x :: stL r (i + 1) v
theorem stI_get : ∀ (L : XL) (i : Nat) (v : Value) (j : Nat) (w : Value), (stI L i v)[j]? = some (some w) → (j = i ∧ w = v) ∨ (j ≠ i ∧ L[j]? = some (some w) ∧ (j + 1 = i → w.category ≠ 2))
  | [], i, v, j, w, h => by simp [stI] at h
  | x :: r, 0, v, j, w, h => by
    cases j with
    | zero => simp [stI] at h; exact .inl ⟨rfl, h.symm⟩
    | succ j => simp [stI] at h; exact .inr ⟨by omega, by simpa using h, by omega⟩
  | x :: r, 1, v, j, w, h => by
    cases j with
    | zero =>
      simp [stI] at h
      exact .inr ⟨by omega, by simp [(clr_some h).1], fun _ => (clr_some h).2⟩
    | succ j =>
      simp only [stI, List.getElem?_cons_succ] at h
      rcases stI_get r 0 v j w h with ⟨a, b⟩ | ⟨a, b, _⟩
      · exact .inl ⟨by omega, b⟩
      · exact .inr ⟨by omega, by simpa using b, by omega⟩
  | x :: r, i + 2, v, j, w, h => by
    cases j with
    | zero =>
      simp [stI] at h
      exact .inr ⟨by omega, by simp [h], by omega⟩
    | succ j =>
      simp only [stI, List.getElem?_cons_succ] at h
      rcases stI_get r (i + 1) v j w h with ⟨a, b⟩ | ⟨a, b, c⟩
      · exact .inl ⟨by omega, b⟩
      · exact .inr ⟨by omega, by simpa using b, fun q => c (by omega)⟩
theorem stL_get : ∀ (L : XL) (i : Nat) (v : Value) (j : Nat) (w : Value), (stL L i v)[j]? = some (some w) → (j = i ∧ w = v) ∨ (j ≠ i ∧ j ≠ i + 1 ∧ L[j]? = some (some w) ∧ (j + 1 = i → w.category ≠ 2))
  | [], i, v, j, w, h => by simp [stL] at h
  | [x], 0, v, j, w, h => by
    cases j with
    | zero => simp [stL] at h; exact .inl ⟨rfl, h.symm⟩
    | succ j => simp [stL] at h
  | x :: y :: r, 0, v, j, w, h => by
    match j with
    | 0 => simp [stL] at h; exact .inl ⟨rfl, h.symm⟩
    | 1 => simp [stL] at h
    | j + 2 => simp [stL] at h; exact .inr ⟨by omega, by omega, by simpa using h, by omega⟩
  | x :: r, 1, v, j, w, h => by
    cases j with
    | zero =>
      simp [stL] at h
      exact .inr ⟨by omega, by omega, by simp [(clr_some h).1], fun _ => (clr_some h).2⟩
    | succ j =>
      simp only [stL, List.getElem?_cons_succ] at h
      rcases stL_get r 0 v j w h with ⟨a, b⟩ | ⟨a, a2, b, _⟩
      · exact .inl ⟨by omega, b⟩
      · exact .inr ⟨by omega, by omega, by simpa using b, by omega⟩
  | x :: r, i + 2, v, j, w, h => by
    cases j with
    | zero =>
      simp [stL] at h
      exact .inr ⟨by omega, by omega, by simp [h], by omega⟩
    | succ j =>
      simp only [stL, List.getElem?_cons_succ] at h
      rcases stL_get r (i + 1) v j w h with ⟨a, b⟩ | ⟨a, a2, b, c⟩
      · exact .inl ⟨by omega, b⟩
      · exact .inr ⟨by omega, by omega, by simpa using b, fun q => c (by omega)⟩
/-- L' says no more than L -/
def leL : XL → XL → Prop
  | [], _ => True
  | none :: r, [] => leL r []
  | none :: r, _ :: q => leL r q
  | some _ :: _, [] => False
  | some v :: r, x :: q => x = some v ∧ leL r q
theorem leL_get : ∀ {A B : XL} {i : Nat} {v : Value}, leL A B → A[i]? = some (some v) → B[i]? = some (some v)
  | [], _, _, _, _, e => by simp at e
  | none :: r, [], i, v, h, e => by
    cases i with
    | zero => simp at e
    | succ i => have := leL_get (A := r) (B := []) (i := i) (by simpa [leL] using h) (by simpa using e); simp at this
  | none :: r, x :: q, i, v, h, e => by
    cases i with
    | zero => simp at e
    | succ i => simpa using leL_get (A := r) (B := q) (i := i) (by simpa [leL] using h) (by simpa using e)
  | some w :: r, x :: q, i, v, h, e => by
    obtain ⟨h1, h2⟩ : x = some w ∧ leL r q := by simpa [leL] using h
    cases i with
    | zero => simp at e; subst e; simp [h1]
    | succ i => simpa using leL_get (A := r) (B := q) (i := i) h2 (by simpa using e)
  | some w :: r, [], i, v, h, e => by simp [leL] at h
theorem lv_mono {ls : Array Slot} {n : Nat} {A B : List (Nat × Value)} (h : lv_has ls n A) (s : ∀ q ∈ B, q ∈ A) : lv_has ls n B := ⟨h.1, h.2.1, fun q hq => h.2.2 q (s q hq)⟩
theorem lv_store1L {ls : Array Slot} {n : Nat} {L : XL} {i : Nat} {v : Value} (h : lv_has ls n ((i, v) :: (lvOf L).filter (fun q => !(q.1 == i) && !(q.1 + 1 == i && q.2.category == 2)))) : lv_has ls n (lvOf (stI L i v)) := by
  refine lv_mono h ?_
  rintro ⟨j, w⟩ hq
  rcases stI_get L i v j w (lvOf_mem.mp hq) with ⟨a, b⟩ | ⟨a, b, c⟩
  · rw [a, b]; exact List.mem_cons_self
  · refine List.mem_cons_of_mem _ (List.mem_filter.mpr ⟨lvOf_mem.mpr b, ?_⟩)
    by_cases c2 : j + 1 = i
    · simp [a, c c2]
    · simp [a, c2]
theorem lv_store2L {ls : Array Slot} {n : Nat} {L : XL} {i : Nat} {v : Value} (h : lv_has ls n ((i, v) :: (lvOf L).filter (fun q => !(q.1 == i) && (!(q.1 == i + 1) && !(q.1 + 1 == i && q.2.category == 2))))) : lv_has ls n (lvOf (stL L i v)) := by
  refine lv_mono h ?_
  rintro ⟨j, w⟩ hq
  rcases stL_get L i v j w (lvOf_mem.mp hq) with ⟨a, b⟩ | ⟨a, a2, b, c⟩
  · rw [a, b]; exact List.mem_cons_self
  · refine List.mem_cons_of_mem _ (List.mem_filter.mpr ⟨lvOf_mem.mpr b, ?_⟩)
    by_cases c2 : j + 1 = i
    · simp [a, a2, c c2]
    · simp [a, a2, c2]
