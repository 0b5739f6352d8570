/-! WHAT A PRINT LACKS, AND THE TREE -/
def lkI (w c : Nat) : Nat := cnt 8 (fun t => w.testBit t && !c.testBit t)
def cvO (o : Option Nat) (b w : Nat → Nat) : Nat := match o with
  | none => 0
  | some l => b l ||| w l
def lkQ (f w : Nat → Nat) (n' : Nat) (f' b' w' : Nat → Nat) (i : Nat) : Nat := (match plc n' f' (f i) with | none => 8 | some _ => 0) + lkI (w i) (cvO (plc n' f' (f i)) b' w')
theorem lkQ_le (f w : Nat → Nat) (n' : Nat) (f' b' w' : Nat → Nat) (i : Nat) : lkQ f w n' f' b' w' i ≤ 16 := by
  unfold lkQ lkI
  have := cnt_le 8 (fun t => (w i).testBit t && !(cvO (plc n' f' (f i)) b' w').testBit t)
  split <;> omega
/-- what q lacks in p; 6: in none -/
def lkS (S : SH) (cost q p : Nat) : Nat := if p = 6 then sumN (S.sz q) (fun i => pop 8 (S.w q i)) + cost else sumN (S.sz q) (lkQ (S.f q) (S.w q) (S.sz p) (S.f p) (S.b p) (S.w p))
/-- where one comes out who goes up from p as long as he is below i -/
def itF (fr : Nat → Nat) (i : Nat) : Nat → Nat → Nat
  | 0, p => p
  | k + 1, p => if p < i then itF fr i k (fr p) else p
def rpN {α : Type} (F : Nat → α → α) : Nat → α → α
  | 0, x => x
  | p + 1, x => F p (rpN F p x)
/-- all trees behind a choice gone through, the best of them kept -/
def chT (np : Nat) (lk : Nat → Nat → Nat) : Nat → Nat → (Nat → Nat) → Nat → Nat × (Nat → Nat) → Nat × (Nat → Nat)
  | 0, _, fr, sum, x => if sum < x.1 then (sum, fr) else x
  | m + 1, i, fr, sum, x => chT np lk m (i + 1) (upN fr i 6) (sum + lk i 6) (rpN (fun p y => if itF fr i 6 p = i then y else chT np lk m (i + 1) (upN fr i p) (sum + lk i p) y) np x)
theorem rpN_id {α : Type} {F : Nat → α → α} {x : α} : ∀ {n : Nat}, (∀ p, p < n → F p x = x) → rpN F n x = x := by
  intro n
  induction n with
  | zero => intro _; rfl
  | succ n ih =>
    intro h
    show F n (rpN F n x) = x
    rw [ih (fun p hp => h p (by omega))]
    exact h n (by omega)
theorem chT_cut (np : Nat) (lk : Nat → Nat → Nat) (LF : Nat → Nat) (hF : ∀ i, i < np → (∀ p, p < np → p ≠ i → LF i ≤ lk i p + LF (i + 1)) ∧ LF i ≤ lk i 6 + LF (i + 1)) (h0 : LF np = 0) : ∀ (m i : Nat) (fr : Nat → Nat) (sum : Nat) (x : Nat × (Nat → Nat)), i + m = np → x.1 ≤ sum + LF i → chT np lk m i fr sum x = x := by
  intro m
  induction m with
  | zero =>
    intro i fr sum x hi hx
    have e : i = np := by omega
    subst e
    rw [h0] at hx
    exact if_neg (by omega)
  | succ m ih =>
    intro i fr sum x hi hx
    have q : rpN (fun p y => if itF fr i 6 p = i then y else chT np lk m (i + 1) (upN fr i p) (sum + lk i p) y) np x = x := by
      refine rpN_id (fun p hp => ?_)
      by_cases c : itF fr i 6 p = i
      · exact if_pos c
      · have n : p ≠ i := fun e => c (by rw [e]; exact if_neg (by omega))
        have := (hF i (by omega)).1 p hp n
        show (if itF fr i 6 p = i then x else _) = x
        rw [if_neg c]
        exact ih (i + 1) _ _ x (by omega) (by omega)
    show chT np lk m (i + 1) (upN fr i 6) (sum + lk i 6) (rpN _ np x) = x
    rw [q]
    have := (hF i (by omega)).2
    exact ih (i + 1) _ _ x (by omega) (by omega)
theorem DeRaw.B {h : XH} {a pr : Nat} {le : Int32} {L : Nat → Nat → Int32} {A B C : Nat → Int32} (x : DeRaw h a pr le L A B C) (B' : Nat → Int32) : DeRaw (hset h (a + 9) (.inl (0, 6, .inl B'))) a pr le L A B' C := by
  obtain ⟨e0, ⟨g, e1, er⟩, e8, e9, e10⟩ := x
  refine ⟨by rw [hset_n _ _ (by omega)]; exact e0, ⟨g, by rw [hset_n _ _ (by omega)]; exact e1, fun i hi => ⟨(er i hi).1, by rw [hset_n _ _ (by omega)]; exact (er i hi).2⟩⟩, by rw [hset_n _ _ (by omega)]; exact e8, hset_s _ _ _, by rw [hset_n _ _ (by omega)]; exact e10⟩
theorem DeRaw.A {h : XH} {a pr : Nat} {le : Int32} {L : Nat → Nat → Int32} {A B C : Nat → Int32} (x : DeRaw h a pr le L A B C) (A' : Nat → Int32) : DeRaw (hset h (a + 8) (.inl (0, 7, .inl A'))) a pr le L A' B C := by
  obtain ⟨e0, ⟨g, e1, er⟩, e8, e9, e10⟩ := x
  refine ⟨by rw [hset_n _ _ (by omega)]; exact e0, ⟨g, by rw [hset_n _ _ (by omega)]; exact e1, fun i hi => ⟨(er i hi).1, by rw [hset_n _ _ (by omega)]; exact (er i hi).2⟩⟩, hset_s _ _ _, by rw [hset_n _ _ (by omega)]; exact e9, by rw [hset_n _ _ (by omega)]; exact e10⟩
theorem DeRaw.C {h : XH} {a pr : Nat} {le : Int32} {L : Nat → Nat → Int32} {A B C : Nat → Int32} (x : DeRaw h a pr le L A B C) (C' : Nat → Int32) : DeRaw (hset h (a + 10) (.inl (0, 6, .inl C'))) a pr le L A B C' := by
  obtain ⟨e0, ⟨g, e1, er⟩, e8, e9, e10⟩ := x
  refine ⟨by rw [hset_n _ _ (by omega)]; exact e0, ⟨g, by rw [hset_n _ _ (by omega)]; exact e1, fun i hi => ⟨(er i hi).1, by rw [hset_n _ _ (by omega)]; exact (er i hi).2⟩⟩, by rw [hset_n _ _ (by omega)]; exact e8, by rw [hset_n _ _ (by omega)]; exact e9, hset_s _ _ _⟩
theorem DeRaw.O {h : XH} {a pr : Nat} {le : Int32} {L : Nat → Nat → Int32} {A B C : Nat → Int32} (x : DeRaw h a pr le L A B C) (pr' : Nat) (le' : Int32) : DeRaw (hset h a (.inr (0, [.ref (a + 1), .ref (a + 8), .ref (a + 9), .ref (a + 10), .int (nI pr'), .int le']))) a pr' le' L A B C := by
  obtain ⟨e0, ⟨g, e1, er⟩, e8, e9, e10⟩ := x
  refine ⟨hset_s _ _ _, ⟨g, by rw [hset_n _ _ (by omega)]; exact e1, fun i hi => ⟨(er i hi).1, by rw [hset_n _ _ (by omega)]; exact (er i hi).2⟩⟩, by rw [hset_n _ _ (by omega)]; exact e8, by rw [hset_n _ _ (by omega)]; exact e9, by rw [hset_n _ _ (by omega)]; exact e10⟩
theorem DeRaw.L {h : XH} {a pr : Nat} {le : Int32} {L : Nat → Nat → Int32} {A B C : Nat → Int32} (x : DeRaw h a pr le L A B C) (i : Nat) (hi : i < 6) (R : Nat → Int32) : DeRaw (hset h (a + 2 + i) (.inl (0, 7, .inl R))) a pr le (fun j => if j = i then R else L j) A B C := by
  obtain ⟨e0, ⟨g, e1, er⟩, e8, e9, e10⟩ := x
  refine ⟨by rw [hset_n _ _ (by omega)]; exact e0, ⟨g, by rw [hset_n _ _ (by omega)]; exact e1, fun j hj => ⟨(er j hj).1, ?_⟩⟩, by rw [hset_n _ _ (by omega)]; exact e8, by rw [hset_n _ _ (by omega)]; exact e9, by rw [hset_n _ _ (by omega)]; exact e10⟩
  show _ = some (Sum.inl (0, 7, Sum.inl (if j = i then R else L j)))
  by_cases c : j = i
  · rw [c, hset_s, if_pos rfl]
  · rw [hset_n _ _ (by omega), if_neg c]
    exact (er j hj).2
theorem DeRaw.kept {h h' : XH} {a pr : Nat} {le : Int32} {L : Nat → Nat → Int32} {A B C : Nat → Int32} (x : DeRaw h a pr le L A B C) (o : ∀ q, a ≤ q → q < a + 11 → h' q = h q) : DeRaw h' a pr le L A B C := by
  obtain ⟨e0, ⟨g, e1, er⟩, e8, e9, e10⟩ := x
  exact ⟨by rw [o _ (by omega) (by omega)]; exact e0, ⟨g, by rw [o _ (by omega) (by omega)]; exact e1, fun i hi => ⟨(er i hi).1, by rw [o _ (by omega) (by omega)]; exact (er i hi).2⟩⟩, by rw [o _ (by omega) (by omega)]; exact e8, by rw [o _ (by omega) (by omega)]; exact e9, by rw [o _ (by omega) (by omega)]; exact e10⟩
def stO (np : Nat) (x : Nat × (Nat → Nat)) (C : Nat → Int32) : Prop := x.1 ≤ 1000000 ∧ (x.1 < 1000000 → ∀ j, j < np → C j = nI (x.2 j))
def lkO (np : Nat) (lk : Nat → Nat → Nat) (LF : Nat → Nat) (L : Nat → Nat → Int32) (A : Nat → Int32) : Prop := np ≤ 6 ∧ (∀ i, i < np → (∀ p, p < np → p ≠ i → L i p = nI (lk i p) ∧ lk i p ≤ 1000 ∧ LF i ≤ lk i p + LF (i + 1)) ∧ L i 6 = nI (lk i 6) ∧ lk i 6 ≤ 1000 ∧ LF i ≤ lk i 6 + LF (i + 1)) ∧ LF np = 0 ∧ ∀ i, i ≤ np → A i = nI (LF i) ∧ LF i ≤ 10000
theorem hd_90 (h : XH) (a : Nat) (e : XE) : hset h (a + 9) e a = h a := hset_n _ _ (by omega)
theorem hd_91 (h : XH) (a : Nat) (e : XE) : hset h (a + 9) e (a + 1) = h (a + 1) := hset_n _ _ (by omega)
theorem hd_09 (h : XH) (a : Nat) (e : XE) : hset h a e (a + 9) = h (a + 9) := hset_n _ _ (by omega)
theorem hd_08 (h : XH) (a : Nat) (e : XE) : hset h a e (a + 8) = h (a + 8) := hset_n _ _ (by omega)
theorem hd_0a (h : XH) (a : Nat) (e : XE) : hset h a e (a + 10) = h (a + 10) := hset_n _ _ (by omega)
theorem hd_80 (h : XH) (a : Nat) (e : XE) : hset h (a + 8) e a = h a := hset_n _ _ (by omega)
theorem hd_81 (h : XH) (a : Nat) (e : XE) : hset h (a + 8) e (a + 1) = h (a + 1) := hset_n _ _ (by omega)
