/-! THE WHOLE: weighed and joined -/
def okJ (np n m : Nat) (O : Nat → Nat → Option Nat) (bh : Option Nat) (N : Nat → Nat → Int32) : Prop := (∀ g, n - m ≤ g → g < n → ∀ p, p < np → N g p = oI (O g p)) ∧ (∀ g p v, O g p = some v → v ≤ 115 * m) ∧ ∀ g, bh = some g → n - m ≤ g ∧ g < n
def ahJ (O : Nat → Nat → Option Nat) (c np : Nat) : Nat → Option Nat
  | 0 => none
  | f + 1 => match chp (O f) (ahJ O c np f) c np with
    | none => ahJ O c np f
    | some p => some p
def coJ (O : Nat → Nat → Option Nat) (c np f : Nat) : Option Nat := chp (O f) (ahJ O c np f) c np
def toJ (O : Nat → Nat → Option Nat) (c np : Nat) : Nat → Nat
  | 0 => 0
  | f + 1 => match coJ O c np f with
    | none => toJ O c np f
    | some p => if ahJ O c np f = none then (O f p).getD 0 else toJ O c np f
def loJ (O : Nat → Nat → Option Nat) (c np f : Nat) : Nat := cnt f (fun j => (coJ O c np j).isNone)
theorem ahJ_lt {O : Nat → Nat → Option Nat} {c np : Nat} : ∀ {f x : Nat}, ahJ O c np f = some x → x < np := by
  intro f
  induction f with
  | zero => intro x h; cases h
  | succ f ih =>
    intro x h
    unfold ahJ at h
    split at h
    · exact ih h
    · rename_i p hp
      cases h
      exact (chp_some hp).1
