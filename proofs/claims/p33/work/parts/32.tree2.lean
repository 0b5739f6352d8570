/-! THE TREE: what is weighed for it -/
def mnF (x0 : Nat) (g : Nat → Nat) (i : Nat) : Nat → Nat
  | 0 => x0
  | p + 1 => if p = i then mnF x0 g i p else min (mnF x0 g i p) (g p)
theorem mnF_0 (x0 : Nat) (g : Nat → Nat) (i : Nat) : ∀ p, mnF x0 g i p ≤ x0 := by
  intro p
  induction p with
  | zero => exact Nat.le_refl _
  | succ p ih => unfold mnF; split <;> omega
theorem mnF_le (x0 : Nat) (g : Nat → Nat) (i : Nat) : ∀ p q, q < p → q ≠ i → mnF x0 g i p ≤ g q := by
  intro p
  induction p with
  | zero => intro q h; omega
  | succ p ih =>
    intro q h n
    unfold mnF
    split
    · exact ih q (by omega) n
    · by_cases c : q = p
      · subst c; omega
      · have := ih q (by omega) n; omega
def loS (S : SH) (cost i : Nat) : Nat := mnF (lkS S cost i 6) (lkS S cost i) i S.n
def lfm (low : Nat → Nat) (n : Nat) : Nat → Nat
  | 0 => 0
  | m + 1 => lfm low n m + low (n - (m + 1))
def LFS (S : SH) (cost i : Nat) : Nat := lfm (loS S cost) S.n (S.n - i)
theorem lfm_le {low : Nat → Nat} {n c : Nat} (h : ∀ i, i < n → low i ≤ c) : ∀ m, m ≤ n → lfm low n m ≤ m * c := by
  intro m
  induction m with
  | zero => intro _; simp [lfm]
  | succ m ih =>
    intro hm
    have ih := ih (by omega)
    have := h (n - (m + 1)) (by omega)
    unfold lfm
    rw [Nat.succ_mul]
    omega
theorem LFS_s (S : SH) (cost i : Nat) (hi : i < S.n) : LFS S cost i = LFS S cost (i + 1) + loS S cost i := by
  unfold LFS
  rw [show S.n - i = (S.n - (i + 1)) + 1 by omega]
  show lfm _ _ (S.n - (i + 1)) + loS S cost (S.n - (S.n - (i + 1) + 1)) = _
  rw [show S.n - (S.n - (i + 1) + 1) = i by omega]
/-- what is weighed for one print -/
def rowO (S : SH) (cost i : Nat) (R : Nat → Int32) : Prop := (∀ p, p < S.n → p ≠ i → R p = nI (lkS S cost i p)) ∧ R 6 = nI (lkS S cost i 6)
/-- the tree that lacks least -/
def trS (S : SH) (cost : Nat) : Nat × (Nat → Nat) := chT S.n (lkS S cost) S.n 0 (fun _ => 0) 0 (1000000, fun _ => 0)
theorem lkS_le {h : XH} {s : Nat} {S : SH} (hS : ShAt h s S) {cost : Nat} (hcost : cost ≤ 99) {i : Nat} (hi : i < S.n) (p : Nat) : lkS S cost i p ≤ 1000 := by
  obtain ⟨-, -, -, yP⟩ := hS
  obtain ⟨F2, B2, W2, P2, -, ⟨hn2, -⟩, -⟩ := (yP i hi).2
  unfold lkS
  split
  · have := sumN_le (n := S.sz i) (c := 8) (p := fun j => pop 8 (S.w i j)) (fun j _ => pop8_le 8 _)
    omega
  · have := sumN_le (n := S.sz i) (c := 16) (p := lkQ (S.f i) (S.w i) (S.sz p) (S.f p) (S.b p) (S.w p)) (fun i _ => lkQ_le _ _ _ _ _ _ i)
    omega
