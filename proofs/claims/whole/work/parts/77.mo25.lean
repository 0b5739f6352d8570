/-! TREES: those that the model takes are those that the film goes through, in the same order -/
theorem pigeon : ∀ (n : Nat) (f : Nat → Nat), (∀ j, j ≤ n → f j < n) → ∃ a b, a < b ∧ b ≤ n ∧ f a = f b := by
  intro n
  induction n with
  | zero =>
    intro f h
    exact absurd (h 0 (Nat.le_refl 0)) (Nat.not_lt_zero _)
  | succ n ih =>
    intro f h
    by_cases c : ∃ j, j ≤ n ∧ f j = f (n + 1)
    · obtain ⟨j, h1, h2⟩ := c
      exact ⟨j, n + 1, by omega, Nat.le_refl _, h2⟩
    · have nv : ∀ j, j ≤ n → f j ≠ f (n + 1) := fun j hj e => c ⟨j, hj, e⟩
      have hv := h (n + 1) (Nat.le_refl _)
      obtain ⟨a, b, h1, h2, h3⟩ := ih (fun j => if f j = n then f (n + 1) else f j) (fun j hj => by
        have h4 := h j (by omega)
        have h5 := nv j hj
        show (if f j = n then f (n + 1) else f j) < n
        split
        · omega
        · omega)
      refine ⟨a, b, h1, by omega, ?_⟩
      have h3' : (if f a = n then f (n + 1) else f a) = (if f b = n then f (n + 1) else f b) := h3
      have na := nv a (by omega)
      have nb := nv b (by omega)
      by_cases ca : f a = n
      · by_cases cb : f b = n
        · omega
        · rw [if_pos ca, if_neg cb] at h3'
          omega
      · by_cases cb : f b = n
        · rw [if_neg ca, if_pos cb] at h3'
          omega
        · rw [if_neg ca, if_neg cb] at h3'
          exact h3'
theorem itF_s (fr : Nat → Nat) (i k p : Nat) : itF fr i (k + 1) p = if p < i then itF fr i k (fr p) else p := rfl
theorem itF_add (fr : Nat → Nat) (i : Nat) : ∀ (a b p : Nat), itF fr i (a + b) p = itF fr i b (itF fr i a p) := by
  intro a
  induction a with
  | zero =>
    intro b p
    rw [Nat.zero_add]
    rfl
  | succ a ih =>
    intro b p
    rw [show a + 1 + b = a + b + 1 by omega, itF_s, itF_s]
    by_cases c : p < i
    · rw [if_pos c, if_pos c]
      exact ih b (fr p)
    · rw [if_neg c, if_neg c]
      cases b with
      | zero => rfl
      | succ b => rw [itF_s, if_neg c]
theorem itF_out (fr : Nat → Nat) (i : Nat) {p : Nat} (h : i ≤ p) : ∀ k, itF fr i k p = p := by
  intro k
  cases k with
  | zero => rfl
  | succ k => rw [itF_s, if_neg (by omega)]
theorem itF_sub (fr : Nat → Nat) {i n : Nat} (hin : i ≤ n) : ∀ k p, ∃ j, j ≤ k ∧ itF fr i k p = itF fr n j p := by
  intro k
  induction k with
  | zero => intro p; exact ⟨0, Nat.le_refl _, rfl⟩
  | succ k ih =>
    intro p
    rw [itF_s]
    by_cases c : p < i
    · obtain ⟨j, h1, h2⟩ := ih (fr p)
      refine ⟨j + 1, by omega, ?_⟩
      rw [if_pos c, itF_s, if_pos (by omega), h2]
    · exact ⟨0, Nat.zero_le _, if_neg c⟩
theorem itF_per (fr : Nat → Nat) (i p L : Nat) (h : itF fr i L p = p) : ∀ m, itF fr i (m * L) p = p := by
  intro m
  induction m with
  | zero => rw [Nat.zero_mul]; rfl
  | succ m ih => rw [Nat.succ_mul, itF_add, ih, h]
/-- who comes out at all comes out in i steps -/
theorem itF_fast (fr : Nat → Nat) (i p : Nat) (h : ∃ k, i ≤ itF fr i k p) : i ≤ itF fr i i p := by
  by_cases c : i ≤ itF fr i i p
  · exact c
  · exfalso
    have inn : ∀ j, j ≤ i → itF fr i j p < i := fun j hj => by
      by_cases q : itF fr i j p < i
      · exact q
      · exfalso
        have := itF_add fr i j (i - j) p
        have o := itF_out fr i (show i ≤ itF fr i j p by omega) (i - j)
        rw [show j + (i - j) = i by omega, o] at this
        omega
    obtain ⟨a, b, h1, h2, h3⟩ := pigeon i (fun j => itF fr i j p) inn
    have h3' : itF fr i a p = itF fr i b p := h3
    obtain ⟨k, hk⟩ := h
    have per := itF_per fr i (itF fr i a p) (b - a) (by rw [← itF_add, show a + (b - a) = b by omega, h3']) (k + 1)
    have e1 := itF_add fr i a ((k + 1) * (b - a)) p
    rw [per] at e1
    have ge : k ≤ a + (k + 1) * (b - a) := by
      have : k + 1 ≤ (k + 1) * (b - a) := Nat.le_mul_of_pos_right _ (by omega)
      omega
    have e2 := itF_add fr i k (a + (k + 1) * (b - a) - k) p
    rw [show k + (a + (k + 1) * (b - a) - k) = a + (k + 1) * (b - a) by omega, itF_out fr i hk] at e2
    have := inn a (by omega)
    omega
theorem itF_6 (fr : Nat → Nat) {i p : Nat} (hi : i ≤ 6) (h : i ≤ itF fr i i p) : itF fr i 6 p = itF fr i i p := by
  have := itF_add fr i i (6 - i) p
  rw [show i + (6 - i) = 6 by omega, itF_out fr i h] at this
  exact this
/-- nobody comes from itself -/
abbrev okT (np : Nat) (fr : Nat → Nat) : Prop := ∀ i, i < np → itF fr i 6 (fr i) ≠ i
theorem okT_out {np : Nat} {fr : Nat → Nat} (h6 : np ≤ 6) (h : okT np fr) : ∀ i, i ≤ np → ∀ q, ∃ k, i ≤ itF fr i k q := by
  intro i
  induction i with
  | zero => intro _ q; exact ⟨0, Nat.zero_le _⟩
  | succ i ih =>
    intro hi q
    obtain ⟨k, hk⟩ := ih (by omega) q
    obtain ⟨j, -, hj⟩ := itF_sub fr (i := i) (n := i + 1) (by omega) k q
    by_cases c : i + 1 ≤ itF fr i k q
    · exact ⟨j, by rw [← hj]; exact c⟩
    · have e : itF fr i k q = i := by omega
      have f := itF_fast fr i (fr i) (ih (by omega) (fr i))
      have f6 := itF_6 fr (by omega) f
      have ne := h i (by omega)
      obtain ⟨j', -, hj'⟩ := itF_sub fr (i := i) (n := i + 1) (by omega) 6 (fr i)
      refine ⟨j + (1 + j'), ?_⟩
      rw [itF_add, ← hj, e, itF_add, itF_s, if_pos (by omega)]
      show i + 1 ≤ itF fr (i + 1) j' (fr i)
      rw [← hj']
      omega
theorem okT_i {np : Nat} {fr : Nat → Nat} (h6 : np ≤ 6) : okT np fr ↔ ((∀ q, q < np → fr q ≠ q) ∧ ∀ q, q < np → np ≤ itF fr np np q) := by
  constructor
  · intro h
    refine ⟨fun q hq e => ?_, fun q hq => itF_fast fr np q (okT_out h6 h np (Nat.le_refl _) q)⟩
    exact h q hq (by rw [e]; exact itF_out fr q (Nat.le_refl _) 6)
  · rintro ⟨h1, h2⟩ i hi e
    obtain ⟨j, -, hj⟩ := itF_sub fr (i := i) (n := np) (by omega) 6 (fr i)
    have cyc : itF fr np (j + 1) i = i := by
      rw [itF_s, if_pos hi, ← hj, e]
    have per := itF_per fr np i (j + 1) cyc np
    have out := h2 i hi
    have e2 := itF_add fr np np (np * (j + 1) - np) i
    have ge : np ≤ np * (j + 1) := Nat.le_mul_of_pos_right _ (by omega)
    rw [show np + (np * (j + 1) - np) = np * (j + 1) by omega, per, itF_out fr np out] at e2
    omega
theorem itF_c {fr fr' : Nat → Nat} {i : Nat} (h : ∀ j, j < i → fr' j = fr j) : ∀ k p, itF fr' i k p = itF fr i k p := by
  intro k
  induction k with
  | zero => intro p; rfl
  | succ k ih =>
    intro p
    rw [itF_s, itF_s]
    by_cases c : p < i
    · rw [if_pos c, if_pos c, h p c]
      exact ih (fr p)
    · rw [if_neg c, if_neg c]
/-- a choice as it is told: none is 6 -/
def cvT (np p : Nat) : Nat := if p = np then 6 else p
noncomputable def lfT (np : Nat) (lk : Nat → Nat → Nat) (fr : Nat → Nat) (x : Nat × (Nat → Nat)) : Nat × (Nat → Nat) := @ite _ (okT np fr ∧ sumN np (fun q => lk q (fr q)) < x.1) (Classical.propDecidable _) (sumN np (fun q => lk q (fr q)), fr) x
/-- all ways on from a beginning -/
noncomputable def enT (np : Nat) (lk : Nat → Nat → Nat) : Nat → Nat → (Nat → Nat) → Nat × (Nat → Nat) → Nat × (Nat → Nat)
  | 0, _, fr, x => lfT np lk fr x
  | m + 1, i, fr, x => rpN (fun p y => enT np lk m (i + 1) (upN fr i (cvT np p)) y) (np + 1) x
theorem rpN_c {α : Type} {F G : Nat → α → α} {x : α} : ∀ {n : Nat}, (∀ p, p < n → ∀ y, F p y = G p y) → rpN F n x = rpN G n x := by
  intro n
  induction n with
  | zero => intro _; rfl
  | succ n ih =>
    intro h
    show F n (rpN F n x) = G n (rpN G n x)
    rw [ih (fun p hp => h p (by omega)), h n (by omega)]
theorem rpN_add {α : Type} (F : Nat → α → α) (x : α) (a : Nat) : ∀ b, rpN F (a + b) x = rpN (fun c y => F (a + c) y) b (rpN F a x) := by
  intro b
  induction b with
  | zero => rfl
  | succ b ih =>
    show F (a + b) (rpN F (a + b) x) = F (a + b) (rpN (fun c y => F (a + c) y) b (rpN F a x))
    rw [ih]
theorem rpN_mul {α : Type} (F : Nat → α → α) (x : α) (n : Nat) : ∀ b, rpN F (b * n) x = rpN (fun p y => rpN (fun c y => F (p * n + c) y) n y) b x := by
  intro b
  induction b with
  | zero => rw [Nat.zero_mul]; rfl
  | succ b ih =>
    rw [Nat.succ_mul, rpN_add, ih]
    rfl
theorem enT_dead {np : Nat} {lk : Nat → Nat → Nat} {j : Nat} (hj : j < np) : ∀ (m i : Nat) (fr : Nat → Nat) (x : Nat × (Nat → Nat)), j < i → itF fr j 6 (fr j) = j → enT np lk m i fr x = x := by
  intro m
  induction m with
  | zero =>
    intro i fr x hi h
    exact if_neg (fun q => q.1 j hj h)
  | succ m ih =>
    intro i fr x hi h
    refine rpN_id fun p hp => ?_
    refine ih (i + 1) _ x (by omega) ?_
    rw [upN_n _ _ (by omega), itF_c (fun k hk => upN_n _ _ (by omega))]
    exact h
theorem chT_en {np : Nat} {lk : Nat → Nat → Nat} (h6 : np ≤ 6) : ∀ (m i : Nat) (fr : Nat → Nat) (sum : Nat) (x : Nat × (Nat → Nat)), i + m = np → (∀ j, j < i → itF fr j 6 (fr j) ≠ j) → sum = sumN i (fun q => lk q (fr q)) → chT np lk m i fr sum x = enT np lk m i fr x := by
  intro m
  induction m with
  | zero =>
    intro i fr sum x hi hok hs
    have e : i = np := by omega
    subst e
    show (if sum < x.1 then (sum, fr) else x) = lfT i lk fr x
    unfold lfT
    by_cases c : sum < x.1
    · rw [if_pos c, if_pos ⟨hok, by rw [← hs]; exact c⟩, hs]
    · rw [if_neg c, if_neg (fun q => c (by rw [hs]; exact q.2))]
  | succ m ih =>
    intro i fr sum x hi hok hs
    have sm : ∀ p, sum + lk i p = sumN (i + 1) (fun q => lk q (upN fr i p q)) := fun p => by
      show _ = sumN i (fun q => lk q (upN fr i p q)) + lk i (upN fr i p i)
      rw [upN_s, hs]
      congr 1
      exact sumN_c fun j hj => by rw [upN_n _ _ (by omega)]
    have ok1 : ∀ p, itF fr i 6 p ≠ i → ∀ j, j < i + 1 → itF (upN fr i p) j 6 (upN fr i p j) ≠ j := fun p hp j hj => by
      rw [itF_c (fun k hk => upN_n _ _ (by omega))]
      by_cases e : j = i
      · rw [e, upN_s]
        exact hp
      · rw [upN_n _ _ e]
        exact hok j (by omega)
    show chT np lk m (i + 1) (upN fr i 6) (sum + lk i 6) _ = enT np lk m (i + 1) (upN fr i (cvT np np)) (rpN (fun p y => enT np lk m (i + 1) (upN fr i (cvT np p)) y) np x)
    have c6 : cvT np np = 6 := if_pos rfl
    rw [c6, ih (i + 1) (upN fr i 6) _ _ (by omega) (ok1 6 (by rw [itF_out fr i (by omega)]; omega)) (sm 6)]
    congr 1
    refine rpN_c fun p hp y => ?_
    have cp : cvT np p = p := if_neg (by omega)
    rw [cp]
    by_cases c : itF fr i 6 p = i
    · rw [if_pos c]
      refine (enT_dead (j := i) (by omega) m (i + 1) _ y (by omega) ?_).symm
      rw [upN_s, itF_c (fun k hk => upN_n _ _ (by omega))]
      exact c
    · rw [if_neg c]
      exact ih (i + 1) (upN fr i p) _ y (by omega) (ok1 p c) (sm p)
/-- the choices that a code stands for -/
def tpT (np : Nat) : Nat → Nat → (Nat → Nat) → Nat → (Nat → Nat)
  | 0, _, fr, _ => fr
  | m + 1, i, fr, c => tpT np m (i + 1) (upN fr i (cvT np (c / (np + 1) ^ m))) (c % (np + 1) ^ m)
theorem enT_code {np : Nat} {lk : Nat → Nat → Nat} : ∀ (m i : Nat) (fr : Nat → Nat) (x : Nat × (Nat → Nat)), enT np lk m i fr x = rpN (fun c y => lfT np lk (tpT np m i fr c) y) ((np + 1) ^ m) x := by
  intro m
  induction m with
  | zero => intro i fr x; rfl
  | succ m ih =>
    intro i fr x
    have hp : 0 < (np + 1) ^ m := Nat.pow_pos (by omega)
    rw [Nat.pow_succ, Nat.mul_comm, rpN_mul]
    show rpN (fun p y => enT np lk m (i + 1) (upN fr i (cvT np p)) y) (np + 1) x = _
    refine rpN_c fun p _ y => ?_
    rw [ih]
    refine rpN_c fun c hc z => ?_
    have e1 : (p * (np + 1) ^ m + c) / (np + 1) ^ m = p := by
      rw [Nat.add_comm, Nat.add_mul_div_right _ _ hp, Nat.div_eq_of_lt hc, Nat.zero_add]
    have e2 : (p * (np + 1) ^ m + c) % (np + 1) ^ m = c := by
      rw [Nat.add_comm, Nat.add_mul_mod_self_right, Nat.mod_eq_of_lt hc]
    show _ = lfT np lk (tpT np m (i + 1) (upN fr i (cvT np ((p * (np + 1) ^ m + c) / (np + 1) ^ m))) ((p * (np + 1) ^ m + c) % (np + 1) ^ m)) z
    rw [e1, e2]
theorem tpT_lo {np : Nat} : ∀ (m i : Nat) (fr : Nat → Nat) (c q : Nat), q < i → tpT np m i fr c q = fr q := by
  intro m
  induction m with
  | zero => intro i fr c q _; rfl
  | succ m ih =>
    intro i fr c q hq
    show tpT np m (i + 1) _ _ q = _
    rw [ih (i + 1) _ _ q (by omega), upN_n _ _ (by omega)]
theorem tpT_at {np : Nat} : ∀ (m i : Nat) (fr : Nat → Nat) (c j : Nat), j < m → c < (np + 1) ^ m → tpT np m i fr c (i + j) = cvT np (c / (np + 1) ^ (m - 1 - j) % (np + 1)) := by
  intro m
  induction m with
  | zero => intro i fr c j hj; omega
  | succ m ih =>
    intro i fr c j hj hc
    have hp : 0 < (np + 1) ^ m := Nat.pow_pos (by omega)
    show tpT np m (i + 1) (upN fr i (cvT np (c / (np + 1) ^ m))) (c % (np + 1) ^ m) (i + j) = _
    cases j with
    | zero =>
      show tpT np m (i + 1) (upN fr i (cvT np (c / (np + 1) ^ m))) (c % (np + 1) ^ m) i = cvT np (c / (np + 1) ^ (m + 1 - 1 - 0) % (np + 1))
      rw [tpT_lo _ _ _ _ _ (by omega), upN_s, show m + 1 - 1 - 0 = m by omega]
      congr 1
      rw [Nat.mod_eq_of_lt]
      rw [Nat.pow_succ, Nat.mul_comm] at hc
      exact (Nat.div_lt_iff_lt_mul hp).mpr hc
    | succ j =>
      have := ih (i + 1) (upN fr i (cvT np (c / (np + 1) ^ m))) (c % (np + 1) ^ m) j (by omega) (Nat.mod_lt _ hp)
      rw [show i + (j + 1) = i + 1 + j by omega, this, show m + 1 - 1 - (j + 1) = m - 1 - j by omega]
      congr 1
      have e : (np + 1) ^ m = (np + 1) ^ (m - 1 - j) * (np + 1) ^ (j + 1) := by
        rw [← Nat.pow_add]
        congr 1
        omega
      rw [e, Nat.mod_mul_right_div_self, Nat.mod_mod_of_dvd]
      exact ⟨(np + 1) ^ j, by rw [Nat.pow_succ, Nat.mul_comm]⟩
