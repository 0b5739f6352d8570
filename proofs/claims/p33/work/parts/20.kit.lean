/-! WHAT ALL PROOFS OF METHODS USE: the walk, constants, truth values, bits -/
/-- the walk, over any V that unfolds as vc does: so nobody unfolds it but by its rows -/
theorem run {d : Nat} {M : MR} {Q : XQ} (cuts : List Nat) (n : Nat) (hM : MOK M) {pc : Nat} {L : XL} {st : List Value} {h : XH} {z b : Nat} (k : ∀ V : Nat → XK, (∀ (n pc : Nat) (L : XL) (st : List Value) (h : XH) (z b : Nat), V (n + 1) pc L st h z b = if pc ∈ cuts then AR d M b pc L st h z Q else opAt M pc L st h z b Q (V n) (stdC d M Q)) → opAt M pc L st h z b Q (V n) (stdC d M Q)) : AR d M b pc L st h z Q := vcs cuts n hM (k (vc d M Q cuts) (fun n pc L st h z b => vc_s d M Q cuts n pc L st h z b))
theorem kb_m104 : (Int8.ofInt (-104)).toInt32 = ((-104) : Int32) := by decide
theorem kb_m103 : (Int8.ofInt (-103)).toInt32 = ((-103) : Int32) := by decide
theorem kb_m102 : (Int8.ofInt (-102)).toInt32 = ((-102) : Int32) := by decide
theorem kb_m101 : (Int8.ofInt (-101)).toInt32 = ((-101) : Int32) := by decide
theorem kb_6 : (Int8.ofInt 6).toInt32 = (6 : Int32) := by decide
theorem kb_7 : (Int8.ofInt 7).toInt32 = (7 : Int32) := by decide
theorem kb_8 : (Int8.ofInt 8).toInt32 = (8 : Int32) := by decide
theorem kb_9 : (Int8.ofInt 9).toInt32 = (9 : Int32) := by decide
theorem kb_10 : (Int8.ofInt 10).toInt32 = (10 : Int32) := by decide
theorem kb_12 : (Int8.ofInt 12).toInt32 = (12 : Int32) := by decide
theorem kb_16 : (Int8.ofInt 16).toInt32 = (16 : Int32) := by decide
theorem kb_19 : (Int8.ofInt 19).toInt32 = (19 : Int32) := by decide
theorem kb_20 : (Int8.ofInt 20).toInt32 = (20 : Int32) := by decide
theorem kb_31 : (Int8.ofInt 31).toInt32 = (31 : Int32) := by decide
theorem kb_32 : (Int8.ofInt 32).toInt32 = (32 : Int32) := by decide
theorem kb_40 : (Int8.ofInt 40).toInt32 = (40 : Int32) := by decide
theorem kb_42 : (Int8.ofInt 42).toInt32 = (42 : Int32) := by decide
theorem kb_44 : (Int8.ofInt 44).toInt32 = (44 : Int32) := by decide
theorem kb_47 : (Int8.ofInt 47).toInt32 = (47 : Int32) := by decide
theorem kb_48 : (Int8.ofInt 48).toInt32 = (48 : Int32) := by decide
theorem kb_49 : (Int8.ofInt 49).toInt32 = (49 : Int32) := by decide
theorem kb_57 : (Int8.ofInt 57).toInt32 = (57 : Int32) := by decide
theorem kb_63 : (Int8.ofInt 63).toInt32 = (63 : Int32) := by decide
theorem kb_96 : (Int8.ofInt 96).toInt32 = (96 : Int32) := by decide
theorem kb_99 : (Int8.ofInt 99).toInt32 = (99 : Int32) := by decide
theorem kb_100 : (Int8.ofInt 100).toInt32 = (100 : Int32) := by decide
theorem kb_103 : (Int8.ofInt 103).toInt32 = (103 : Int32) := by decide
theorem kb_111 : (Int8.ofInt 111).toInt32 = (111 : Int32) := by decide
theorem kb_112 : (Int8.ofInt 112).toInt32 = (112 : Int32) := by decide
theorem kb_114 : (Int8.ofInt 114).toInt32 = (114 : Int32) := by decide
theorem kb_116 : (Int8.ofInt 116).toInt32 = (116 : Int32) := by decide
theorem kb_119 : (Int8.ofInt 119).toInt32 = (119 : Int32) := by decide
theorem kb_126 : (Int8.ofInt 126).toInt32 = (126 : Int32) := by decide
theorem kb_127 : (Int8.ofInt 127).toInt32 = (127 : Int32) := by decide
theorem kc_m1 : Int32.ofInt (-1) = ((-1) : Int32) := by decide
theorem kc_0 : Int32.ofInt 0 = (0 : Int32) := by decide
theorem kc_1 : Int32.ofInt 1 = (1 : Int32) := by decide
theorem kc_2 : Int32.ofInt 2 = (2 : Int32) := by decide
theorem kc_3 : Int32.ofInt 3 = (3 : Int32) := by decide
theorem kc_4 : Int32.ofInt 4 = (4 : Int32) := by decide
theorem kc_5 : Int32.ofInt 5 = (5 : Int32) := by decide
theorem kc_6 : Int32.ofInt 6 = (6 : Int32) := by decide
theorem kc_7 : Int32.ofInt 7 = (7 : Int32) := by decide
theorem kc_8 : Int32.ofInt 8 = (8 : Int32) := by decide
theorem kc_9 : Int32.ofInt 9 = (9 : Int32) := by decide
theorem kc_10 : Int32.ofInt 10 = (10 : Int32) := by decide
theorem kc_11 : Int32.ofInt 11 = (11 : Int32) := by decide
theorem kc_12 : Int32.ofInt 12 = (12 : Int32) := by decide
theorem kc_13 : Int32.ofInt 13 = (13 : Int32) := by decide
theorem kc_14 : Int32.ofInt 14 = (14 : Int32) := by decide
theorem kc_15 : Int32.ofInt 15 = (15 : Int32) := by decide
theorem kc_16 : Int32.ofInt 16 = (16 : Int32) := by decide
theorem kc_17 : Int32.ofInt 17 = (17 : Int32) := by decide
theorem kc_18 : Int32.ofInt 18 = (18 : Int32) := by decide
theorem kc_19 : Int32.ofInt 19 = (19 : Int32) := by decide
theorem kc_20 : Int32.ofInt 20 = (20 : Int32) := by decide
theorem kc_21 : Int32.ofInt 21 = (21 : Int32) := by decide
theorem kc_22 : Int32.ofInt 22 = (22 : Int32) := by decide
theorem kc_23 : Int32.ofInt 23 = (23 : Int32) := by decide
theorem kc_24 : Int32.ofInt 24 = (24 : Int32) := by decide
theorem kc_25 : Int32.ofInt 25 = (25 : Int32) := by decide
theorem kc_26 : Int32.ofInt 26 = (26 : Int32) := by decide
theorem kc_27 : Int32.ofInt 27 = (27 : Int32) := by decide
theorem kc_28 : Int32.ofInt 28 = (28 : Int32) := by decide
theorem kc_29 : Int32.ofInt 29 = (29 : Int32) := by decide
theorem kc_103 : Int32.ofInt 103 = (103 : Int32) := by decide
theorem kc_114 : Int32.ofInt 114 = (114 : Int32) := by decide
theorem kc_116 : Int32.ofInt 116 = (116 : Int32) := by decide
theorem kc_119 : Int32.ofInt 119 = (119 : Int32) := by decide
theorem kl_0 : Int64.ofNat ((0 : Fin 2) : Nat) = (0 : Int64) := by decide
theorem kl_1 : Int64.ofNat ((1 : Fin 2) : Nat) = (1 : Int64) := by decide
theorem ks_200 : (Int16.ofInt 200).toInt32 = (200 : Int32) := by decide
theorem ks_255 : (Int16.ofInt 255).toInt32 = (255 : Int32) := by decide
theorem ks_288 : (Int16.ofInt 288).toInt32 = (288 : Int32) := by decide
noncomputable def bI (p : Prop) : Int32 := @ite _ p (Classical.propDecidable p) 1 0
theorem bI_t {p : Prop} (h : p) : bI p = 1 := if_pos h
theorem bI_f {p : Prop} (h : ¬ p) : bI p = 0 := if_neg h
theorem bI_0 (p : Prop) : (bI p = 0) = ¬ p := by
  by_cases h : p
  · simp [bI, h]
  · simp [bI, h]
theorem bI_c {p q : Prop} (h : p ↔ q) : bI p = bI q := by rw [propext h]
theorem nr_b (p : Prop) : narrow .boolean (.int (bI p)) = .int (bI p) := by
  by_cases h : p
  · rw [bI_t h]; rfl
  · rw [bI_f h]; rfl
theorem nr_b0 : narrow .boolean (.int 0) = .int 0 := rfl
theorem nr_b1 : narrow .boolean (.int 1) = .int 1 := rfl
theorem nr_i (x : Int32) : narrow .int (.int x) = .int x := rfl
theorem nr_l (x : Int64) : narrow .long (.long x) = .long x := rfl
theorem nr_a (t : FieldType) (a : Nat) : narrow (.array t) (.ref a) = .ref a := rfl
theorem nr_o (C : String) (a : Nat) : narrow (.object C) (.ref a) = .ref a := rfl
theorem ft_i (x : Int32) : fits .int (.int x) = true := rfl
theorem ft_b1 : fits .boolean (.int 1) = true := rfl
theorem ft_l (x : Int64) : fits .long (.long x) = true := rfl
theorem ft_a (t : FieldType) (a : Nat) : fits (.array t) (.ref a) = true := rfl
theorem ft_o (C : String) (a : Nat) : fits (.object C) (.ref a) = true := rfl
/-! bits of a long -/
def tb (w : Int64) (i : Nat) : Bool := w.toBitVec.getLsbD i
theorem tb_ext {x y : Int64} (h : ∀ i, i < 64 → tb x i = tb y i) : x = y := by
  apply Int64.toBitVec_inj.mp
  apply BitVec.eq_of_getLsbD_eq
  intro i hi
  exact h i hi
theorem tb_0 (i : Nat) : tb 0 i = false := by
  show (0#64).getLsbD i = false
  simp
theorem tb_or (x y : Int64) (i : Nat) : tb (x ||| y) i = (tb x i || tb y i) := by
  unfold tb
  rw [Int64.toBitVec_or, BitVec.getLsbD_or]
theorem tb_and (x y : Int64) (i : Nat) : tb (x &&& y) i = (tb x i && tb y i) := by
  unfold tb
  rw [Int64.toBitVec_and, BitVec.getLsbD_and]
theorem tb_big (x : Int64) {i : Nat} (h : 64 ≤ i) : tb x i = false := BitVec.getLsbD_of_ge _ _ h
theorem tb_not (x : Int64) {i : Nat} (h : i < 64) : tb (x ^^^ (-1)) i = !tb x i := by
  unfold tb
  rw [Int64.toBitVec_xor, BitVec.getLsbD_xor]
  have : (-1 : Int64).toBitVec = BitVec.allOnes 64 := by decide
  rw [this, BitVec.getLsbD_allOnes]
  simp [h]
theorem sh_c : ∀ k, k < 64 → ((nI k).toInt64 &&& 63).toBitVec.smod 64 = BitVec.ofNat 64 k := by decide +kernel
theorem tb_one {k : Nat} (hk : k < 64) (i : Nat) : tb ((1 : Int64) <<< ((nI k).toInt64 &&& 63)) i = decide (i = k) := by
  unfold tb
  rw [Int64.toBitVec_shiftLeft, sh_c k hk]
  show ((1#64) <<< (BitVec.ofNat 64 k).toNat).getLsbD i = _
  rw [BitVec.toNat_ofNat, Nat.mod_eq_of_lt (by omega), BitVec.getLsbD_shiftLeft]
  by_cases h : i = k
  · subst h
    simp [hk]
  · by_cases h2 : i < k
    · simp [h2, h]
    · have : (1#64).getLsbD (i - k) = false := by
        simp [BitVec.getLsbD_one]
        omega
      rw [this]
      simp [h]
theorem sh_u : ∀ k, k < 64 → ((nI k).toInt64.toUInt64 &&& Int64.toUInt64 63).toNat = k := by decide +kernel
theorem tb_shr {x : Int64} {k : Nat} (hk : k < 64) (i : Nat) : tb ((x.toUInt64 >>> ((nI k).toInt64.toUInt64 &&& Int64.toUInt64 63)).toInt64) i = tb x (i + k) := by
  have e : (x.toUInt64 >>> ((nI k).toInt64.toUInt64 &&& Int64.toUInt64 63)).toInt64.toBitVec = x.toBitVec >>> k := by
    apply BitVec.eq_of_toNat_eq
    show (x.toUInt64 >>> _).toNat = _
    rw [UInt64.toNat_shiftRight, sh_u k hk, Nat.mod_eq_of_lt hk, BitVec.toNat_ushiftRight]
    rfl
  unfold tb
  rw [e, BitVec.getLsbD_ushiftRight, Nat.add_comm]
theorem tb_1 (i : Nat) : tb 1 i = decide (i = 0) := by
  show (1#64).getLsbD i = _
  rw [BitVec.getLsbD_one]
  simp
theorem tb_a1 (x : Int64) : ((x &&& 1) = 0) = (tb x 0 = false) := by
  apply propext
  constructor
  · intro h
    have := congrArg (fun y => tb y 0) h
    simpa [tb_and, tb_1, tb_0] using this
  · intro h
    apply tb_ext
    intro i _
    rw [tb_and, tb_1, tb_0]
    by_cases c : i = 0
    · subst c; simp [h]
    · simp [c]
/-- the bits of w are the numbers that P takes -/
def LB (w : Int64) (P : Nat → Bool) : Prop := ∀ i, i < 64 → tb w i = P i
theorem LB_c {w : Int64} {P P' : Nat → Bool} (h : LB w P) (e : ∀ i, i < 64 → P i = P' i) : LB w P' := fun i hi => (h i hi).trans (e i hi)
theorem LB_eq {w w' : Int64} {P : Nat → Bool} (h : LB w P) (h' : LB w' P) : w = w' := tb_ext fun i hi => (h i hi).trans (h' i hi).symm
theorem LB_0 : LB 0 (fun _ => false) := fun i _ => tb_0 i
theorem LB_or {w : Int64} {P : Nat → Bool} (h : LB w P) {k : Nat} (hk : k < 64) : LB (w ||| ((1 : Int64) <<< ((nI k).toInt64 &&& 63))) (fun i => P i || decide (i = k)) := fun i hi => by rw [tb_or, h i hi, tb_one hk]
/-! comparing longs -/
theorem lg0 (x y : Int64) : (lg_cmp x y = 0) = (x = y) := by
  unfold lg_cmp
  by_cases h : x > y
  · have : x ≠ y := by
      intro e
      subst e
      exact absurd (Int64.lt_iff_toInt_lt.mp h) (by omega)
    simp [h, this]
  · by_cases h2 : x = y
    · simp [h2]
    · simp [h, h2]
theorem lgp (x y : Int64) : (0 < lg_cmp x y) = (y < x) := by
  unfold lg_cmp
  by_cases h : x > y
  · simp [h]
  · by_cases h2 : x = y
    · simp [h2]
    · simp [h, h2]
theorem lgn (x y : Int64) : (lg_cmp x y < 0) = (x < y) := by
  unfold lg_cmp
  by_cases h : x > y
  · have h' : y < x := h
    have : ¬ x < y := by
      rw [Int64.lt_iff_toInt_lt] at h' ⊢
      omega
    simp [h, this]
  · by_cases h2 : x = y
    · subst h2; simp
    · have h' : ¬ y < x := h
      have : x < y := by
        rw [Int64.lt_iff_toInt_lt] at h' ⊢
        have : x.toInt ≠ y.toInt := fun q => h2 (Int64.toInt_inj.mp q)
        omega
      simp [h, h2, this]
theorem zlt_s (n : Nat) : (0 < n + 1) = True := by simp
