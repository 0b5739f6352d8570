/-! CHANCES -/
theorem lN_t {n : Nat} (h : n < 2 ^ 63) : (lN n).toInt = (n : Int) := Int64.toInt_ofNat_of_lt h
theorem lN_inj {a b : Nat} (ha : a < 2 ^ 63) (hb : b < 2 ^ 63) : (lN a = lN b) = (a = b) := by
  apply propext
  constructor
  · intro e
    have := congrArg Int64.toInt e
    rw [lN_t ha, lN_t hb] at this
    omega
  · intro e
    rw [e]
theorem lN_ltx {a b : Nat} (ha : a < 2 ^ 63) (hb : b < 2 ^ 63) : (lN a < lN b) = (a < b) := by
  apply propext
  rw [Int64.lt_iff_toInt_lt, lN_t ha, lN_t hb]
  omega
theorem lN_lex {a b : Nat} (ha : a < 2 ^ 63) (hb : b < 2 ^ 63) : (lN a ≤ lN b) = (a ≤ b) := by
  apply propext
  rw [Int64.le_iff_toInt_le, lN_t ha, lN_t hb]
  omega
theorem lN_div {a b : Nat} (ha : a < 2 ^ 63) (hb : b < 2 ^ 63) : lN a / lN b = lN (a / b) := by
  apply Int64.toInt_inj.mp
  have h1 : (lN a / lN b).toInt = (lN a).toInt.tdiv (lN b).toInt := by
    apply Int64.toInt_div_of_ne_left
    intro e
    have := congrArg Int64.toInt e
    rw [lN_t ha] at this
    have : Int64.minValue.toInt < 0 := by decide
    omega
  rw [h1, lN_t ha, lN_t hb, lN_t (Nat.lt_of_le_of_lt (Nat.div_le_self _ _) ha), ← Int.ofNat_tdiv]
theorem lN_rem {a b : Nat} (ha : a < 2 ^ 63) (hb : b < 2 ^ 63) : lN a - lN a / lN b * lN b = lN (a % b) := by
  have h1 : a / b * b ≤ a := Nat.div_mul_le_self a b
  rw [lN_div ha hb, lN_mul, lN_sub h1]
  congr 1
  rw [Nat.mul_comm, ← Nat.mod_eq_sub]
theorem lgle (x y : Int64) : (lg_cmp x y ≤ 0) = (x ≤ y) := by
  have h1 := lgp x y
  apply propext
  rw [← Int32.not_lt, h1, Int64.not_lt]
def euc : Nat → Nat → Nat → Nat
  | 0, a, _ => a
  | k + 1, a, b => if b = 0 then a else euc k b (a % b)
def fbp : Nat → Nat × Nat
  | 0 => (1, 1)
  | k + 1 => ((fbp k).2, (fbp k).1 + (fbp k).2)
theorem gcd_st (a b : Nat) : Nat.gcd a b = Nat.gcd b (a % b) := by
  rw [Nat.gcd_comm a b, Nat.gcd_rec b a, Nat.gcd_comm]
theorem euc_g : ∀ (k a b : Nat), b < a → b < (fbp k).1 ∨ a < (fbp k).2 → euc k a b = Nat.gcd a b := by
  intro k
  induction k with
  | zero =>
    intro a b h1 h2
    have h2' : b < 1 ∨ a < 1 := h2
    have e : b = 0 := by omega
    subst e
    rw [Nat.gcd_zero_right]
    rfl
  | succ k ih =>
    intro a b h1 h2
    have h2' : b < (fbp k).2 ∨ a < (fbp k).1 + (fbp k).2 := h2
    unfold euc
    split
    · rename_i e
      rw [e, Nat.gcd_zero_right]
    · rename_i e
      have hm := Nat.mod_lt a (show b > 0 by omega)
      rw [gcd_st]
      refine ih b (a % b) hm ?_
      by_cases c : b < (fbp k).2
      · exact .inr c
      · left
        have h3 : b + a % b ≤ a := by
          have := Nat.div_add_mod a b
          have h4 : 1 ≤ a / b := (Nat.le_div_iff_mul_le (by omega)).mpr (by omega)
          have h5 : b * 1 ≤ b * (a / b) := Nat.mul_le_mul_left b h4
          omega
        omega
theorem euc_100 {a b : Nat} (hb : b < 2 ^ 63) : euc 100 a b = Nat.gcd a b := by
  show (if b = 0 then a else euc 99 b (a % b)) = _
  split
  · rename_i e
    rw [e, Nat.gcd_zero_right]
  · rename_i e
    have hm := Nat.mod_lt a (show b > 0 by omega)
    rw [gcd_st]
    refine euc_g 99 b (a % b) hm (.inl ?_)
    have : 2 ^ 63 ≤ (fbp 99).1 := by decide +kernel
    omega
set_option maxRecDepth 20000 in
theorem l_Fi_common (d : Nat) (x y : Int64) (h : XH) (z : Nat) (Q : XQ) : ∀ (r k a b : Nat), k + r = 100 → a < 2 ^ 63 → b < 2 ^ 63 → Q (some (.long (lN (euc r a b)))) h z → AR d m_Fi_commonDivisor 0 9 [some (.long x), none, some (.long y), none, some (.long (lN a)), none, some (.long (lN b)), none, some (.int (nI k)), none, none] [] h z Q := by
  intro r
  induction r with
  | zero =>
    intro k a b hk ha hb hQ
    have e : k = 100 := by omega
    subst e
    refine run [9] 40 ok_m_Fi_commonDivisor (fun V hV => ?_)
    simp only [hV, sPush, sIld, sLld, sAld, sIst, sLst, sAst, sInc, sBI, sBL, sDI, sDL, sSL, sUI, sIL, sLI, sCmp, sDup, sDup2, sGo, sIf, sCm, sNul, sGet, sPut, sIal, sCal, sLal, sAal, sIas, sCas, sLas, sAas, sLen, sNew, sNar, sMna, sIns, sSw, swK, sIret, sLret, sAret, sVret, sSta, sSpe, sVir, sObj, sMax, sMin, sAcp, popN, catS, stdC, callA, gL, stI, stL, clr, cat1, cH, if_true, if_false, reduceIte, List.mem_cons, List.not_mem_nil, or_false, false_or, or_self, List.lookup_cons, List.lookup_nil, Option.toList_some, Option.toList_none, List.cons_append, List.nil_append, List.reverse_cons, List.reverse_nil, true_and, and_true, true_or, or_true, hset_s, hset_hset, List.getElem?_cons_zero, List.getElem?_cons_succ, List.set_cons_zero, List.set_cons_succ, List.length_cons, List.length_nil, beq_self_eq_true, Nat.reduceBEq, va_rf,  not_true_eq_false, not_false_eq_true, false_implies, true_implies, forall_const, ne_eq, eq_self, Nat.reduceAdd, Nat.reduceSub, Nat.reduceLeDiff, Nat.reduceLT, zlt_s, Nat.reduceEqDiff, Nat.zero_le, Nat.sub_zero, Nat.le_refl, imp_self, bI_0, nr_b, nr_b0, nr_b1, nr_i, nr_l, nr_a, nr_o, ft_i, ft_b1, ft_l, ft_a, ft_o, Classical.not_not, kb_m104, kb_m103, kb_m102, kb_m101, kb_6, kb_7, kb_8, kb_9, kb_10, kb_12, kb_16, kb_19, kb_20, kb_31, kb_32, kb_40, kb_42, kb_44, kb_47, kb_48, kb_49, kb_57, kb_63, kb_96, kb_99, kb_100, kb_103, kb_111, kb_112, kb_114, kb_116, kb_119, kb_126, kb_127, kc_m1, kc_0, kc_1, kc_2, kc_3, kc_4, kc_5, kc_6, kc_7, kc_8, kc_9, kc_10, kc_11, kc_12, kc_13, kc_14, kc_15, kc_16, kc_17, kc_18, kc_19, kc_20, kc_21, kc_22, kc_23, kc_24, kc_25, kc_26, kc_27, kc_28, kc_29, kc_103, kc_114, kc_116, kc_119, kl_0, kl_1, ks_200, ks_255, ks_288, i_Fi_commonDivisor_0, i_Fi_commonDivisor_1, i_Fi_commonDivisor_3, i_Fi_commonDivisor_4, i_Fi_commonDivisor_6, i_Fi_commonDivisor_7, i_Fi_commonDivisor_9, i_Fi_commonDivisor_11, i_Fi_commonDivisor_13, i_Fi_commonDivisor_16, i_Fi_commonDivisor_18, i_Fi_commonDivisor_19, i_Fi_commonDivisor_20, i_Fi_commonDivisor_23, i_Fi_commonDivisor_25, i_Fi_commonDivisor_27, i_Fi_commonDivisor_28, i_Fi_commonDivisor_30, i_Fi_commonDivisor_32, i_Fi_commonDivisor_34, i_Fi_commonDivisor_36, i_Fi_commonDivisor_38, i_Fi_commonDivisor_41, i_Fi_commonDivisor_44, i_Fi_commonDivisor_46, show ((100 : Int32) ≤ nI 100) = True from by decide]
    exact hQ
  | succ r ih =>
    intro k a b hk ha hb hQ
    have g1' : ¬ (100 : Int32) ≤ nI k := by
      have := nI_leI (a := 100) (b := k) (by omega) (by omega)
      intro h
      have := this.mp h
      omega
    have l0 : (lN b = 0) = (b = 0) := lN_inj (b := 0) hb (by omega)
    by_cases c : b = 0
    · have ct : (lN b = 0) = True := eq_true (by rw [l0]; exact c)
      refine run [9] 40 ok_m_Fi_commonDivisor (fun V hV => ?_)
      simp only [hV, sPush, sIld, sLld, sAld, sIst, sLst, sAst, sInc, sBI, sBL, sDI, sDL, sSL, sUI, sIL, sLI, sCmp, sDup, sDup2, sGo, sIf, sCm, sNul, sGet, sPut, sIal, sCal, sLal, sAal, sIas, sCas, sLas, sAas, sLen, sNew, sNar, sMna, sIns, sSw, swK, sIret, sLret, sAret, sVret, sSta, sSpe, sVir, sObj, sMax, sMin, sAcp, popN, catS, stdC, callA, gL, stI, stL, clr, cat1, cH, if_true, if_false, reduceIte, List.mem_cons, List.not_mem_nil, or_false, false_or, or_self, List.lookup_cons, List.lookup_nil, Option.toList_some, Option.toList_none, List.cons_append, List.nil_append, List.reverse_cons, List.reverse_nil, true_and, and_true, true_or, or_true, hset_s, hset_hset, List.getElem?_cons_zero, List.getElem?_cons_succ, List.set_cons_zero, List.set_cons_succ, List.length_cons, List.length_nil, beq_self_eq_true, Nat.reduceBEq, va_rf,  not_true_eq_false, not_false_eq_true, false_implies, true_implies, forall_const, ne_eq, eq_self, Nat.reduceAdd, Nat.reduceSub, Nat.reduceLeDiff, Nat.reduceLT, zlt_s, Nat.reduceEqDiff, Nat.zero_le, Nat.sub_zero, Nat.le_refl, imp_self, bI_0, nr_b, nr_b0, nr_b1, nr_i, nr_l, nr_a, nr_o, ft_i, ft_b1, ft_l, ft_a, ft_o, Classical.not_not, kb_m104, kb_m103, kb_m102, kb_m101, kb_6, kb_7, kb_8, kb_9, kb_10, kb_12, kb_16, kb_19, kb_20, kb_31, kb_32, kb_40, kb_42, kb_44, kb_47, kb_48, kb_49, kb_57, kb_63, kb_96, kb_99, kb_100, kb_103, kb_111, kb_112, kb_114, kb_116, kb_119, kb_126, kb_127, kc_m1, kc_0, kc_1, kc_2, kc_3, kc_4, kc_5, kc_6, kc_7, kc_8, kc_9, kc_10, kc_11, kc_12, kc_13, kc_14, kc_15, kc_16, kc_17, kc_18, kc_19, kc_20, kc_21, kc_22, kc_23, kc_24, kc_25, kc_26, kc_27, kc_28, kc_29, kc_103, kc_114, kc_116, kc_119, kl_0, kl_1, ks_200, ks_255, ks_288, i_Fi_commonDivisor_0, i_Fi_commonDivisor_1, i_Fi_commonDivisor_3, i_Fi_commonDivisor_4, i_Fi_commonDivisor_6, i_Fi_commonDivisor_7, i_Fi_commonDivisor_9, i_Fi_commonDivisor_11, i_Fi_commonDivisor_13, i_Fi_commonDivisor_16, i_Fi_commonDivisor_18, i_Fi_commonDivisor_19, i_Fi_commonDivisor_20, i_Fi_commonDivisor_23, i_Fi_commonDivisor_25, i_Fi_commonDivisor_27, i_Fi_commonDivisor_28, i_Fi_commonDivisor_30, i_Fi_commonDivisor_32, i_Fi_commonDivisor_34, i_Fi_commonDivisor_36, i_Fi_commonDivisor_38, i_Fi_commonDivisor_41, i_Fi_commonDivisor_44, i_Fi_commonDivisor_46, g1', lg0, ct]
      rwa [show euc (r + 1) a b = a from if_pos c] at hQ
    · have hm := Nat.mod_lt a (show b > 0 by omega)
      rw [show euc (r + 1) a b = euc r b (a % b) from if_neg c] at hQ
      refine run [9] 40 ok_m_Fi_commonDivisor (fun V hV => ?_)
      simp only [hV, sPush, sIld, sLld, sAld, sIst, sLst, sAst, sInc, sBI, sBL, sDI, sDL, sSL, sUI, sIL, sLI, sCmp, sDup, sDup2, sGo, sIf, sCm, sNul, sGet, sPut, sIal, sCal, sLal, sAal, sIas, sCas, sLas, sAas, sLen, sNew, sNar, sMna, sIns, sSw, swK, sIret, sLret, sAret, sVret, sSta, sSpe, sVir, sObj, sMax, sMin, sAcp, popN, catS, stdC, callA, gL, stI, stL, clr, cat1, cH, if_true, if_false, reduceIte, List.mem_cons, List.not_mem_nil, or_false, false_or, or_self, List.lookup_cons, List.lookup_nil, Option.toList_some, Option.toList_none, List.cons_append, List.nil_append, List.reverse_cons, List.reverse_nil, true_and, and_true, true_or, or_true, hset_s, hset_hset, List.getElem?_cons_zero, List.getElem?_cons_succ, List.set_cons_zero, List.set_cons_succ, List.length_cons, List.length_nil, beq_self_eq_true, Nat.reduceBEq, va_rf,  not_true_eq_false, not_false_eq_true, false_implies, true_implies, forall_const, ne_eq, eq_self, Nat.reduceAdd, Nat.reduceSub, Nat.reduceLeDiff, Nat.reduceLT, zlt_s, Nat.reduceEqDiff, Nat.zero_le, Nat.sub_zero, Nat.le_refl, imp_self, bI_0, nr_b, nr_b0, nr_b1, nr_i, nr_l, nr_a, nr_o, ft_i, ft_b1, ft_l, ft_a, ft_o, Classical.not_not, kb_m104, kb_m103, kb_m102, kb_m101, kb_6, kb_7, kb_8, kb_9, kb_10, kb_12, kb_16, kb_19, kb_20, kb_31, kb_32, kb_40, kb_42, kb_44, kb_47, kb_48, kb_49, kb_57, kb_63, kb_96, kb_99, kb_100, kb_103, kb_111, kb_112, kb_114, kb_116, kb_119, kb_126, kb_127, kc_m1, kc_0, kc_1, kc_2, kc_3, kc_4, kc_5, kc_6, kc_7, kc_8, kc_9, kc_10, kc_11, kc_12, kc_13, kc_14, kc_15, kc_16, kc_17, kc_18, kc_19, kc_20, kc_21, kc_22, kc_23, kc_24, kc_25, kc_26, kc_27, kc_28, kc_29, kc_103, kc_114, kc_116, kc_119, kl_0, kl_1, ks_200, ks_255, ks_288, i_Fi_commonDivisor_0, i_Fi_commonDivisor_1, i_Fi_commonDivisor_3, i_Fi_commonDivisor_4, i_Fi_commonDivisor_6, i_Fi_commonDivisor_7, i_Fi_commonDivisor_9, i_Fi_commonDivisor_11, i_Fi_commonDivisor_13, i_Fi_commonDivisor_16, i_Fi_commonDivisor_18, i_Fi_commonDivisor_19, i_Fi_commonDivisor_20, i_Fi_commonDivisor_23, i_Fi_commonDivisor_25, i_Fi_commonDivisor_27, i_Fi_commonDivisor_28, i_Fi_commonDivisor_30, i_Fi_commonDivisor_32, i_Fi_commonDivisor_34, i_Fi_commonDivisor_36, i_Fi_commonDivisor_38, i_Fi_commonDivisor_41, i_Fi_commonDivisor_44, i_Fi_commonDivisor_46, g1', lg0, l0, c, lN_rem (a := a) (b := b) ha hb, nI_1]
      exact (ih (k + 1) b (a % b) (by omega) hb (by omega) hQ).weak _ ⟨rfl, by simp [leL]⟩
set_option maxRecDepth 20000 in
theorem s_Fi_common (d a b : Nat) (ha : a < 2 ^ 63) (hb : b < 2 ^ 63) (h : XH) (z : Nat) (Q : XQ) (hQ : Q (some (.long (lN (Nat.gcd a b)))) h z) : CALL d m_Fi_commonDivisor [.long (lN a), .long (lN b)] h z Q := by
  refine ⟨Nat.le_of_ble_eq_true rfl, ?_⟩
  show AR d m_Fi_commonDivisor 0 0 [some (.long (lN a)), none, some (.long (lN b)), none, none, none, none, none, none, none, none] [] h z Q
  refine run [9] 40 ok_m_Fi_commonDivisor (fun V hV => ?_)
  simp only [hV, sPush, sIld, sLld, sAld, sIst, sLst, sAst, sInc, sBI, sBL, sDI, sDL, sSL, sUI, sIL, sLI, sCmp, sDup, sDup2, sGo, sIf, sCm, sNul, sGet, sPut, sIal, sCal, sLal, sAal, sIas, sCas, sLas, sAas, sLen, sNew, sNar, sMna, sIns, sSw, swK, sIret, sLret, sAret, sVret, sSta, sSpe, sVir, sObj, sMax, sMin, sAcp, popN, catS, stdC, callA, gL, stI, stL, clr, cat1, cH, if_true, if_false, reduceIte, List.mem_cons, List.not_mem_nil, or_false, false_or, or_self, List.lookup_cons, List.lookup_nil, Option.toList_some, Option.toList_none, List.cons_append, List.nil_append, List.reverse_cons, List.reverse_nil, true_and, and_true, true_or, or_true, hset_s, hset_hset, List.getElem?_cons_zero, List.getElem?_cons_succ, List.set_cons_zero, List.set_cons_succ, List.length_cons, List.length_nil, beq_self_eq_true, Nat.reduceBEq, va_rf,  not_true_eq_false, not_false_eq_true, false_implies, true_implies, forall_const, ne_eq, eq_self, Nat.reduceAdd, Nat.reduceSub, Nat.reduceLeDiff, Nat.reduceLT, zlt_s, Nat.reduceEqDiff, Nat.zero_le, Nat.sub_zero, Nat.le_refl, imp_self, bI_0, nr_b, nr_b0, nr_b1, nr_i, nr_l, nr_a, nr_o, ft_i, ft_b1, ft_l, ft_a, ft_o, Classical.not_not, kb_m104, kb_m103, kb_m102, kb_m101, kb_6, kb_7, kb_8, kb_9, kb_10, kb_12, kb_16, kb_19, kb_20, kb_31, kb_32, kb_40, kb_42, kb_44, kb_47, kb_48, kb_49, kb_57, kb_63, kb_96, kb_99, kb_100, kb_103, kb_111, kb_112, kb_114, kb_116, kb_119, kb_126, kb_127, kc_m1, kc_0, kc_1, kc_2, kc_3, kc_4, kc_5, kc_6, kc_7, kc_8, kc_9, kc_10, kc_11, kc_12, kc_13, kc_14, kc_15, kc_16, kc_17, kc_18, kc_19, kc_20, kc_21, kc_22, kc_23, kc_24, kc_25, kc_26, kc_27, kc_28, kc_29, kc_103, kc_114, kc_116, kc_119, kl_0, kl_1, ks_200, ks_255, ks_288, i_Fi_commonDivisor_0, i_Fi_commonDivisor_1, i_Fi_commonDivisor_3, i_Fi_commonDivisor_4, i_Fi_commonDivisor_6, i_Fi_commonDivisor_7, i_Fi_commonDivisor_9, i_Fi_commonDivisor_11, i_Fi_commonDivisor_13, i_Fi_commonDivisor_16, i_Fi_commonDivisor_18, i_Fi_commonDivisor_19, i_Fi_commonDivisor_20, i_Fi_commonDivisor_23, i_Fi_commonDivisor_25, i_Fi_commonDivisor_27, i_Fi_commonDivisor_28, i_Fi_commonDivisor_30, i_Fi_commonDivisor_32, i_Fi_commonDivisor_34, i_Fi_commonDivisor_36, i_Fi_commonDivisor_38, i_Fi_commonDivisor_41, i_Fi_commonDivisor_44, i_Fi_commonDivisor_46]
  rw [← euc_100 hb] at hQ
  exact l_Fi_common d (lN a) (lN b) h z Q 100 0 a b (by omega) ha hb hQ
/-- how many ways to take k of n -/
def bn : Nat → Nat → Nat
  | _, 0 => 1
  | 0, _ + 1 => 0
  | n + 1, k + 1 => bn n k + bn n (k + 1)
theorem bn_0 (n : Nat) : bn n 0 = 1 := by cases n <;> rfl
theorem bn_le : ∀ n k, bn n k ≤ 2 ^ n := by
  have key : ∀ n k, bn n k + bn n (k + 1) ≤ 2 ^ (n + 1) ∧ bn n k ≤ 2 ^ n := by
    intro n
    induction n with
    | zero =>
      intro k
      cases k with
      | zero => exact ⟨by decide, by decide⟩
      | succ k => exact ⟨by simp [bn], by simp [bn]⟩
    | succ n ih =>
      have one : ∀ k, bn (n + 1) k ≤ 2 ^ (n + 1) := fun k => by
        cases k with
        | zero => rw [bn_0]; exact Nat.one_le_two_pow
        | succ k => exact (ih k).1
      intro k
      have h1 := one k
      have h2 := one (k + 1)
      exact ⟨by rw [Nat.pow_succ 2 (n + 1)]; omega, h1⟩
  exact fun n k => (key n k).2
theorem bn_big : ∀ n k, n < k → bn n k = 0 := by
  intro n
  induction n with
  | zero => intro k h; cases k with
    | zero => omega
    | succ k => rfl
  | succ n ih => intro k h; cases k with
    | zero => omega
    | succ k =>
      show bn n k + bn n (k + 1) = 0
      rw [ih k (by omega), ih (k + 1) (by omega)]
theorem bn_s : ∀ n k, bn n (k + 1) * (k + 1) = bn n k * (n - k) := by
  intro n
  induction n with
  | zero => intro k; simp [bn]
  | succ n ih =>
    intro k
    cases k with
    | zero =>
      show (bn n 0 + bn n 1) * 1 = bn (n + 1) 0 * (n + 1)
      have this : bn n 1 * 1 = bn n 0 * n := ih 0
      rw [bn_0] at this ⊢
      rw [bn_0]
      omega
    | succ k =>
      show (bn n (k + 1) + bn n (k + 1 + 1)) * (k + 1 + 1) = (bn n k + bn n (k + 1)) * (n + 1 - (k + 1))
      have h1 := ih k
      have h2 := ih (k + 1)
      by_cases c : k + 1 ≤ n
      · obtain ⟨e, rfl⟩ : ∃ e, n = k + 1 + e := ⟨n - (k + 1), by omega⟩
        rw [show k + 1 + e - k = e + 1 by omega] at h1
        rw [show k + 1 + e - (k + 1) = e by omega] at h2
        rw [show k + 1 + e + 1 - (k + 1) = e + 1 by omega, Nat.add_mul, Nat.add_mul, h2, ← h1]
        rw [← Nat.mul_add, ← Nat.mul_add]
        congr 1
        omega
      · rw [bn_big n (k + 1) (by omega), bn_big n (k + 1 + 1) (by omega), show n + 1 - (k + 1) = 0 by omega]
        simp
def chN (n d : Nat) : Nat → Nat × Nat
  | 0 => (1, 1)
  | i + 1 => ((chN n d i).1 * (d - i) / Nat.gcd ((chN n d i).1 * (d - i)) ((chN n d i).2 * (n - i)), (chN n d i).2 * (n - i) / Nat.gcd ((chN n d i).1 * (d - i)) ((chN n d i).2 * (n - i)))
theorem chN_ok (n d : Nat) (hd : d ≤ n) : ∀ i, i ≤ d → 1 ≤ (chN n d i).1 ∧ (chN n d i).1 ≤ (chN n d i).2 ∧ Nat.gcd (chN n d i).1 (chN n d i).2 = 1 ∧ (chN n d i).1 * bn n i = (chN n d i).2 * bn d i := by
  intro i
  induction i with
  | zero => intro _; exact ⟨Nat.le_refl 1, Nat.le_refl 1, show Nat.gcd 1 1 = 1 from by decide, by rw [bn_0, bn_0]; rfl⟩
  | succ i ih =>
    intro hi
    obtain ⟨h1, h2, h3, h4⟩ := ih (by omega)
    generalize hu : (chN n d i).1 = u at *
    generalize hv : (chN n d i).2 = v at *
    have e1 : (chN n d (i + 1)).1 = u * (d - i) / Nat.gcd (u * (d - i)) (v * (n - i)) := by rw [← hu, ← hv]; rfl
    have e2 : (chN n d (i + 1)).2 = v * (n - i) / Nat.gcd (u * (d - i)) (v * (n - i)) := by rw [← hu, ← hv]; rfl
    have hx : 1 ≤ u * (d - i) := Nat.mul_pos h1 (by omega)
    have hxy : u * (d - i) ≤ v * (n - i) := Nat.mul_le_mul h2 (by omega)
    have hyb : u * (d - i) * bn n (i + 1) = v * (n - i) * bn d (i + 1) := by
      apply Nat.eq_of_mul_eq_mul_right (show 0 < i + 1 by omega)
      rw [Nat.mul_assoc, bn_s, Nat.mul_assoc (v * (n - i)), bn_s]
      calc u * (d - i) * (bn n i * (n - i)) = (u * bn n i) * ((d - i) * (n - i)) := by
            rw [Nat.mul_assoc, Nat.mul_assoc]
            congr 1
            rw [← Nat.mul_assoc, Nat.mul_comm (d - i) (bn n i), Nat.mul_assoc]
        _ = (v * bn d i) * ((d - i) * (n - i)) := by rw [h4]
        _ = v * (n - i) * (bn d i * (d - i)) := by
            rw [Nat.mul_assoc, Nat.mul_assoc]
            congr 1
            rw [← Nat.mul_assoc, Nat.mul_comm (n - i)]
    generalize hX : u * (d - i) = X at *
    generalize hY : v * (n - i) = Y at *
    have hg : 0 < Nat.gcd X Y := Nat.gcd_pos_of_pos_left _ (by omega)
    obtain ⟨p, hp⟩ := Nat.gcd_dvd_left X Y
    obtain ⟨q, hq⟩ := Nat.gcd_dvd_right X Y
    generalize hG : Nat.gcd X Y = G at *
    have ep : X / G = p := by
      rw [hp]
      exact Nat.mul_div_cancel_left _ hg
    have eq' : Y / G = q := by
      rw [hq]
      exact Nat.mul_div_cancel_left _ hg
    rw [e1, e2, ep, eq']
    refine ⟨?_, ?_, ?_, ?_⟩
    · rcases Nat.eq_zero_or_pos p with c | c
      · rw [c] at hp
        omega
      · exact c
    · rw [hp, hq] at hxy
      exact Nat.le_of_mul_le_mul_left hxy hg
    · have : G * Nat.gcd p q = G * 1 := by
        rw [← Nat.gcd_mul_left, ← hp, ← hq, hG, Nat.mul_one]
      exact Nat.eq_of_mul_eq_mul_left hg this
    · rw [hp, hq, Nat.mul_assoc, Nat.mul_assoc] at hyb
      exact Nat.eq_of_mul_eq_mul_left hg hyb
theorem chN_b {n d i : Nat} (hn : n ≤ 48) (hd : d ≤ n) (hi : i ≤ d) : (chN n d i).1 ≤ (chN n d i).2 ∧ (chN n d i).2 ≤ 2 ^ 48 := by
  obtain ⟨h1, h2, h3, h4⟩ := chN_ok n d hd i hi
  refine ⟨h2, ?_⟩
  have dv : (chN n d i).2 ∣ (chN n d i).1 * bn n i := ⟨bn d i, h4⟩
  have dv2 : (chN n d i).2 ∣ bn n i := Nat.Coprime.dvd_of_dvd_mul_left (show Nat.Coprime (chN n d i).2 (chN n d i).1 from by rw [Nat.coprime_comm]; exact h3) dv
  have pos : ∀ n k, k ≤ n → 0 < bn n k := by
    intro n
    induction n with
    | zero =>
      intro k hk
      have : k = 0 := by omega
      subst this
      decide
    | succ n ih =>
      intro k hk
      cases k with
      | zero => rw [bn_0]; omega
      | succ k =>
        have := ih k (by omega)
        show 0 < bn n k + bn n (k + 1)
        omega
  exact Nat.le_trans (Nat.le_of_dvd (pos n i (by omega)) dv2) (Nat.le_trans (bn_le n i) (Nat.pow_le_pow_right (by omega) hn))
set_option maxRecDepth 20000 in
theorem l_Fi_chanceOf (d n de k part : Nat) (hn : n ≤ 48) (hd : de ≤ n) (hk : k ≤ de) (hpart : part ≤ 1) (h : XH) (z : Nat) (Q : XQ) (hQ : Q (some (.long (if part = 0 then lN (chN n de k).1 else lN (chN n de k).2))) h z) : ∀ (m i : Nat), i + m = k → AR (d + 1) m_Fi_chanceOf 0 17 [some (.int (nI n)), some (.int (nI de)), some (.int (nI k)), some (.int (nI part)), some (.long (lN (chN n de i).1)), none, some (.long (lN (chN n de i).2)), none, some (.int (nI i)), none, none] [] h z Q := by
  intro m
  induction m with
  | zero =>
    intro i hi
    have e : i = k := by omega
    subst e
    have cp : (nI part = 0) = (part = 0) := nI_lit (k := 0) (by omega) (by omega)
    by_cases c : part = 0
    · have ct : (nI part = 0) = True := eq_true (by rw [cp]; exact c)
      refine run [17] 40 ok_m_Fi_chanceOf (fun V hV => ?_)
      simp only [hV, sPush, sIld, sLld, sAld, sIst, sLst, sAst, sInc, sBI, sBL, sDI, sDL, sSL, sUI, sIL, sLI, sCmp, sDup, sDup2, sGo, sIf, sCm, sNul, sGet, sPut, sIal, sCal, sLal, sAal, sIas, sCas, sLas, sAas, sLen, sNew, sNar, sMna, sIns, sSw, swK, sIret, sLret, sAret, sVret, sSta, sSpe, sVir, sObj, sMax, sMin, sAcp, popN, catS, stdC, callA, gL, stI, stL, clr, cat1, cH, if_true, if_false, reduceIte, List.mem_cons, List.not_mem_nil, or_false, false_or, or_self, List.lookup_cons, List.lookup_nil, Option.toList_some, Option.toList_none, List.cons_append, List.nil_append, List.reverse_cons, List.reverse_nil, true_and, and_true, true_or, or_true, hset_s, hset_hset, List.getElem?_cons_zero, List.getElem?_cons_succ, List.set_cons_zero, List.set_cons_succ, List.length_cons, List.length_nil, beq_self_eq_true, Nat.reduceBEq, va_rf,  not_true_eq_false, not_false_eq_true, false_implies, true_implies, forall_const, ne_eq, eq_self, Nat.reduceAdd, Nat.reduceSub, Nat.reduceLeDiff, Nat.reduceLT, zlt_s, Nat.reduceEqDiff, Nat.zero_le, Nat.sub_zero, Nat.le_refl, imp_self, bI_0, nr_b, nr_b0, nr_b1, nr_i, nr_l, nr_a, nr_o, ft_i, ft_b1, ft_l, ft_a, ft_o, Classical.not_not, kb_m104, kb_m103, kb_m102, kb_m101, kb_6, kb_7, kb_8, kb_9, kb_10, kb_12, kb_16, kb_19, kb_20, kb_31, kb_32, kb_40, kb_42, kb_44, kb_47, kb_48, kb_49, kb_57, kb_63, kb_96, kb_99, kb_100, kb_103, kb_111, kb_112, kb_114, kb_116, kb_119, kb_126, kb_127, kc_m1, kc_0, kc_1, kc_2, kc_3, kc_4, kc_5, kc_6, kc_7, kc_8, kc_9, kc_10, kc_11, kc_12, kc_13, kc_14, kc_15, kc_16, kc_17, kc_18, kc_19, kc_20, kc_21, kc_22, kc_23, kc_24, kc_25, kc_26, kc_27, kc_28, kc_29, kc_103, kc_114, kc_116, kc_119, kl_0, kl_1, ks_200, ks_255, ks_288, i_Fi_chanceOf_0, i_Fi_chanceOf_1, i_Fi_chanceOf_2, i_Fi_chanceOf_5, i_Fi_chanceOf_6, i_Fi_chanceOf_7, i_Fi_chanceOf_8, i_Fi_chanceOf_9, i_Fi_chanceOf_11, i_Fi_chanceOf_12, i_Fi_chanceOf_14, i_Fi_chanceOf_15, i_Fi_chanceOf_17, i_Fi_chanceOf_19, i_Fi_chanceOf_20, i_Fi_chanceOf_23, i_Fi_chanceOf_25, i_Fi_chanceOf_26, i_Fi_chanceOf_28, i_Fi_chanceOf_29, i_Fi_chanceOf_30, i_Fi_chanceOf_31, i_Fi_chanceOf_33, i_Fi_chanceOf_35, i_Fi_chanceOf_36, i_Fi_chanceOf_38, i_Fi_chanceOf_39, i_Fi_chanceOf_40, i_Fi_chanceOf_41, i_Fi_chanceOf_43, i_Fi_chanceOf_45, i_Fi_chanceOf_47, i_Fi_chanceOf_50, i_Fi_chanceOf_52, i_Fi_chanceOf_54, i_Fi_chanceOf_55, i_Fi_chanceOf_56, i_Fi_chanceOf_59, i_Fi_chanceOf_61, i_Fi_chanceOf_63, i_Fi_chanceOf_64, i_Fi_chanceOf_66, i_Fi_chanceOf_68, i_Fi_chanceOf_70, i_Fi_chanceOf_71, i_Fi_chanceOf_73, i_Fi_chanceOf_76, i_Fi_chanceOf_79, i_Fi_chanceOf_80, i_Fi_chanceOf_83, i_Fi_chanceOf_85, i_Fi_chanceOf_88, i_Fi_chanceOf_90, nI_leI (a := i) (b := i) (by omega) (by omega), ct]
      rwa [if_pos c] at hQ
    · refine run [17] 40 ok_m_Fi_chanceOf (fun V hV => ?_)
      simp only [hV, sPush, sIld, sLld, sAld, sIst, sLst, sAst, sInc, sBI, sBL, sDI, sDL, sSL, sUI, sIL, sLI, sCmp, sDup, sDup2, sGo, sIf, sCm, sNul, sGet, sPut, sIal, sCal, sLal, sAal, sIas, sCas, sLas, sAas, sLen, sNew, sNar, sMna, sIns, sSw, swK, sIret, sLret, sAret, sVret, sSta, sSpe, sVir, sObj, sMax, sMin, sAcp, popN, catS, stdC, callA, gL, stI, stL, clr, cat1, cH, if_true, if_false, reduceIte, List.mem_cons, List.not_mem_nil, or_false, false_or, or_self, List.lookup_cons, List.lookup_nil, Option.toList_some, Option.toList_none, List.cons_append, List.nil_append, List.reverse_cons, List.reverse_nil, true_and, and_true, true_or, or_true, hset_s, hset_hset, List.getElem?_cons_zero, List.getElem?_cons_succ, List.set_cons_zero, List.set_cons_succ, List.length_cons, List.length_nil, beq_self_eq_true, Nat.reduceBEq, va_rf,  not_true_eq_false, not_false_eq_true, false_implies, true_implies, forall_const, ne_eq, eq_self, Nat.reduceAdd, Nat.reduceSub, Nat.reduceLeDiff, Nat.reduceLT, zlt_s, Nat.reduceEqDiff, Nat.zero_le, Nat.sub_zero, Nat.le_refl, imp_self, bI_0, nr_b, nr_b0, nr_b1, nr_i, nr_l, nr_a, nr_o, ft_i, ft_b1, ft_l, ft_a, ft_o, Classical.not_not, kb_m104, kb_m103, kb_m102, kb_m101, kb_6, kb_7, kb_8, kb_9, kb_10, kb_12, kb_16, kb_19, kb_20, kb_31, kb_32, kb_40, kb_42, kb_44, kb_47, kb_48, kb_49, kb_57, kb_63, kb_96, kb_99, kb_100, kb_103, kb_111, kb_112, kb_114, kb_116, kb_119, kb_126, kb_127, kc_m1, kc_0, kc_1, kc_2, kc_3, kc_4, kc_5, kc_6, kc_7, kc_8, kc_9, kc_10, kc_11, kc_12, kc_13, kc_14, kc_15, kc_16, kc_17, kc_18, kc_19, kc_20, kc_21, kc_22, kc_23, kc_24, kc_25, kc_26, kc_27, kc_28, kc_29, kc_103, kc_114, kc_116, kc_119, kl_0, kl_1, ks_200, ks_255, ks_288, i_Fi_chanceOf_0, i_Fi_chanceOf_1, i_Fi_chanceOf_2, i_Fi_chanceOf_5, i_Fi_chanceOf_6, i_Fi_chanceOf_7, i_Fi_chanceOf_8, i_Fi_chanceOf_9, i_Fi_chanceOf_11, i_Fi_chanceOf_12, i_Fi_chanceOf_14, i_Fi_chanceOf_15, i_Fi_chanceOf_17, i_Fi_chanceOf_19, i_Fi_chanceOf_20, i_Fi_chanceOf_23, i_Fi_chanceOf_25, i_Fi_chanceOf_26, i_Fi_chanceOf_28, i_Fi_chanceOf_29, i_Fi_chanceOf_30, i_Fi_chanceOf_31, i_Fi_chanceOf_33, i_Fi_chanceOf_35, i_Fi_chanceOf_36, i_Fi_chanceOf_38, i_Fi_chanceOf_39, i_Fi_chanceOf_40, i_Fi_chanceOf_41, i_Fi_chanceOf_43, i_Fi_chanceOf_45, i_Fi_chanceOf_47, i_Fi_chanceOf_50, i_Fi_chanceOf_52, i_Fi_chanceOf_54, i_Fi_chanceOf_55, i_Fi_chanceOf_56, i_Fi_chanceOf_59, i_Fi_chanceOf_61, i_Fi_chanceOf_63, i_Fi_chanceOf_64, i_Fi_chanceOf_66, i_Fi_chanceOf_68, i_Fi_chanceOf_70, i_Fi_chanceOf_71, i_Fi_chanceOf_73, i_Fi_chanceOf_76, i_Fi_chanceOf_79, i_Fi_chanceOf_80, i_Fi_chanceOf_83, i_Fi_chanceOf_85, i_Fi_chanceOf_88, i_Fi_chanceOf_90, nI_leI (a := i) (b := i) (by omega) (by omega), cp, c]
      rwa [if_neg c] at hQ
  | succ m ih =>
    intro i hi
    have g1' : ¬ nI k ≤ nI i := by
      rw [nI_leI (by omega) (by omega)]
      omega
    obtain ⟨b1, b2⟩ := chN_b hn hd (show i ≤ de by omega)
    have x1 : (chN n de i).1 * (de - i) ≤ 2 ^ 48 * 48 := Nat.mul_le_mul (by omega) (by omega)
    have x2 : (chN n de i).2 * (n - i) ≤ 2 ^ 48 * 48 := Nat.mul_le_mul b2 (by omega)
    have x0 : 1 ≤ (chN n de i).1 * (de - i) := Nat.mul_pos (chN_ok n de hd i (by omega)).1 (by omega)
    refine run [17] 40 ok_m_Fi_chanceOf (fun V hV => ?_)
    simp only [hV, sPush, sIld, sLld, sAld, sIst, sLst, sAst, sInc, sBI, sBL, sDI, sDL, sSL, sUI, sIL, sLI, sCmp, sDup, sDup2, sGo, sIf, sCm, sNul, sGet, sPut, sIal, sCal, sLal, sAal, sIas, sCas, sLas, sAas, sLen, sNew, sNar, sMna, sIns, sSw, swK, sIret, sLret, sAret, sVret, sSta, sSpe, sVir, sObj, sMax, sMin, sAcp, popN, catS, stdC, callA, gL, stI, stL, clr, cat1, cH, if_true, if_false, reduceIte, List.mem_cons, List.not_mem_nil, or_false, false_or, or_self, List.lookup_cons, List.lookup_nil, Option.toList_some, Option.toList_none, List.cons_append, List.nil_append, List.reverse_cons, List.reverse_nil, true_and, and_true, true_or, or_true, hset_s, hset_hset, List.getElem?_cons_zero, List.getElem?_cons_succ, List.set_cons_zero, List.set_cons_succ, List.length_cons, List.length_nil, beq_self_eq_true, Nat.reduceBEq, va_rf,  not_true_eq_false, not_false_eq_true, false_implies, true_implies, forall_const, ne_eq, eq_self, Nat.reduceAdd, Nat.reduceSub, Nat.reduceLeDiff, Nat.reduceLT, zlt_s, Nat.reduceEqDiff, Nat.zero_le, Nat.sub_zero, Nat.le_refl, imp_self, bI_0, nr_b, nr_b0, nr_b1, nr_i, nr_l, nr_a, nr_o, ft_i, ft_b1, ft_l, ft_a, ft_o, Classical.not_not, kb_m104, kb_m103, kb_m102, kb_m101, kb_6, kb_7, kb_8, kb_9, kb_10, kb_12, kb_16, kb_19, kb_20, kb_31, kb_32, kb_40, kb_42, kb_44, kb_47, kb_48, kb_49, kb_57, kb_63, kb_96, kb_99, kb_100, kb_103, kb_111, kb_112, kb_114, kb_116, kb_119, kb_126, kb_127, kc_m1, kc_0, kc_1, kc_2, kc_3, kc_4, kc_5, kc_6, kc_7, kc_8, kc_9, kc_10, kc_11, kc_12, kc_13, kc_14, kc_15, kc_16, kc_17, kc_18, kc_19, kc_20, kc_21, kc_22, kc_23, kc_24, kc_25, kc_26, kc_27, kc_28, kc_29, kc_103, kc_114, kc_116, kc_119, kl_0, kl_1, ks_200, ks_255, ks_288, i_Fi_chanceOf_0, i_Fi_chanceOf_1, i_Fi_chanceOf_2, i_Fi_chanceOf_5, i_Fi_chanceOf_6, i_Fi_chanceOf_7, i_Fi_chanceOf_8, i_Fi_chanceOf_9, i_Fi_chanceOf_11, i_Fi_chanceOf_12, i_Fi_chanceOf_14, i_Fi_chanceOf_15, i_Fi_chanceOf_17, i_Fi_chanceOf_19, i_Fi_chanceOf_20, i_Fi_chanceOf_23, i_Fi_chanceOf_25, i_Fi_chanceOf_26, i_Fi_chanceOf_28, i_Fi_chanceOf_29, i_Fi_chanceOf_30, i_Fi_chanceOf_31, i_Fi_chanceOf_33, i_Fi_chanceOf_35, i_Fi_chanceOf_36, i_Fi_chanceOf_38, i_Fi_chanceOf_39, i_Fi_chanceOf_40, i_Fi_chanceOf_41, i_Fi_chanceOf_43, i_Fi_chanceOf_45, i_Fi_chanceOf_47, i_Fi_chanceOf_50, i_Fi_chanceOf_52, i_Fi_chanceOf_54, i_Fi_chanceOf_55, i_Fi_chanceOf_56, i_Fi_chanceOf_59, i_Fi_chanceOf_61, i_Fi_chanceOf_63, i_Fi_chanceOf_64, i_Fi_chanceOf_66, i_Fi_chanceOf_68, i_Fi_chanceOf_70, i_Fi_chanceOf_71, i_Fi_chanceOf_73, i_Fi_chanceOf_76, i_Fi_chanceOf_79, i_Fi_chanceOf_80, i_Fi_chanceOf_83, i_Fi_chanceOf_85, i_Fi_chanceOf_88, i_Fi_chanceOf_90, g1', pk_sub (a := de) (b := i) (by omega), pk_sub (a := n) (b := i) (by omega), i2l_n (v := de - i) (by omega), i2l_n (v := n - i) (by omega), lN_mul]
    refine s_Fi_common _ _ _ (by omega) (by omega) _ _ _ ?_
    have hg : Nat.gcd ((chN n de i).1 * (de - i)) ((chN n de i).2 * (n - i)) ≤ (chN n de i).1 * (de - i) := Nat.gcd_le_left _ x0
    have hg0 : 0 < Nat.gcd ((chN n de i).1 * (de - i)) ((chN n de i).2 * (n - i)) := Nat.gcd_pos_of_pos_left _ x0
    have nx := ih (i + 1) (by omega)
    have e1 : (chN n de (i + 1)).1 = (chN n de i).1 * (de - i) / Nat.gcd ((chN n de i).1 * (de - i)) ((chN n de i).2 * (n - i)) := rfl
    have e2 : (chN n de (i + 1)).2 = (chN n de i).2 * (n - i) / Nat.gcd ((chN n de i).1 * (de - i)) ((chN n de i).2 * (n - i)) := rfl
    rw [e1, e2] at nx
    generalize (chN n de i).1 * (de - i) = X at *
    generalize (chN n de i).2 * (n - i) = Y at *
    have cl : (lN (Nat.gcd X Y) ≤ 1) = (Nat.gcd X Y ≤ 1) := lN_lex (b := 1) (by omega) (by omega)
    have c0 : (lN (Nat.gcd X Y) = 0) = (Nat.gcd X Y = 0) := lN_inj (b := 0) (by omega) (by omega)
    by_cases c : Nat.gcd X Y ≤ 1
    · have e : Nat.gcd X Y = 1 := by omega
      have ct : (lN (Nat.gcd X Y) ≤ 1) = True := eq_true (by rw [cl]; exact c)
      rw [e, Nat.div_one, Nat.div_one] at nx
      refine run [17] 40 ok_m_Fi_chanceOf (fun V hV => ?_)
      simp only [hV, sPush, sIld, sLld, sAld, sIst, sLst, sAst, sInc, sBI, sBL, sDI, sDL, sSL, sUI, sIL, sLI, sCmp, sDup, sDup2, sGo, sIf, sCm, sNul, sGet, sPut, sIal, sCal, sLal, sAal, sIas, sCas, sLas, sAas, sLen, sNew, sNar, sMna, sIns, sSw, swK, sIret, sLret, sAret, sVret, sSta, sSpe, sVir, sObj, sMax, sMin, sAcp, popN, catS, stdC, callA, gL, stI, stL, clr, cat1, cH, if_true, if_false, reduceIte, List.mem_cons, List.not_mem_nil, or_false, false_or, or_self, List.lookup_cons, List.lookup_nil, Option.toList_some, Option.toList_none, List.cons_append, List.nil_append, List.reverse_cons, List.reverse_nil, true_and, and_true, true_or, or_true, hset_s, hset_hset, List.getElem?_cons_zero, List.getElem?_cons_succ, List.set_cons_zero, List.set_cons_succ, List.length_cons, List.length_nil, beq_self_eq_true, Nat.reduceBEq, va_rf,  not_true_eq_false, not_false_eq_true, false_implies, true_implies, forall_const, ne_eq, eq_self, Nat.reduceAdd, Nat.reduceSub, Nat.reduceLeDiff, Nat.reduceLT, zlt_s, Nat.reduceEqDiff, Nat.zero_le, Nat.sub_zero, Nat.le_refl, imp_self, bI_0, nr_b, nr_b0, nr_b1, nr_i, nr_l, nr_a, nr_o, ft_i, ft_b1, ft_l, ft_a, ft_o, Classical.not_not, kb_m104, kb_m103, kb_m102, kb_m101, kb_6, kb_7, kb_8, kb_9, kb_10, kb_12, kb_16, kb_19, kb_20, kb_31, kb_32, kb_40, kb_42, kb_44, kb_47, kb_48, kb_49, kb_57, kb_63, kb_96, kb_99, kb_100, kb_103, kb_111, kb_112, kb_114, kb_116, kb_119, kb_126, kb_127, kc_m1, kc_0, kc_1, kc_2, kc_3, kc_4, kc_5, kc_6, kc_7, kc_8, kc_9, kc_10, kc_11, kc_12, kc_13, kc_14, kc_15, kc_16, kc_17, kc_18, kc_19, kc_20, kc_21, kc_22, kc_23, kc_24, kc_25, kc_26, kc_27, kc_28, kc_29, kc_103, kc_114, kc_116, kc_119, kl_0, kl_1, ks_200, ks_255, ks_288, i_Fi_chanceOf_0, i_Fi_chanceOf_1, i_Fi_chanceOf_2, i_Fi_chanceOf_5, i_Fi_chanceOf_6, i_Fi_chanceOf_7, i_Fi_chanceOf_8, i_Fi_chanceOf_9, i_Fi_chanceOf_11, i_Fi_chanceOf_12, i_Fi_chanceOf_14, i_Fi_chanceOf_15, i_Fi_chanceOf_17, i_Fi_chanceOf_19, i_Fi_chanceOf_20, i_Fi_chanceOf_23, i_Fi_chanceOf_25, i_Fi_chanceOf_26, i_Fi_chanceOf_28, i_Fi_chanceOf_29, i_Fi_chanceOf_30, i_Fi_chanceOf_31, i_Fi_chanceOf_33, i_Fi_chanceOf_35, i_Fi_chanceOf_36, i_Fi_chanceOf_38, i_Fi_chanceOf_39, i_Fi_chanceOf_40, i_Fi_chanceOf_41, i_Fi_chanceOf_43, i_Fi_chanceOf_45, i_Fi_chanceOf_47, i_Fi_chanceOf_50, i_Fi_chanceOf_52, i_Fi_chanceOf_54, i_Fi_chanceOf_55, i_Fi_chanceOf_56, i_Fi_chanceOf_59, i_Fi_chanceOf_61, i_Fi_chanceOf_63, i_Fi_chanceOf_64, i_Fi_chanceOf_66, i_Fi_chanceOf_68, i_Fi_chanceOf_70, i_Fi_chanceOf_71, i_Fi_chanceOf_73, i_Fi_chanceOf_76, i_Fi_chanceOf_79, i_Fi_chanceOf_80, i_Fi_chanceOf_83, i_Fi_chanceOf_85, i_Fi_chanceOf_88, i_Fi_chanceOf_90, lgle, ct, nI_1]
      exact nx.weak _ ⟨rfl, by simp [leL]⟩
    · refine run [17] 40 ok_m_Fi_chanceOf (fun V hV => ?_)
      simp only [hV, sPush, sIld, sLld, sAld, sIst, sLst, sAst, sInc, sBI, sBL, sDI, sDL, sSL, sUI, sIL, sLI, sCmp, sDup, sDup2, sGo, sIf, sCm, sNul, sGet, sPut, sIal, sCal, sLal, sAal, sIas, sCas, sLas, sAas, sLen, sNew, sNar, sMna, sIns, sSw, swK, sIret, sLret, sAret, sVret, sSta, sSpe, sVir, sObj, sMax, sMin, sAcp, popN, catS, stdC, callA, gL, stI, stL, clr, cat1, cH, if_true, if_false, reduceIte, List.mem_cons, List.not_mem_nil, or_false, false_or, or_self, List.lookup_cons, List.lookup_nil, Option.toList_some, Option.toList_none, List.cons_append, List.nil_append, List.reverse_cons, List.reverse_nil, true_and, and_true, true_or, or_true, hset_s, hset_hset, List.getElem?_cons_zero, List.getElem?_cons_succ, List.set_cons_zero, List.set_cons_succ, List.length_cons, List.length_nil, beq_self_eq_true, Nat.reduceBEq, va_rf,  not_true_eq_false, not_false_eq_true, false_implies, true_implies, forall_const, ne_eq, eq_self, Nat.reduceAdd, Nat.reduceSub, Nat.reduceLeDiff, Nat.reduceLT, zlt_s, Nat.reduceEqDiff, Nat.zero_le, Nat.sub_zero, Nat.le_refl, imp_self, bI_0, nr_b, nr_b0, nr_b1, nr_i, nr_l, nr_a, nr_o, ft_i, ft_b1, ft_l, ft_a, ft_o, Classical.not_not, kb_m104, kb_m103, kb_m102, kb_m101, kb_6, kb_7, kb_8, kb_9, kb_10, kb_12, kb_16, kb_19, kb_20, kb_31, kb_32, kb_40, kb_42, kb_44, kb_47, kb_48, kb_49, kb_57, kb_63, kb_96, kb_99, kb_100, kb_103, kb_111, kb_112, kb_114, kb_116, kb_119, kb_126, kb_127, kc_m1, kc_0, kc_1, kc_2, kc_3, kc_4, kc_5, kc_6, kc_7, kc_8, kc_9, kc_10, kc_11, kc_12, kc_13, kc_14, kc_15, kc_16, kc_17, kc_18, kc_19, kc_20, kc_21, kc_22, kc_23, kc_24, kc_25, kc_26, kc_27, kc_28, kc_29, kc_103, kc_114, kc_116, kc_119, kl_0, kl_1, ks_200, ks_255, ks_288, i_Fi_chanceOf_0, i_Fi_chanceOf_1, i_Fi_chanceOf_2, i_Fi_chanceOf_5, i_Fi_chanceOf_6, i_Fi_chanceOf_7, i_Fi_chanceOf_8, i_Fi_chanceOf_9, i_Fi_chanceOf_11, i_Fi_chanceOf_12, i_Fi_chanceOf_14, i_Fi_chanceOf_15, i_Fi_chanceOf_17, i_Fi_chanceOf_19, i_Fi_chanceOf_20, i_Fi_chanceOf_23, i_Fi_chanceOf_25, i_Fi_chanceOf_26, i_Fi_chanceOf_28, i_Fi_chanceOf_29, i_Fi_chanceOf_30, i_Fi_chanceOf_31, i_Fi_chanceOf_33, i_Fi_chanceOf_35, i_Fi_chanceOf_36, i_Fi_chanceOf_38, i_Fi_chanceOf_39, i_Fi_chanceOf_40, i_Fi_chanceOf_41, i_Fi_chanceOf_43, i_Fi_chanceOf_45, i_Fi_chanceOf_47, i_Fi_chanceOf_50, i_Fi_chanceOf_52, i_Fi_chanceOf_54, i_Fi_chanceOf_55, i_Fi_chanceOf_56, i_Fi_chanceOf_59, i_Fi_chanceOf_61, i_Fi_chanceOf_63, i_Fi_chanceOf_64, i_Fi_chanceOf_66, i_Fi_chanceOf_68, i_Fi_chanceOf_70, i_Fi_chanceOf_71, i_Fi_chanceOf_73, i_Fi_chanceOf_76, i_Fi_chanceOf_79, i_Fi_chanceOf_80, i_Fi_chanceOf_83, i_Fi_chanceOf_85, i_Fi_chanceOf_88, i_Fi_chanceOf_90, lgle, cl, c, c0, show ¬ (Nat.gcd X Y = 0) from by omega, lN_div (a := X) (b := Nat.gcd X Y) (by omega) (by omega), lN_div (a := Y) (b := Nat.gcd X Y) (by omega) (by omega), nI_1]
      exact nx.weak _ ⟨rfl, by simp [leL]⟩
def chA (n de k part : Nat) : Int64 := if de < k then lN part else if part = 0 then lN (chN n de k).1 else lN (chN n de k).2
set_option maxRecDepth 20000 in
theorem s_Fi_chanceOf (d n de k part : Nat) (hn : n ≤ 48) (hd : de ≤ n) (hk : k ≤ 64) (hpart : part ≤ 1) (h : XH) (z : Nat) (Q : XQ) (hQ : Q (some (.long (chA n de k part))) h z) : CALL (d + 1) m_Fi_chanceOf [.int (nI n), .int (nI de), .int (nI k), .int (nI part)] h z Q := by
  refine ⟨Nat.le_of_ble_eq_true rfl, ?_⟩
  show AR (d + 1) m_Fi_chanceOf 0 0 [some (.int (nI n)), some (.int (nI de)), some (.int (nI k)), some (.int (nI part)), none, none, none, none, none, none, none] [] h z Q
  have cl : (nI k ≤ nI de) = (k ≤ de) := propext (nI_leI (by omega) (by omega))
  by_cases c : k ≤ de
  · rw [chA, if_neg (by omega)] at hQ
    refine run [17] 40 ok_m_Fi_chanceOf (fun V hV => ?_)
    simp only [hV, sPush, sIld, sLld, sAld, sIst, sLst, sAst, sInc, sBI, sBL, sDI, sDL, sSL, sUI, sIL, sLI, sCmp, sDup, sDup2, sGo, sIf, sCm, sNul, sGet, sPut, sIal, sCal, sLal, sAal, sIas, sCas, sLas, sAas, sLen, sNew, sNar, sMna, sIns, sSw, swK, sIret, sLret, sAret, sVret, sSta, sSpe, sVir, sObj, sMax, sMin, sAcp, popN, catS, stdC, callA, gL, stI, stL, clr, cat1, cH, if_true, if_false, reduceIte, List.mem_cons, List.not_mem_nil, or_false, false_or, or_self, List.lookup_cons, List.lookup_nil, Option.toList_some, Option.toList_none, List.cons_append, List.nil_append, List.reverse_cons, List.reverse_nil, true_and, and_true, true_or, or_true, hset_s, hset_hset, List.getElem?_cons_zero, List.getElem?_cons_succ, List.set_cons_zero, List.set_cons_succ, List.length_cons, List.length_nil, beq_self_eq_true, Nat.reduceBEq, va_rf,  not_true_eq_false, not_false_eq_true, false_implies, true_implies, forall_const, ne_eq, eq_self, Nat.reduceAdd, Nat.reduceSub, Nat.reduceLeDiff, Nat.reduceLT, zlt_s, Nat.reduceEqDiff, Nat.zero_le, Nat.sub_zero, Nat.le_refl, imp_self, bI_0, nr_b, nr_b0, nr_b1, nr_i, nr_l, nr_a, nr_o, ft_i, ft_b1, ft_l, ft_a, ft_o, Classical.not_not, kb_m104, kb_m103, kb_m102, kb_m101, kb_6, kb_7, kb_8, kb_9, kb_10, kb_12, kb_16, kb_19, kb_20, kb_31, kb_32, kb_40, kb_42, kb_44, kb_47, kb_48, kb_49, kb_57, kb_63, kb_96, kb_99, kb_100, kb_103, kb_111, kb_112, kb_114, kb_116, kb_119, kb_126, kb_127, kc_m1, kc_0, kc_1, kc_2, kc_3, kc_4, kc_5, kc_6, kc_7, kc_8, kc_9, kc_10, kc_11, kc_12, kc_13, kc_14, kc_15, kc_16, kc_17, kc_18, kc_19, kc_20, kc_21, kc_22, kc_23, kc_24, kc_25, kc_26, kc_27, kc_28, kc_29, kc_103, kc_114, kc_116, kc_119, kl_0, kl_1, ks_200, ks_255, ks_288, i_Fi_chanceOf_0, i_Fi_chanceOf_1, i_Fi_chanceOf_2, i_Fi_chanceOf_5, i_Fi_chanceOf_6, i_Fi_chanceOf_7, i_Fi_chanceOf_8, i_Fi_chanceOf_9, i_Fi_chanceOf_11, i_Fi_chanceOf_12, i_Fi_chanceOf_14, i_Fi_chanceOf_15, i_Fi_chanceOf_17, i_Fi_chanceOf_19, i_Fi_chanceOf_20, i_Fi_chanceOf_23, i_Fi_chanceOf_25, i_Fi_chanceOf_26, i_Fi_chanceOf_28, i_Fi_chanceOf_29, i_Fi_chanceOf_30, i_Fi_chanceOf_31, i_Fi_chanceOf_33, i_Fi_chanceOf_35, i_Fi_chanceOf_36, i_Fi_chanceOf_38, i_Fi_chanceOf_39, i_Fi_chanceOf_40, i_Fi_chanceOf_41, i_Fi_chanceOf_43, i_Fi_chanceOf_45, i_Fi_chanceOf_47, i_Fi_chanceOf_50, i_Fi_chanceOf_52, i_Fi_chanceOf_54, i_Fi_chanceOf_55, i_Fi_chanceOf_56, i_Fi_chanceOf_59, i_Fi_chanceOf_61, i_Fi_chanceOf_63, i_Fi_chanceOf_64, i_Fi_chanceOf_66, i_Fi_chanceOf_68, i_Fi_chanceOf_70, i_Fi_chanceOf_71, i_Fi_chanceOf_73, i_Fi_chanceOf_76, i_Fi_chanceOf_79, i_Fi_chanceOf_80, i_Fi_chanceOf_83, i_Fi_chanceOf_85, i_Fi_chanceOf_88, i_Fi_chanceOf_90, cl, c]
    exact l_Fi_chanceOf d n de k part hn hd c hpart h z Q hQ k 0 (by omega)
  · rw [chA, if_pos (by omega)] at hQ
    refine run [17] 40 ok_m_Fi_chanceOf (fun V hV => ?_)
    simp only [hV, sPush, sIld, sLld, sAld, sIst, sLst, sAst, sInc, sBI, sBL, sDI, sDL, sSL, sUI, sIL, sLI, sCmp, sDup, sDup2, sGo, sIf, sCm, sNul, sGet, sPut, sIal, sCal, sLal, sAal, sIas, sCas, sLas, sAas, sLen, sNew, sNar, sMna, sIns, sSw, swK, sIret, sLret, sAret, sVret, sSta, sSpe, sVir, sObj, sMax, sMin, sAcp, popN, catS, stdC, callA, gL, stI, stL, clr, cat1, cH, if_true, if_false, reduceIte, List.mem_cons, List.not_mem_nil, or_false, false_or, or_self, List.lookup_cons, List.lookup_nil, Option.toList_some, Option.toList_none, List.cons_append, List.nil_append, List.reverse_cons, List.reverse_nil, true_and, and_true, true_or, or_true, hset_s, hset_hset, List.getElem?_cons_zero, List.getElem?_cons_succ, List.set_cons_zero, List.set_cons_succ, List.length_cons, List.length_nil, beq_self_eq_true, Nat.reduceBEq, va_rf,  not_true_eq_false, not_false_eq_true, false_implies, true_implies, forall_const, ne_eq, eq_self, Nat.reduceAdd, Nat.reduceSub, Nat.reduceLeDiff, Nat.reduceLT, zlt_s, Nat.reduceEqDiff, Nat.zero_le, Nat.sub_zero, Nat.le_refl, imp_self, bI_0, nr_b, nr_b0, nr_b1, nr_i, nr_l, nr_a, nr_o, ft_i, ft_b1, ft_l, ft_a, ft_o, Classical.not_not, kb_m104, kb_m103, kb_m102, kb_m101, kb_6, kb_7, kb_8, kb_9, kb_10, kb_12, kb_16, kb_19, kb_20, kb_31, kb_32, kb_40, kb_42, kb_44, kb_47, kb_48, kb_49, kb_57, kb_63, kb_96, kb_99, kb_100, kb_103, kb_111, kb_112, kb_114, kb_116, kb_119, kb_126, kb_127, kc_m1, kc_0, kc_1, kc_2, kc_3, kc_4, kc_5, kc_6, kc_7, kc_8, kc_9, kc_10, kc_11, kc_12, kc_13, kc_14, kc_15, kc_16, kc_17, kc_18, kc_19, kc_20, kc_21, kc_22, kc_23, kc_24, kc_25, kc_26, kc_27, kc_28, kc_29, kc_103, kc_114, kc_116, kc_119, kl_0, kl_1, ks_200, ks_255, ks_288, i_Fi_chanceOf_0, i_Fi_chanceOf_1, i_Fi_chanceOf_2, i_Fi_chanceOf_5, i_Fi_chanceOf_6, i_Fi_chanceOf_7, i_Fi_chanceOf_8, i_Fi_chanceOf_9, i_Fi_chanceOf_11, i_Fi_chanceOf_12, i_Fi_chanceOf_14, i_Fi_chanceOf_15, i_Fi_chanceOf_17, i_Fi_chanceOf_19, i_Fi_chanceOf_20, i_Fi_chanceOf_23, i_Fi_chanceOf_25, i_Fi_chanceOf_26, i_Fi_chanceOf_28, i_Fi_chanceOf_29, i_Fi_chanceOf_30, i_Fi_chanceOf_31, i_Fi_chanceOf_33, i_Fi_chanceOf_35, i_Fi_chanceOf_36, i_Fi_chanceOf_38, i_Fi_chanceOf_39, i_Fi_chanceOf_40, i_Fi_chanceOf_41, i_Fi_chanceOf_43, i_Fi_chanceOf_45, i_Fi_chanceOf_47, i_Fi_chanceOf_50, i_Fi_chanceOf_52, i_Fi_chanceOf_54, i_Fi_chanceOf_55, i_Fi_chanceOf_56, i_Fi_chanceOf_59, i_Fi_chanceOf_61, i_Fi_chanceOf_63, i_Fi_chanceOf_64, i_Fi_chanceOf_66, i_Fi_chanceOf_68, i_Fi_chanceOf_70, i_Fi_chanceOf_71, i_Fi_chanceOf_73, i_Fi_chanceOf_76, i_Fi_chanceOf_79, i_Fi_chanceOf_80, i_Fi_chanceOf_83, i_Fi_chanceOf_85, i_Fi_chanceOf_88, i_Fi_chanceOf_90, cl, c, i2l_n (v := part) (by omega)]
    exact hQ
