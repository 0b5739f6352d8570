/-! HOW MANY BITS: Integer.bitCount, Long.bitCount -/
def us32 (y s : Int32) : Int32 := (y.toUInt32 >>> (s.toUInt32 &&& Int32.toUInt32 31)).toInt32
def sw32_1 (x : Int32) : Int32 := x - (us32 x 1 &&& 1431655765)
def sw32_2 (x : Int32) : Int32 := (x &&& 858993459) + (us32 x 2 &&& 858993459)
def sw32_3 (x : Int32) : Int32 := (x + us32 x 4) &&& 252645135
def sw32_4 (x : Int32) : Int32 := x + us32 x 8
def sw32_5 (x : Int32) : Int32 := x + us32 x 16
def sw32 (x : Int32) : Int32 := sw32_5 (sw32_4 (sw32_3 (sw32_2 (sw32_1 x)))) &&& 63
theorem sw32_ok : ∀ v, v < 256 → sw32 (nI v) = nI (pop 8 v) := by decide +kernel
set_option maxRecDepth 20000 in
theorem s_Jint_bitCount (d v : Nat) (hv : v < 256) (h : XH) (z : Nat) (Q : XQ) (hQ : Q (some (.int (nI (pop 8 v)))) h z) : CALL d m_Jint_bitCount [.int (nI v)] h z Q := by
  refine ⟨Nat.le_of_ble_eq_true rfl, ?_⟩
  show AR d m_Jint_bitCount 0 0 [some (.int (nI v))] [] h z Q
  rw [← sw32_ok v hv] at hQ
  generalize nI v = x at hQ ⊢
  refine run [10, 24, 34, 41, 48] 20 ok_m_Jint_bitCount (fun V hV => ?_)
  simp only [hV, sPush, sIld, sLld, sAld, sIst, sLst, sAst, sInc, sBI, sBL, sDI, sDL, sSL, sUI, sIL, sLI, sCmp, sDup, sDup2, sGo, sIf, sCm, sNul, sGet, sPut, sIal, sCal, sLal, sAal, sIas, sCas, sLas, sAas, sLen, sNew, sNar, sMna, sIns, sSw, swK, sIret, sLret, sAret, sVret, sSta, sSpe, sVir, sObj, sMax, sMin, sAcp, popN, catS, stdC, callA, gL, stI, stL, clr, cat1, cH, if_true, if_false, reduceIte, List.mem_cons, List.not_mem_nil, or_false, false_or, or_self, List.lookup_cons, List.lookup_nil, Option.toList_some, Option.toList_none, List.cons_append, List.nil_append, List.reverse_cons, List.reverse_nil, true_and, and_true, true_or, or_true, hset_s, hset_hset, List.getElem?_cons_zero, List.getElem?_cons_succ, List.set_cons_zero, List.set_cons_succ, List.length_cons, List.length_nil, beq_self_eq_true, Nat.reduceBEq, va_rf,  not_true_eq_false, not_false_eq_true, false_implies, true_implies, forall_const, ne_eq, eq_self, Nat.reduceAdd, Nat.reduceSub, Nat.reduceLeDiff, Nat.reduceLT, zlt_s, Nat.reduceEqDiff, Nat.zero_le, Nat.sub_zero, Nat.le_refl, imp_self, bI_0, nr_b, nr_b0, nr_b1, nr_i, nr_l, nr_a, nr_o, ft_i, ft_b1, ft_l, ft_a, ft_o, Classical.not_not, kb_m104, kb_m103, kb_m102, kb_m101, kb_6, kb_7, kb_8, kb_9, kb_10, kb_12, kb_16, kb_19, kb_20, kb_31, kb_32, kb_40, kb_42, kb_44, kb_47, kb_48, kb_49, kb_57, kb_63, kb_96, kb_99, kb_100, kb_103, kb_111, kb_112, kb_114, kb_116, kb_119, kb_126, kb_127, kc_m1, kc_0, kc_1, kc_2, kc_3, kc_4, kc_5, kc_6, kc_7, kc_8, kc_9, kc_10, kc_11, kc_12, kc_13, kc_14, kc_15, kc_16, kc_17, kc_18, kc_19, kc_20, kc_21, kc_22, kc_23, kc_24, kc_25, kc_26, kc_27, kc_28, kc_29, kc_103, kc_114, kc_116, kc_119, kl_0, kl_1, ks_200, ks_255, ks_288, i_Jint_bitCount_0, i_Jint_bitCount_1, i_Jint_bitCount_2, i_Jint_bitCount_3, i_Jint_bitCount_4, i_Jint_bitCount_7, i_Jint_bitCount_8, i_Jint_bitCount_9, i_Jint_bitCount_10, i_Jint_bitCount_11, i_Jint_bitCount_14, i_Jint_bitCount_15, i_Jint_bitCount_16, i_Jint_bitCount_17, i_Jint_bitCount_18, i_Jint_bitCount_21, i_Jint_bitCount_22, i_Jint_bitCount_23, i_Jint_bitCount_24, i_Jint_bitCount_25, i_Jint_bitCount_26, i_Jint_bitCount_27, i_Jint_bitCount_28, i_Jint_bitCount_29, i_Jint_bitCount_32, i_Jint_bitCount_33, i_Jint_bitCount_34, i_Jint_bitCount_35, i_Jint_bitCount_36, i_Jint_bitCount_38, i_Jint_bitCount_39, i_Jint_bitCount_40, i_Jint_bitCount_41, i_Jint_bitCount_42, i_Jint_bitCount_43, i_Jint_bitCount_45, i_Jint_bitCount_46, i_Jint_bitCount_47, i_Jint_bitCount_48, i_Jint_bitCount_49, i_Jint_bitCount_51, i_Jint_bitCount_52]
  have e1 : x - ((x.toUInt32 >>> ((1 : Int32).toUInt32 &&& Int32.toUInt32 31)).toInt32 &&& 1431655765) = sw32_1 x := rfl
  simp only [e1]
  unfold sw32 at hQ
  generalize sw32_1 x = x at hQ ⊢
  refine run [10, 24, 34, 41, 48] 20 ok_m_Jint_bitCount (fun V hV => ?_)
  simp only [hV, sPush, sIld, sLld, sAld, sIst, sLst, sAst, sInc, sBI, sBL, sDI, sDL, sSL, sUI, sIL, sLI, sCmp, sDup, sDup2, sGo, sIf, sCm, sNul, sGet, sPut, sIal, sCal, sLal, sAal, sIas, sCas, sLas, sAas, sLen, sNew, sNar, sMna, sIns, sSw, swK, sIret, sLret, sAret, sVret, sSta, sSpe, sVir, sObj, sMax, sMin, sAcp, popN, catS, stdC, callA, gL, stI, stL, clr, cat1, cH, if_true, if_false, reduceIte, List.mem_cons, List.not_mem_nil, or_false, false_or, or_self, List.lookup_cons, List.lookup_nil, Option.toList_some, Option.toList_none, List.cons_append, List.nil_append, List.reverse_cons, List.reverse_nil, true_and, and_true, true_or, or_true, hset_s, hset_hset, List.getElem?_cons_zero, List.getElem?_cons_succ, List.set_cons_zero, List.set_cons_succ, List.length_cons, List.length_nil, beq_self_eq_true, Nat.reduceBEq, va_rf,  not_true_eq_false, not_false_eq_true, false_implies, true_implies, forall_const, ne_eq, eq_self, Nat.reduceAdd, Nat.reduceSub, Nat.reduceLeDiff, Nat.reduceLT, zlt_s, Nat.reduceEqDiff, Nat.zero_le, Nat.sub_zero, Nat.le_refl, imp_self, bI_0, nr_b, nr_b0, nr_b1, nr_i, nr_l, nr_a, nr_o, ft_i, ft_b1, ft_l, ft_a, ft_o, Classical.not_not, kb_m104, kb_m103, kb_m102, kb_m101, kb_6, kb_7, kb_8, kb_9, kb_10, kb_12, kb_16, kb_19, kb_20, kb_31, kb_32, kb_40, kb_42, kb_44, kb_47, kb_48, kb_49, kb_57, kb_63, kb_96, kb_99, kb_100, kb_103, kb_111, kb_112, kb_114, kb_116, kb_119, kb_126, kb_127, kc_m1, kc_0, kc_1, kc_2, kc_3, kc_4, kc_5, kc_6, kc_7, kc_8, kc_9, kc_10, kc_11, kc_12, kc_13, kc_14, kc_15, kc_16, kc_17, kc_18, kc_19, kc_20, kc_21, kc_22, kc_23, kc_24, kc_25, kc_26, kc_27, kc_28, kc_29, kc_103, kc_114, kc_116, kc_119, kl_0, kl_1, ks_200, ks_255, ks_288, i_Jint_bitCount_0, i_Jint_bitCount_1, i_Jint_bitCount_2, i_Jint_bitCount_3, i_Jint_bitCount_4, i_Jint_bitCount_7, i_Jint_bitCount_8, i_Jint_bitCount_9, i_Jint_bitCount_10, i_Jint_bitCount_11, i_Jint_bitCount_14, i_Jint_bitCount_15, i_Jint_bitCount_16, i_Jint_bitCount_17, i_Jint_bitCount_18, i_Jint_bitCount_21, i_Jint_bitCount_22, i_Jint_bitCount_23, i_Jint_bitCount_24, i_Jint_bitCount_25, i_Jint_bitCount_26, i_Jint_bitCount_27, i_Jint_bitCount_28, i_Jint_bitCount_29, i_Jint_bitCount_32, i_Jint_bitCount_33, i_Jint_bitCount_34, i_Jint_bitCount_35, i_Jint_bitCount_36, i_Jint_bitCount_38, i_Jint_bitCount_39, i_Jint_bitCount_40, i_Jint_bitCount_41, i_Jint_bitCount_42, i_Jint_bitCount_43, i_Jint_bitCount_45, i_Jint_bitCount_46, i_Jint_bitCount_47, i_Jint_bitCount_48, i_Jint_bitCount_49, i_Jint_bitCount_51, i_Jint_bitCount_52]
  have e1 : (x &&& 858993459) + ((x.toUInt32 >>> ((2 : Int32).toUInt32 &&& Int32.toUInt32 31)).toInt32 &&& 858993459) = sw32_2 x := rfl
  simp only [e1]
  generalize sw32_2 x = x at hQ ⊢
  refine run [10, 24, 34, 41, 48] 20 ok_m_Jint_bitCount (fun V hV => ?_)
  simp only [hV, sPush, sIld, sLld, sAld, sIst, sLst, sAst, sInc, sBI, sBL, sDI, sDL, sSL, sUI, sIL, sLI, sCmp, sDup, sDup2, sGo, sIf, sCm, sNul, sGet, sPut, sIal, sCal, sLal, sAal, sIas, sCas, sLas, sAas, sLen, sNew, sNar, sMna, sIns, sSw, swK, sIret, sLret, sAret, sVret, sSta, sSpe, sVir, sObj, sMax, sMin, sAcp, popN, catS, stdC, callA, gL, stI, stL, clr, cat1, cH, if_true, if_false, reduceIte, List.mem_cons, List.not_mem_nil, or_false, false_or, or_self, List.lookup_cons, List.lookup_nil, Option.toList_some, Option.toList_none, List.cons_append, List.nil_append, List.reverse_cons, List.reverse_nil, true_and, and_true, true_or, or_true, hset_s, hset_hset, List.getElem?_cons_zero, List.getElem?_cons_succ, List.set_cons_zero, List.set_cons_succ, List.length_cons, List.length_nil, beq_self_eq_true, Nat.reduceBEq, va_rf,  not_true_eq_false, not_false_eq_true, false_implies, true_implies, forall_const, ne_eq, eq_self, Nat.reduceAdd, Nat.reduceSub, Nat.reduceLeDiff, Nat.reduceLT, zlt_s, Nat.reduceEqDiff, Nat.zero_le, Nat.sub_zero, Nat.le_refl, imp_self, bI_0, nr_b, nr_b0, nr_b1, nr_i, nr_l, nr_a, nr_o, ft_i, ft_b1, ft_l, ft_a, ft_o, Classical.not_not, kb_m104, kb_m103, kb_m102, kb_m101, kb_6, kb_7, kb_8, kb_9, kb_10, kb_12, kb_16, kb_19, kb_20, kb_31, kb_32, kb_40, kb_42, kb_44, kb_47, kb_48, kb_49, kb_57, kb_63, kb_96, kb_99, kb_100, kb_103, kb_111, kb_112, kb_114, kb_116, kb_119, kb_126, kb_127, kc_m1, kc_0, kc_1, kc_2, kc_3, kc_4, kc_5, kc_6, kc_7, kc_8, kc_9, kc_10, kc_11, kc_12, kc_13, kc_14, kc_15, kc_16, kc_17, kc_18, kc_19, kc_20, kc_21, kc_22, kc_23, kc_24, kc_25, kc_26, kc_27, kc_28, kc_29, kc_103, kc_114, kc_116, kc_119, kl_0, kl_1, ks_200, ks_255, ks_288, i_Jint_bitCount_0, i_Jint_bitCount_1, i_Jint_bitCount_2, i_Jint_bitCount_3, i_Jint_bitCount_4, i_Jint_bitCount_7, i_Jint_bitCount_8, i_Jint_bitCount_9, i_Jint_bitCount_10, i_Jint_bitCount_11, i_Jint_bitCount_14, i_Jint_bitCount_15, i_Jint_bitCount_16, i_Jint_bitCount_17, i_Jint_bitCount_18, i_Jint_bitCount_21, i_Jint_bitCount_22, i_Jint_bitCount_23, i_Jint_bitCount_24, i_Jint_bitCount_25, i_Jint_bitCount_26, i_Jint_bitCount_27, i_Jint_bitCount_28, i_Jint_bitCount_29, i_Jint_bitCount_32, i_Jint_bitCount_33, i_Jint_bitCount_34, i_Jint_bitCount_35, i_Jint_bitCount_36, i_Jint_bitCount_38, i_Jint_bitCount_39, i_Jint_bitCount_40, i_Jint_bitCount_41, i_Jint_bitCount_42, i_Jint_bitCount_43, i_Jint_bitCount_45, i_Jint_bitCount_46, i_Jint_bitCount_47, i_Jint_bitCount_48, i_Jint_bitCount_49, i_Jint_bitCount_51, i_Jint_bitCount_52]
  have e1 : (x + (x.toUInt32 >>> ((4 : Int32).toUInt32 &&& Int32.toUInt32 31)).toInt32) &&& 252645135 = sw32_3 x := rfl
  simp only [e1]
  generalize sw32_3 x = x at hQ ⊢
  refine run [10, 24, 34, 41, 48] 20 ok_m_Jint_bitCount (fun V hV => ?_)
  simp only [hV, sPush, sIld, sLld, sAld, sIst, sLst, sAst, sInc, sBI, sBL, sDI, sDL, sSL, sUI, sIL, sLI, sCmp, sDup, sDup2, sGo, sIf, sCm, sNul, sGet, sPut, sIal, sCal, sLal, sAal, sIas, sCas, sLas, sAas, sLen, sNew, sNar, sMna, sIns, sSw, swK, sIret, sLret, sAret, sVret, sSta, sSpe, sVir, sObj, sMax, sMin, sAcp, popN, catS, stdC, callA, gL, stI, stL, clr, cat1, cH, if_true, if_false, reduceIte, List.mem_cons, List.not_mem_nil, or_false, false_or, or_self, List.lookup_cons, List.lookup_nil, Option.toList_some, Option.toList_none, List.cons_append, List.nil_append, List.reverse_cons, List.reverse_nil, true_and, and_true, true_or, or_true, hset_s, hset_hset, List.getElem?_cons_zero, List.getElem?_cons_succ, List.set_cons_zero, List.set_cons_succ, List.length_cons, List.length_nil, beq_self_eq_true, Nat.reduceBEq, va_rf,  not_true_eq_false, not_false_eq_true, false_implies, true_implies, forall_const, ne_eq, eq_self, Nat.reduceAdd, Nat.reduceSub, Nat.reduceLeDiff, Nat.reduceLT, zlt_s, Nat.reduceEqDiff, Nat.zero_le, Nat.sub_zero, Nat.le_refl, imp_self, bI_0, nr_b, nr_b0, nr_b1, nr_i, nr_l, nr_a, nr_o, ft_i, ft_b1, ft_l, ft_a, ft_o, Classical.not_not, kb_m104, kb_m103, kb_m102, kb_m101, kb_6, kb_7, kb_8, kb_9, kb_10, kb_12, kb_16, kb_19, kb_20, kb_31, kb_32, kb_40, kb_42, kb_44, kb_47, kb_48, kb_49, kb_57, kb_63, kb_96, kb_99, kb_100, kb_103, kb_111, kb_112, kb_114, kb_116, kb_119, kb_126, kb_127, kc_m1, kc_0, kc_1, kc_2, kc_3, kc_4, kc_5, kc_6, kc_7, kc_8, kc_9, kc_10, kc_11, kc_12, kc_13, kc_14, kc_15, kc_16, kc_17, kc_18, kc_19, kc_20, kc_21, kc_22, kc_23, kc_24, kc_25, kc_26, kc_27, kc_28, kc_29, kc_103, kc_114, kc_116, kc_119, kl_0, kl_1, ks_200, ks_255, ks_288, i_Jint_bitCount_0, i_Jint_bitCount_1, i_Jint_bitCount_2, i_Jint_bitCount_3, i_Jint_bitCount_4, i_Jint_bitCount_7, i_Jint_bitCount_8, i_Jint_bitCount_9, i_Jint_bitCount_10, i_Jint_bitCount_11, i_Jint_bitCount_14, i_Jint_bitCount_15, i_Jint_bitCount_16, i_Jint_bitCount_17, i_Jint_bitCount_18, i_Jint_bitCount_21, i_Jint_bitCount_22, i_Jint_bitCount_23, i_Jint_bitCount_24, i_Jint_bitCount_25, i_Jint_bitCount_26, i_Jint_bitCount_27, i_Jint_bitCount_28, i_Jint_bitCount_29, i_Jint_bitCount_32, i_Jint_bitCount_33, i_Jint_bitCount_34, i_Jint_bitCount_35, i_Jint_bitCount_36, i_Jint_bitCount_38, i_Jint_bitCount_39, i_Jint_bitCount_40, i_Jint_bitCount_41, i_Jint_bitCount_42, i_Jint_bitCount_43, i_Jint_bitCount_45, i_Jint_bitCount_46, i_Jint_bitCount_47, i_Jint_bitCount_48, i_Jint_bitCount_49, i_Jint_bitCount_51, i_Jint_bitCount_52]
  have e1 : x + (x.toUInt32 >>> ((8 : Int32).toUInt32 &&& Int32.toUInt32 31)).toInt32 = sw32_4 x := rfl
  simp only [e1]
  generalize sw32_4 x = x at hQ ⊢
  refine run [10, 24, 34, 41, 48] 20 ok_m_Jint_bitCount (fun V hV => ?_)
  simp only [hV, sPush, sIld, sLld, sAld, sIst, sLst, sAst, sInc, sBI, sBL, sDI, sDL, sSL, sUI, sIL, sLI, sCmp, sDup, sDup2, sGo, sIf, sCm, sNul, sGet, sPut, sIal, sCal, sLal, sAal, sIas, sCas, sLas, sAas, sLen, sNew, sNar, sMna, sIns, sSw, swK, sIret, sLret, sAret, sVret, sSta, sSpe, sVir, sObj, sMax, sMin, sAcp, popN, catS, stdC, callA, gL, stI, stL, clr, cat1, cH, if_true, if_false, reduceIte, List.mem_cons, List.not_mem_nil, or_false, false_or, or_self, List.lookup_cons, List.lookup_nil, Option.toList_some, Option.toList_none, List.cons_append, List.nil_append, List.reverse_cons, List.reverse_nil, true_and, and_true, true_or, or_true, hset_s, hset_hset, List.getElem?_cons_zero, List.getElem?_cons_succ, List.set_cons_zero, List.set_cons_succ, List.length_cons, List.length_nil, beq_self_eq_true, Nat.reduceBEq, va_rf,  not_true_eq_false, not_false_eq_true, false_implies, true_implies, forall_const, ne_eq, eq_self, Nat.reduceAdd, Nat.reduceSub, Nat.reduceLeDiff, Nat.reduceLT, zlt_s, Nat.reduceEqDiff, Nat.zero_le, Nat.sub_zero, Nat.le_refl, imp_self, bI_0, nr_b, nr_b0, nr_b1, nr_i, nr_l, nr_a, nr_o, ft_i, ft_b1, ft_l, ft_a, ft_o, Classical.not_not, kb_m104, kb_m103, kb_m102, kb_m101, kb_6, kb_7, kb_8, kb_9, kb_10, kb_12, kb_16, kb_19, kb_20, kb_31, kb_32, kb_40, kb_42, kb_44, kb_47, kb_48, kb_49, kb_57, kb_63, kb_96, kb_99, kb_100, kb_103, kb_111, kb_112, kb_114, kb_116, kb_119, kb_126, kb_127, kc_m1, kc_0, kc_1, kc_2, kc_3, kc_4, kc_5, kc_6, kc_7, kc_8, kc_9, kc_10, kc_11, kc_12, kc_13, kc_14, kc_15, kc_16, kc_17, kc_18, kc_19, kc_20, kc_21, kc_22, kc_23, kc_24, kc_25, kc_26, kc_27, kc_28, kc_29, kc_103, kc_114, kc_116, kc_119, kl_0, kl_1, ks_200, ks_255, ks_288, i_Jint_bitCount_0, i_Jint_bitCount_1, i_Jint_bitCount_2, i_Jint_bitCount_3, i_Jint_bitCount_4, i_Jint_bitCount_7, i_Jint_bitCount_8, i_Jint_bitCount_9, i_Jint_bitCount_10, i_Jint_bitCount_11, i_Jint_bitCount_14, i_Jint_bitCount_15, i_Jint_bitCount_16, i_Jint_bitCount_17, i_Jint_bitCount_18, i_Jint_bitCount_21, i_Jint_bitCount_22, i_Jint_bitCount_23, i_Jint_bitCount_24, i_Jint_bitCount_25, i_Jint_bitCount_26, i_Jint_bitCount_27, i_Jint_bitCount_28, i_Jint_bitCount_29, i_Jint_bitCount_32, i_Jint_bitCount_33, i_Jint_bitCount_34, i_Jint_bitCount_35, i_Jint_bitCount_36, i_Jint_bitCount_38, i_Jint_bitCount_39, i_Jint_bitCount_40, i_Jint_bitCount_41, i_Jint_bitCount_42, i_Jint_bitCount_43, i_Jint_bitCount_45, i_Jint_bitCount_46, i_Jint_bitCount_47, i_Jint_bitCount_48, i_Jint_bitCount_49, i_Jint_bitCount_51, i_Jint_bitCount_52]
  have e1 : x + (x.toUInt32 >>> ((16 : Int32).toUInt32 &&& Int32.toUInt32 31)).toInt32 = sw32_5 x := rfl
  simp only [e1]
  generalize sw32_5 x = x at hQ ⊢
  refine run [10, 24, 34, 41] 20 ok_m_Jint_bitCount (fun V hV => ?_)
  simp only [hV, sPush, sIld, sLld, sAld, sIst, sLst, sAst, sInc, sBI, sBL, sDI, sDL, sSL, sUI, sIL, sLI, sCmp, sDup, sDup2, sGo, sIf, sCm, sNul, sGet, sPut, sIal, sCal, sLal, sAal, sIas, sCas, sLas, sAas, sLen, sNew, sNar, sMna, sIns, sSw, swK, sIret, sLret, sAret, sVret, sSta, sSpe, sVir, sObj, sMax, sMin, sAcp, popN, catS, stdC, callA, gL, stI, stL, clr, cat1, cH, if_true, if_false, reduceIte, List.mem_cons, List.not_mem_nil, or_false, false_or, or_self, List.lookup_cons, List.lookup_nil, Option.toList_some, Option.toList_none, List.cons_append, List.nil_append, List.reverse_cons, List.reverse_nil, true_and, and_true, true_or, or_true, hset_s, hset_hset, List.getElem?_cons_zero, List.getElem?_cons_succ, List.set_cons_zero, List.set_cons_succ, List.length_cons, List.length_nil, beq_self_eq_true, Nat.reduceBEq, va_rf,  not_true_eq_false, not_false_eq_true, false_implies, true_implies, forall_const, ne_eq, eq_self, Nat.reduceAdd, Nat.reduceSub, Nat.reduceLeDiff, Nat.reduceLT, zlt_s, Nat.reduceEqDiff, Nat.zero_le, Nat.sub_zero, Nat.le_refl, imp_self, bI_0, nr_b, nr_b0, nr_b1, nr_i, nr_l, nr_a, nr_o, ft_i, ft_b1, ft_l, ft_a, ft_o, Classical.not_not, kb_m104, kb_m103, kb_m102, kb_m101, kb_6, kb_7, kb_8, kb_9, kb_10, kb_12, kb_16, kb_19, kb_20, kb_31, kb_32, kb_40, kb_42, kb_44, kb_47, kb_48, kb_49, kb_57, kb_63, kb_96, kb_99, kb_100, kb_103, kb_111, kb_112, kb_114, kb_116, kb_119, kb_126, kb_127, kc_m1, kc_0, kc_1, kc_2, kc_3, kc_4, kc_5, kc_6, kc_7, kc_8, kc_9, kc_10, kc_11, kc_12, kc_13, kc_14, kc_15, kc_16, kc_17, kc_18, kc_19, kc_20, kc_21, kc_22, kc_23, kc_24, kc_25, kc_26, kc_27, kc_28, kc_29, kc_103, kc_114, kc_116, kc_119, kl_0, kl_1, ks_200, ks_255, ks_288, i_Jint_bitCount_0, i_Jint_bitCount_1, i_Jint_bitCount_2, i_Jint_bitCount_3, i_Jint_bitCount_4, i_Jint_bitCount_7, i_Jint_bitCount_8, i_Jint_bitCount_9, i_Jint_bitCount_10, i_Jint_bitCount_11, i_Jint_bitCount_14, i_Jint_bitCount_15, i_Jint_bitCount_16, i_Jint_bitCount_17, i_Jint_bitCount_18, i_Jint_bitCount_21, i_Jint_bitCount_22, i_Jint_bitCount_23, i_Jint_bitCount_24, i_Jint_bitCount_25, i_Jint_bitCount_26, i_Jint_bitCount_27, i_Jint_bitCount_28, i_Jint_bitCount_29, i_Jint_bitCount_32, i_Jint_bitCount_33, i_Jint_bitCount_34, i_Jint_bitCount_35, i_Jint_bitCount_36, i_Jint_bitCount_38, i_Jint_bitCount_39, i_Jint_bitCount_40, i_Jint_bitCount_41, i_Jint_bitCount_42, i_Jint_bitCount_43, i_Jint_bitCount_45, i_Jint_bitCount_46, i_Jint_bitCount_47, i_Jint_bitCount_48, i_Jint_bitCount_49, i_Jint_bitCount_51, i_Jint_bitCount_52]
  exact hQ
/-! the long's: byte by byte -/
def bmk (c : Nat) : Nat → Nat
  | 0 => 0
  | n + 1 => c + 256 * bmk c n
theorem and_split {lo hi c m : Nat} (h1 : lo < 256) (h2 : c < 256) : (lo + 256 * hi) &&& (c + 256 * m) = (lo &&& c) + 256 * (hi &&& m) := by
  have h3 : lo &&& c < 2 ^ 8 := Nat.and_lt_two_pow _ h2
  apply Nat.eq_of_testBit_eq
  intro j
  rw [Nat.testBit_and, show lo + 256 * hi = 2 ^ 8 * hi + lo by omega, show c + 256 * m = 2 ^ 8 * m + c by omega, show (lo &&& c) + 256 * (hi &&& m) = 2 ^ 8 * (hi &&& m) + (lo &&& c) by omega, Nat.testBit_two_pow_mul_add _ h1, Nat.testBit_two_pow_mul_add _ h2, Nat.testBit_two_pow_mul_add _ h3]
  split
  · rw [Nat.testBit_and]
  · rw [Nat.testBit_and]
def zb (b : Nat) : Nat := (b - (b / 2 &&& 0x55) &&& 0x33) + ((b - (b / 2 &&& 0x55)) / 4 &&& 0x33)
def f1 (m x : Nat) : Nat := x - (x / 2 &&& m)
def f2 (m x : Nat) : Nat := (x &&& m) + (x / 4 &&& m)
def f3 (m x : Nat) : Nat := (x + x / 16) &&& m
theorem byte1 : ∀ p, p < 2 → ∀ l, l < 128 → (128 * p + l) &&& 0x55 = l &&& 0x55 := by decide +kernel
theorem byte1b : ∀ l, l < 256 → (l / 2 &&& 0x55) ≤ l := by decide +kernel
theorem byte2 : ∀ p, p < 4 → ∀ l, l < 64 → (64 * p + l) &&& 0x33 = l &&& 0x33 := by decide +kernel
theorem byte2b : ∀ l, l < 256 → (l &&& 0x33) + (l / 4 &&& 0x33) < 256 := by decide +kernel
theorem byte3 : ∀ l, l < 256 → zb l % 16 ≤ 4 ∧ zb l / 16 ≤ 4 := by decide +kernel
theorem byte3b : ∀ p, p < 5 → ∀ l, l < 256 → (zb l + zb l / 16 + 16 * p) &&& 15 = pop 8 l := by decide +kernel
theorem and_le_half (x m : Nat) : (x / 2 &&& m) ≤ x := Nat.le_trans Nat.and_le_left (Nat.div_le_self _ _)
theorem f1_step {lo hi m : Nat} (h : lo < 256) : f1 (0x55 + 256 * m) (lo + 256 * hi) = (lo - (lo / 2 &&& 0x55)) + 256 * f1 m hi := by
  unfold f1
  have e : (lo + 256 * hi) / 2 = (128 * (hi % 2) + lo / 2) + 256 * (hi / 2) := by omega
  rw [e, and_split (by omega) (by omega), byte1 _ (by omega) _ (by omega)]
  have := byte1b lo h
  have := and_le_half hi m
  omega
theorem f2_step {lo hi m : Nat} (h : lo < 256) : f2 (0x33 + 256 * m) (lo + 256 * hi) = ((lo &&& 0x33) + (lo / 4 &&& 0x33)) + 256 * f2 m hi := by
  unfold f2
  have e : (lo + 256 * hi) / 4 = (64 * (hi % 4) + lo / 4) + 256 * (hi / 4) := by omega
  rw [e, and_split h (by omega), and_split (by omega) (by omega), byte2 _ (by omega) _ (by omega)]
  omega
def Zr : Nat → Nat → Nat
  | 0, _ => 0
  | n + 1, x => zb (x % 256) + 256 * Zr n (x / 256)
def Pr8 : Nat → Nat → Nat
  | 0, _ => 0
  | n + 1, x => pop 8 (x % 256) + 256 * Pr8 n (x / 256)
theorem zr_ok : ∀ (n x : Nat), x < 256 ^ n → f2 (bmk 0x33 n) (f1 (bmk 0x55 n) x) = Zr n x
  | 0, x, h => by
    have : x = 0 := by simpa using h
    subst this
    rfl
  | n + 1, x, h => by
    have hx : x = x % 256 + 256 * (x / 256) := by omega
    have h' : x / 256 < 256 ^ n := by
      rw [Nat.pow_succ] at h
      omega
    have hb : x % 256 < 256 := by omega
    rw [show f1 (bmk 0x55 (n + 1)) x = f1 (bmk 0x55 (n + 1)) (x % 256 + 256 * (x / 256)) by rw [← hx], show bmk 0x55 (n + 1) = 0x55 + 256 * bmk 0x55 n from rfl, f1_step hb, show bmk 0x33 (n + 1) = 0x33 + 256 * bmk 0x33 n from rfl, f2_step (by omega), zr_ok n _ h']
    rfl
theorem zr_lo (n x : Nat) : Zr n x % 16 ≤ 4 := by
  cases n with
  | zero => simp [Zr]
  | succ n =>
    have := (byte3 (x % 256) (by omega)).1
    unfold Zr
    omega
theorem pr_ok : ∀ (n x : Nat), f3 (bmk 15 n) (Zr n x) = Pr8 n x
  | 0, x => by simp [f3, Zr, Pr8, bmk]
  | n + 1, x => by
    unfold f3 Zr Pr8
    have h1 := byte3 (x % 256) (by omega)
    have h2 := zr_lo n (x / 256)
    have h3 := pr_ok n (x / 256)
    have h4 := byte3b (Zr n (x / 256) % 16) (by omega) (x % 256) (by omega)
    unfold f3 at h3
    rw [show zb (x % 256) + 256 * Zr n (x / 256) + (zb (x % 256) + 256 * Zr n (x / 256)) / 16 = (zb (x % 256) + zb (x % 256) / 16 + 16 * (Zr n (x / 256) % 16)) + 256 * (Zr n (x / 256) + Zr n (x / 256) / 16) by omega, show bmk 15 (n + 1) = 15 + 256 * bmk 15 n from rfl, and_split (by omega) (by omega), h4, h3]
/-- how many of the first n -/
def cnt : Nat → (Nat → Bool) → Nat
  | 0, _ => 0
  | n + 1, p => cnt n p + (if p n then 1 else 0)
theorem cnt_le : ∀ n p, cnt n p ≤ n := by
  intro n p
  induction n with
  | zero => exact Nat.le_refl _
  | succ n ih => unfold cnt; split <;> omega
theorem cnt_c : ∀ {n : Nat} {p q : Nat → Bool}, (∀ i, i < n → p i = q i) → cnt n p = cnt n q := by
  intro n p q h
  induction n with
  | zero => rfl
  | succ n ih =>
    unfold cnt
    rw [ih (fun i hi => h i (by omega)), h n (by omega)]
theorem cnt_add (m n : Nat) (p : Nat → Bool) : cnt (m + n) p = cnt m p + cnt n (fun i => p (m + i)) := by
  induction n with
  | zero => simp [cnt]
  | succ n ih => rw [← Nat.add_assoc, cnt, cnt, ih, Nat.add_assoc]
theorem pop_cnt : ∀ k v, pop k v = cnt k (fun i => v.testBit i) := by
  intro k v
  induction k with
  | zero => rfl
  | succ k ih => unfold pop cnt; rw [ih]
theorem byte_bit (x k i : Nat) (hi : i < 8) : (x / 256 ^ k % 256).testBit i = x.testBit (8 * k + i) := by
  rw [show (256 : Nat) ^ k = 2 ^ (8 * k) by rw [Nat.pow_mul], show (256 : Nat) = 2 ^ 8 from rfl, Nat.testBit_mod_two_pow, Nat.testBit_div_two_pow]
  simp [hi, Nat.add_comm]
theorem sum8 (x : Nat) : pop 8 (x % 256) + pop 8 (x / 256 % 256) + pop 8 (x / 256 / 256 % 256) + pop 8 (x / 256 / 256 / 256 % 256) + pop 8 (x / 256 / 256 / 256 / 256 % 256) + pop 8 (x / 256 / 256 / 256 / 256 / 256 % 256) + pop 8 (x / 256 / 256 / 256 / 256 / 256 / 256 % 256) + pop 8 (x / 256 / 256 / 256 / 256 / 256 / 256 / 256 % 256) = cnt 64 (fun i => x.testBit i) := by
  have b : ∀ k, pop 8 (x / 256 ^ k % 256) = cnt 8 (fun i => x.testBit (8 * k + i)) := fun k => by
    rw [pop_cnt]
    exact cnt_c fun i hi => byte_bit x k i hi
  have b0 := b 0; have b1 := b 1; have b2 := b 2; have b3 := b 3; have b4 := b 4; have b5 := b 5; have b6 := b 6; have b7 := b 7
  simp only [Nat.pow_zero, Nat.div_one, Nat.pow_succ, Nat.one_mul, ← Nat.div_div_eq_div_mul] at b0 b1 b2 b3 b4 b5 b6 b7
  rw [b0, b1, b2, b3, b4, b5, b6, b7]
  have e : cnt 64 (fun i => x.testBit i) = cnt (8 + (8 + (8 + (8 + (8 + (8 + (8 + 8))))))) (fun i => x.testBit i) := rfl
  rw [e]
  simp only [cnt_add]
  simp only [← Nat.add_assoc, Nat.mul_zero, Nat.zero_add, Nat.mul_one, Nat.reduceMul, Nat.reduceAdd]
def uN (x : Int64) : Nat := x.toBitVec.toNat
theorem uN_lt (x : Int64) : uN x < 2 ^ 64 := x.toBitVec.isLt
theorem uN_tb (x : Int64) (i : Nat) : tb x i = (uN x).testBit i := rfl
theorem uN_and (x y : Int64) : uN (x &&& y) = uN x &&& uN y := by
  unfold uN
  rw [Int64.toBitVec_and, BitVec.toNat_and]
theorem uN_add (x y : Int64) (h : uN x + uN y < 2 ^ 64) : uN (x + y) = uN x + uN y := by
  unfold uN at h ⊢
  rw [Int64.toBitVec_add, BitVec.toNat_add, Nat.mod_eq_of_lt h]
theorem uN_sub (x y : Int64) (h : uN y ≤ uN x) : uN (x - y) = uN x - uN y := by
  have := uN_lt x
  unfold uN at h this ⊢
  rw [Int64.toBitVec_sub, BitVec.toNat_sub]
  omega
def usl (y : Int64) (s : Int32) : Int64 := (y.toUInt64 >>> (s.toInt64.toUInt64 &&& Int64.toUInt64 63)).toInt64
theorem uN_usl (x : Int64) {k : Nat} (hk : k < 64) : uN (usl x (nI k)) = uN x / 2 ^ k := by
  show (x.toUInt64 >>> _).toNat = _
  rw [UInt64.toNat_shiftRight, sh_u k hk, Nat.mod_eq_of_lt hk, Nat.shiftRight_eq_div_pow]
  rfl
def sw64_1 (x : Int64) : Int64 := x - (usl x 1 &&& 6148914691236517205)
def sw64_2 (x : Int64) : Int64 := (x &&& 3689348814741910323) + (usl x 2 &&& 3689348814741910323)
def sw64_3 (x : Int64) : Int64 := (x + usl x 4) &&& 1085102592571150095
def sw64_4 (x : Int64) : Int64 := x + usl x 8
def sw64_5 (x : Int64) : Int64 := x + usl x 16
def sw64_6 (x : Int64) : Int64 := x + usl x 32
def sw64 (x : Int64) : Int32 := (sw64_6 (sw64_5 (sw64_4 (sw64_3 (sw64_2 (sw64_1 x)))))).toInt32 &&& 127
theorem low7 (x : Int64) : x.toInt32 &&& 127 = nI (uN x % 128) := by
  apply Int32.toBitVec_inj.mp
  apply BitVec.eq_of_toNat_eq
  rw [Int32.toBitVec_and, BitVec.toNat_and]
  show (x.toInt32.toBitVec.toNat &&& 127) = (BitVec.ofNat 32 (uN x % 128)).toNat
  have e : x.toInt32.toBitVec = x.toBitVec.setWidth 32 := by
    rw [Int64.toBitVec_toInt32]
    exact BitVec.signExtend_eq_setWidth_of_le _ (by omega)
  rw [e, BitVec.toNat_setWidth, BitVec.toNat_ofNat, show (127 : Nat) = 2 ^ 7 - 1 from rfl, Nat.and_two_pow_sub_one_eq_mod]
  unfold uN
  omega
def hor : List Nat → Nat
  | [] => 0
  | p :: r => p + 256 * hor r
theorem hor_d {p : Nat} {r : List Nat} (h : p < 256) : hor (p :: r) / 256 = hor r := by
  show (p + 256 * hor r) / 256 = hor r
  omega
theorem hor_b : ∀ {l : List Nat}, (∀ p ∈ l, p < 256) → hor l < 256 ^ l.length
  | [], _ => by simp [hor]
  | p :: r, h => by
    have h1 := h p List.mem_cons_self
    have h2 := hor_b (l := r) (fun q hq => h q (List.mem_cons_of_mem _ hq))
    rw [List.length_cons, Nat.pow_succ]
    unfold hor
    omega
theorem hor_1 (p0 p1 p2 p3 p4 p5 p6 p7 : Nat) : hor [p0, p1, p2, p3, p4, p5, p6, p7] + hor [p1, p2, p3, p4, p5, p6, p7] = hor [p0 + p1, p1 + p2, p2 + p3, p3 + p4, p4 + p5, p5 + p6, p6 + p7, p7] := by
  simp only [hor]
  omega
theorem hor_2 (p0 p1 p2 p3 p4 p5 p6 p7 : Nat) : hor [p0, p1, p2, p3, p4, p5, p6, p7] + hor [p2, p3, p4, p5, p6, p7] = hor [p0 + p2, p1 + p3, p2 + p4, p3 + p5, p4 + p6, p5 + p7, p6, p7] := by
  simp only [hor]
  omega
theorem hor_4 (p0 p1 p2 p3 p4 p5 p6 p7 : Nat) : hor [p0, p1, p2, p3, p4, p5, p6, p7] + hor [p4, p5, p6, p7] = hor [p0 + p4, p1 + p5, p2 + p6, p3 + p7, p4, p5, p6, p7] := by
  simp only [hor]
  omega
theorem hor_m {p : Nat} {r : List Nat} (h : p < 128) : hor (p :: r) % 128 = p := by
  show (p + 256 * hor r) % 128 = p
  omega
theorem hor8 {a b c d e f g i : Nat} (h : a < 256 ∧ b < 256 ∧ c < 256 ∧ d < 256 ∧ e < 256 ∧ f < 256 ∧ g < 256 ∧ i < 256) : hor [a, b, c, d, e, f, g, i] < 2 ^ 64 := by
  have := hor_b (l := [a, b, c, d, e, f, g, i]) (by simp; omega)
  simpa using this
theorem fold8 {p0 p1 p2 p3 p4 p5 p6 p7 : Nat} (h : p0 ≤ 8 ∧ p1 ≤ 8 ∧ p2 ≤ 8 ∧ p3 ≤ 8 ∧ p4 ≤ 8 ∧ p5 ≤ 8 ∧ p6 ≤ 8 ∧ p7 ≤ 8) : ∃ V V1 V2 V3 : Nat, V = hor [p0, p1, p2, p3, p4, p5, p6, p7] ∧ V1 = V + V / 2 ^ 8 ∧ V2 = V1 + V1 / 2 ^ 16 ∧ V3 = V2 + V2 / 2 ^ 32 ∧ V3 % 128 = p0 + p1 + p2 + p3 + p4 + p5 + p6 + p7 ∧ V1 < 2 ^ 64 ∧ V2 < 2 ^ 64 ∧ V3 < 2 ^ 64 := by
  refine ⟨_, _, _, _, rfl, rfl, rfl, rfl, ?_⟩
  have d8 : (2 : Nat) ^ 8 = 256 := rfl
  have d16 : (2 : Nat) ^ 16 = 256 * 256 := rfl
  have d32 : (2 : Nat) ^ 32 = 256 * 256 * 256 * 256 := rfl
  rw [d8, d16, d32]
  rw [hor_d (by omega), hor_1, ← Nat.div_div_eq_div_mul, hor_d (by omega), hor_d (by omega), hor_2, ← Nat.div_div_eq_div_mul, ← Nat.div_div_eq_div_mul, ← Nat.div_div_eq_div_mul, hor_d (by omega), hor_d (by omega), hor_d (by omega), hor_d (by omega), hor_4]
  refine ⟨?_, hor8 (by omega), hor8 (by omega), hor8 (by omega)⟩
  rw [hor_m (by omega)]
  omega
set_option maxRecDepth 20000 in
theorem zlt : ∀ n x, Zr n x * 255 + 68 ≤ 68 * 256 ^ n := by
  intro n
  induction n with
  | zero => intro x; simp [Zr]
  | succ n ih =>
    intro x
    have h1 := byte3 (x % 256) (by omega)
    have h2 := ih (x / 256)
    have h3 : zb (x % 256) ≤ 68 := by omega
    show (zb (x % 256) + 256 * Zr n (x / 256)) * 255 + 68 ≤ 68 * 256 ^ (n + 1)
    rw [Nat.pow_succ]
    clear h1 ih
    generalize Zr n (x / 256) = y at h2 ⊢
    generalize zb (x % 256) = q at h3 ⊢
    generalize 256 ^ n = r at h2 ⊢
    omega
theorem sw64_ok (x : Int64) : sw64 x = nI (cnt 64 (tb x)) := by
  have hx := uN_lt x
  have hx' : uN x < 256 ^ 8 := hx
  have hz := zr_ok 8 (uN x) hx'
  have hp := pr_ok 8 (uN x)
  have hs := sum8 (uN x)
  have k1 : uN 6148914691236517205 = bmk 0x55 8 := by decide
  have k2 : uN 3689348814741910323 = bmk 0x33 8 := by decide
  have k3 : uN 1085102592571150095 = bmk 15 8 := by decide
  have g1 : uN (sw64_1 x) = f1 (bmk 0x55 8) (uN x) := by
    unfold sw64_1 f1
    have e : uN (usl x 1 &&& 6148914691236517205) = uN x / 2 &&& bmk 0x55 8 := by rw [uN_and, k1, show (1 : Int32) = nI 1 from rfl, uN_usl x (by omega)]
    rw [uN_sub _ _ (by rw [e]; exact and_le_half _ _), e]
  unfold sw64
  generalize sw64_1 x = y at g1 ⊢
  have g2 : uN (sw64_2 y) = f2 (bmk 0x33 8) (uN y) := by
    unfold sw64_2 f2
    have e1 : uN (y &&& 3689348814741910323) = uN y &&& bmk 0x33 8 := by rw [uN_and, k2]
    have e2 : uN (usl y 2 &&& 3689348814741910323) = uN y / 4 &&& bmk 0x33 8 := by rw [uN_and, k2, show (2 : Int32) = nI 2 from rfl, uN_usl y (by omega)]
    have b1 : uN y &&& bmk 0x33 8 ≤ bmk 0x33 8 := Nat.and_le_right
    have b2 : uN y / 4 &&& bmk 0x33 8 ≤ bmk 0x33 8 := Nat.and_le_right
    have b3 : bmk 0x33 8 = 3689348814741910323 := by decide
    rw [uN_add _ _ (by rw [e1, e2]; omega), e1, e2]
  rw [g1, hz] at g2
  generalize sw64_2 y = y at g2 ⊢
  have z8 := zlt 8 (uN x)
  have z9 : Zr 8 (uN x) < 2 ^ 63 := by
    have : (256 : Nat) ^ 8 = 18446744073709551616 := by decide
    rw [this] at z8
    omega
  have g3 : uN (sw64_3 y) = f3 (bmk 15 8) (uN y) := by
    unfold sw64_3 f3
    have e1 : uN (usl y 4) = uN y / 16 := by rw [show (4 : Int32) = nI 4 from rfl, uN_usl y (by omega)]
    have b1 : uN y / 16 ≤ uN y := Nat.div_le_self _ _
    rw [uN_and, k3, uN_add _ _ (by rw [e1]; rw [g2]; rw [g2] at b1; omega), e1]
  rw [g2, hp] at g3
  generalize sw64_3 y = y at g3 ⊢
  have hh : Pr8 8 (uN x) = hor [pop 8 (uN x % 256), pop 8 (uN x / 256 % 256), pop 8 (uN x / 256 / 256 % 256), pop 8 (uN x / 256 / 256 / 256 % 256), pop 8 (uN x / 256 / 256 / 256 / 256 % 256), pop 8 (uN x / 256 / 256 / 256 / 256 / 256 % 256), pop 8 (uN x / 256 / 256 / 256 / 256 / 256 / 256 % 256), pop 8 (uN x / 256 / 256 / 256 / 256 / 256 / 256 / 256 % 256)] := by
    simp only [Pr8, hor]
  obtain ⟨V, V1, V2, V3, w0, w1, w2, w3, w4, w5, w6, w7⟩ := fold8 ⟨pop8_le 8 (uN x % 256), pop8_le 8 (uN x / 256 % 256), pop8_le 8 (uN x / 256 / 256 % 256), pop8_le 8 (uN x / 256 / 256 / 256 % 256), pop8_le 8 (uN x / 256 / 256 / 256 / 256 % 256), pop8_le 8 (uN x / 256 / 256 / 256 / 256 / 256 % 256), pop8_le 8 (uN x / 256 / 256 / 256 / 256 / 256 / 256 % 256), pop8_le 8 (uN x / 256 / 256 / 256 / 256 / 256 / 256 / 256 % 256)⟩
  rw [hh, ← w0] at g3
  rw [hs] at w4
  clear hh w0 hs hp hz g2 z8 z9
  have g4 : uN (sw64_4 y) = V1 := by
    unfold sw64_4
    have e1 : uN (usl y 8) = uN y / 2 ^ 8 := by rw [show (8 : Int32) = nI 8 from rfl, uN_usl y (by omega)]
    rw [uN_add _ _ (by rw [e1, g3, ← w1]; exact w5), e1, g3, ← w1]
  generalize sw64_4 y = y at g4 ⊢
  have g5 : uN (sw64_5 y) = V2 := by
    unfold sw64_5
    have e1 : uN (usl y 16) = uN y / 2 ^ 16 := by rw [show (16 : Int32) = nI 16 from rfl, uN_usl y (by omega)]
    rw [uN_add _ _ (by rw [e1, g4, ← w2]; exact w6), e1, g4, ← w2]
  generalize sw64_5 y = y at g5 ⊢
  have g6 : uN (sw64_6 y) = V3 := by
    unfold sw64_6
    have e1 : uN (usl y 32) = uN y / 2 ^ 32 := by rw [show (32 : Int32) = nI 32 from rfl, uN_usl y (by omega)]
    rw [uN_add _ _ (by rw [e1, g5, ← w3]; exact w7), e1, g5, ← w3]
  rw [low7, g6, w4]
  rfl
set_option maxRecDepth 20000 in
theorem s_Jlong_bitCount (d : Nat) (w : Int64) (P : Nat → Bool) (hw : LB w P) (h : XH) (z : Nat) (Q : XQ) (hQ : Q (some (.int (nI (cnt 64 P)))) h z) : CALL d m_Jlong_bitCount [.long w] h z Q := by
  refine ⟨Nat.le_of_ble_eq_true rfl, ?_⟩
  show AR d m_Jlong_bitCount 0 0 [some (.long w), none] [] h z Q
  rw [← cnt_c (p := tb w) (fun i hi => hw i hi), ← sw64_ok w] at hQ
  clear hw
  refine run [10, 24, 34, 41, 48, 55] 20 ok_m_Jlong_bitCount (fun V hV => ?_)
  simp only [hV, sPush, sIld, sLld, sAld, sIst, sLst, sAst, sInc, sBI, sBL, sDI, sDL, sSL, sUI, sIL, sLI, sCmp, sDup, sDup2, sGo, sIf, sCm, sNul, sGet, sPut, sIal, sCal, sLal, sAal, sIas, sCas, sLas, sAas, sLen, sNew, sNar, sMna, sIns, sSw, swK, sIret, sLret, sAret, sVret, sSta, sSpe, sVir, sObj, sMax, sMin, sAcp, popN, catS, stdC, callA, gL, stI, stL, clr, cat1, cH, if_true, if_false, reduceIte, List.mem_cons, List.not_mem_nil, or_false, false_or, or_self, List.lookup_cons, List.lookup_nil, Option.toList_some, Option.toList_none, List.cons_append, List.nil_append, List.reverse_cons, List.reverse_nil, true_and, and_true, true_or, or_true, hset_s, hset_hset, List.getElem?_cons_zero, List.getElem?_cons_succ, List.set_cons_zero, List.set_cons_succ, List.length_cons, List.length_nil, beq_self_eq_true, Nat.reduceBEq, va_rf,  not_true_eq_false, not_false_eq_true, false_implies, true_implies, forall_const, ne_eq, eq_self, Nat.reduceAdd, Nat.reduceSub, Nat.reduceLeDiff, Nat.reduceLT, zlt_s, Nat.reduceEqDiff, Nat.zero_le, Nat.sub_zero, Nat.le_refl, imp_self, bI_0, nr_b, nr_b0, nr_b1, nr_i, nr_l, nr_a, nr_o, ft_i, ft_b1, ft_l, ft_a, ft_o, Classical.not_not, kb_m104, kb_m103, kb_m102, kb_m101, kb_6, kb_7, kb_8, kb_9, kb_10, kb_12, kb_16, kb_19, kb_20, kb_31, kb_32, kb_40, kb_42, kb_44, kb_47, kb_48, kb_49, kb_57, kb_63, kb_96, kb_99, kb_100, kb_103, kb_111, kb_112, kb_114, kb_116, kb_119, kb_126, kb_127, kc_m1, kc_0, kc_1, kc_2, kc_3, kc_4, kc_5, kc_6, kc_7, kc_8, kc_9, kc_10, kc_11, kc_12, kc_13, kc_14, kc_15, kc_16, kc_17, kc_18, kc_19, kc_20, kc_21, kc_22, kc_23, kc_24, kc_25, kc_26, kc_27, kc_28, kc_29, kc_103, kc_114, kc_116, kc_119, kl_0, kl_1, ks_200, ks_255, ks_288, i_Jlong_bitCount_0, i_Jlong_bitCount_1, i_Jlong_bitCount_2, i_Jlong_bitCount_3, i_Jlong_bitCount_4, i_Jlong_bitCount_7, i_Jlong_bitCount_8, i_Jlong_bitCount_9, i_Jlong_bitCount_10, i_Jlong_bitCount_11, i_Jlong_bitCount_14, i_Jlong_bitCount_15, i_Jlong_bitCount_16, i_Jlong_bitCount_17, i_Jlong_bitCount_18, i_Jlong_bitCount_21, i_Jlong_bitCount_22, i_Jlong_bitCount_23, i_Jlong_bitCount_24, i_Jlong_bitCount_25, i_Jlong_bitCount_26, i_Jlong_bitCount_27, i_Jlong_bitCount_28, i_Jlong_bitCount_29, i_Jlong_bitCount_32, i_Jlong_bitCount_33, i_Jlong_bitCount_34, i_Jlong_bitCount_35, i_Jlong_bitCount_36, i_Jlong_bitCount_38, i_Jlong_bitCount_39, i_Jlong_bitCount_40, i_Jlong_bitCount_41, i_Jlong_bitCount_42, i_Jlong_bitCount_43, i_Jlong_bitCount_45, i_Jlong_bitCount_46, i_Jlong_bitCount_47, i_Jlong_bitCount_48, i_Jlong_bitCount_49, i_Jlong_bitCount_50, i_Jlong_bitCount_52, i_Jlong_bitCount_53, i_Jlong_bitCount_54, i_Jlong_bitCount_55, i_Jlong_bitCount_56, i_Jlong_bitCount_57, i_Jlong_bitCount_59, i_Jlong_bitCount_60]
  have e1 : w - ((w.toUInt64 >>> ((1 : Int32).toInt64.toUInt64 &&& Int64.toUInt64 63)).toInt64 &&& 6148914691236517205) = sw64_1 w := rfl
  simp only [e1]
  unfold sw64 at hQ
  generalize sw64_1 w = x at hQ ⊢
  refine run [10, 24, 34, 41, 48, 55] 20 ok_m_Jlong_bitCount (fun V hV => ?_)
  simp only [hV, sPush, sIld, sLld, sAld, sIst, sLst, sAst, sInc, sBI, sBL, sDI, sDL, sSL, sUI, sIL, sLI, sCmp, sDup, sDup2, sGo, sIf, sCm, sNul, sGet, sPut, sIal, sCal, sLal, sAal, sIas, sCas, sLas, sAas, sLen, sNew, sNar, sMna, sIns, sSw, swK, sIret, sLret, sAret, sVret, sSta, sSpe, sVir, sObj, sMax, sMin, sAcp, popN, catS, stdC, callA, gL, stI, stL, clr, cat1, cH, if_true, if_false, reduceIte, List.mem_cons, List.not_mem_nil, or_false, false_or, or_self, List.lookup_cons, List.lookup_nil, Option.toList_some, Option.toList_none, List.cons_append, List.nil_append, List.reverse_cons, List.reverse_nil, true_and, and_true, true_or, or_true, hset_s, hset_hset, List.getElem?_cons_zero, List.getElem?_cons_succ, List.set_cons_zero, List.set_cons_succ, List.length_cons, List.length_nil, beq_self_eq_true, Nat.reduceBEq, va_rf,  not_true_eq_false, not_false_eq_true, false_implies, true_implies, forall_const, ne_eq, eq_self, Nat.reduceAdd, Nat.reduceSub, Nat.reduceLeDiff, Nat.reduceLT, zlt_s, Nat.reduceEqDiff, Nat.zero_le, Nat.sub_zero, Nat.le_refl, imp_self, bI_0, nr_b, nr_b0, nr_b1, nr_i, nr_l, nr_a, nr_o, ft_i, ft_b1, ft_l, ft_a, ft_o, Classical.not_not, kb_m104, kb_m103, kb_m102, kb_m101, kb_6, kb_7, kb_8, kb_9, kb_10, kb_12, kb_16, kb_19, kb_20, kb_31, kb_32, kb_40, kb_42, kb_44, kb_47, kb_48, kb_49, kb_57, kb_63, kb_96, kb_99, kb_100, kb_103, kb_111, kb_112, kb_114, kb_116, kb_119, kb_126, kb_127, kc_m1, kc_0, kc_1, kc_2, kc_3, kc_4, kc_5, kc_6, kc_7, kc_8, kc_9, kc_10, kc_11, kc_12, kc_13, kc_14, kc_15, kc_16, kc_17, kc_18, kc_19, kc_20, kc_21, kc_22, kc_23, kc_24, kc_25, kc_26, kc_27, kc_28, kc_29, kc_103, kc_114, kc_116, kc_119, kl_0, kl_1, ks_200, ks_255, ks_288, i_Jlong_bitCount_0, i_Jlong_bitCount_1, i_Jlong_bitCount_2, i_Jlong_bitCount_3, i_Jlong_bitCount_4, i_Jlong_bitCount_7, i_Jlong_bitCount_8, i_Jlong_bitCount_9, i_Jlong_bitCount_10, i_Jlong_bitCount_11, i_Jlong_bitCount_14, i_Jlong_bitCount_15, i_Jlong_bitCount_16, i_Jlong_bitCount_17, i_Jlong_bitCount_18, i_Jlong_bitCount_21, i_Jlong_bitCount_22, i_Jlong_bitCount_23, i_Jlong_bitCount_24, i_Jlong_bitCount_25, i_Jlong_bitCount_26, i_Jlong_bitCount_27, i_Jlong_bitCount_28, i_Jlong_bitCount_29, i_Jlong_bitCount_32, i_Jlong_bitCount_33, i_Jlong_bitCount_34, i_Jlong_bitCount_35, i_Jlong_bitCount_36, i_Jlong_bitCount_38, i_Jlong_bitCount_39, i_Jlong_bitCount_40, i_Jlong_bitCount_41, i_Jlong_bitCount_42, i_Jlong_bitCount_43, i_Jlong_bitCount_45, i_Jlong_bitCount_46, i_Jlong_bitCount_47, i_Jlong_bitCount_48, i_Jlong_bitCount_49, i_Jlong_bitCount_50, i_Jlong_bitCount_52, i_Jlong_bitCount_53, i_Jlong_bitCount_54, i_Jlong_bitCount_55, i_Jlong_bitCount_56, i_Jlong_bitCount_57, i_Jlong_bitCount_59, i_Jlong_bitCount_60]
  have e1 : (x &&& 3689348814741910323) + ((x.toUInt64 >>> ((2 : Int32).toInt64.toUInt64 &&& Int64.toUInt64 63)).toInt64 &&& 3689348814741910323) = sw64_2 x := rfl
  simp only [e1]
  generalize sw64_2 x = x at hQ ⊢
  refine run [10, 24, 34, 41, 48, 55] 20 ok_m_Jlong_bitCount (fun V hV => ?_)
  simp only [hV, sPush, sIld, sLld, sAld, sIst, sLst, sAst, sInc, sBI, sBL, sDI, sDL, sSL, sUI, sIL, sLI, sCmp, sDup, sDup2, sGo, sIf, sCm, sNul, sGet, sPut, sIal, sCal, sLal, sAal, sIas, sCas, sLas, sAas, sLen, sNew, sNar, sMna, sIns, sSw, swK, sIret, sLret, sAret, sVret, sSta, sSpe, sVir, sObj, sMax, sMin, sAcp, popN, catS, stdC, callA, gL, stI, stL, clr, cat1, cH, if_true, if_false, reduceIte, List.mem_cons, List.not_mem_nil, or_false, false_or, or_self, List.lookup_cons, List.lookup_nil, Option.toList_some, Option.toList_none, List.cons_append, List.nil_append, List.reverse_cons, List.reverse_nil, true_and, and_true, true_or, or_true, hset_s, hset_hset, List.getElem?_cons_zero, List.getElem?_cons_succ, List.set_cons_zero, List.set_cons_succ, List.length_cons, List.length_nil, beq_self_eq_true, Nat.reduceBEq, va_rf,  not_true_eq_false, not_false_eq_true, false_implies, true_implies, forall_const, ne_eq, eq_self, Nat.reduceAdd, Nat.reduceSub, Nat.reduceLeDiff, Nat.reduceLT, zlt_s, Nat.reduceEqDiff, Nat.zero_le, Nat.sub_zero, Nat.le_refl, imp_self, bI_0, nr_b, nr_b0, nr_b1, nr_i, nr_l, nr_a, nr_o, ft_i, ft_b1, ft_l, ft_a, ft_o, Classical.not_not, kb_m104, kb_m103, kb_m102, kb_m101, kb_6, kb_7, kb_8, kb_9, kb_10, kb_12, kb_16, kb_19, kb_20, kb_31, kb_32, kb_40, kb_42, kb_44, kb_47, kb_48, kb_49, kb_57, kb_63, kb_96, kb_99, kb_100, kb_103, kb_111, kb_112, kb_114, kb_116, kb_119, kb_126, kb_127, kc_m1, kc_0, kc_1, kc_2, kc_3, kc_4, kc_5, kc_6, kc_7, kc_8, kc_9, kc_10, kc_11, kc_12, kc_13, kc_14, kc_15, kc_16, kc_17, kc_18, kc_19, kc_20, kc_21, kc_22, kc_23, kc_24, kc_25, kc_26, kc_27, kc_28, kc_29, kc_103, kc_114, kc_116, kc_119, kl_0, kl_1, ks_200, ks_255, ks_288, i_Jlong_bitCount_0, i_Jlong_bitCount_1, i_Jlong_bitCount_2, i_Jlong_bitCount_3, i_Jlong_bitCount_4, i_Jlong_bitCount_7, i_Jlong_bitCount_8, i_Jlong_bitCount_9, i_Jlong_bitCount_10, i_Jlong_bitCount_11, i_Jlong_bitCount_14, i_Jlong_bitCount_15, i_Jlong_bitCount_16, i_Jlong_bitCount_17, i_Jlong_bitCount_18, i_Jlong_bitCount_21, i_Jlong_bitCount_22, i_Jlong_bitCount_23, i_Jlong_bitCount_24, i_Jlong_bitCount_25, i_Jlong_bitCount_26, i_Jlong_bitCount_27, i_Jlong_bitCount_28, i_Jlong_bitCount_29, i_Jlong_bitCount_32, i_Jlong_bitCount_33, i_Jlong_bitCount_34, i_Jlong_bitCount_35, i_Jlong_bitCount_36, i_Jlong_bitCount_38, i_Jlong_bitCount_39, i_Jlong_bitCount_40, i_Jlong_bitCount_41, i_Jlong_bitCount_42, i_Jlong_bitCount_43, i_Jlong_bitCount_45, i_Jlong_bitCount_46, i_Jlong_bitCount_47, i_Jlong_bitCount_48, i_Jlong_bitCount_49, i_Jlong_bitCount_50, i_Jlong_bitCount_52, i_Jlong_bitCount_53, i_Jlong_bitCount_54, i_Jlong_bitCount_55, i_Jlong_bitCount_56, i_Jlong_bitCount_57, i_Jlong_bitCount_59, i_Jlong_bitCount_60]
  have e1 : (x + (x.toUInt64 >>> ((4 : Int32).toInt64.toUInt64 &&& Int64.toUInt64 63)).toInt64) &&& 1085102592571150095 = sw64_3 x := rfl
  simp only [e1]
  generalize sw64_3 x = x at hQ ⊢
  refine run [10, 24, 34, 41, 48, 55] 20 ok_m_Jlong_bitCount (fun V hV => ?_)
  simp only [hV, sPush, sIld, sLld, sAld, sIst, sLst, sAst, sInc, sBI, sBL, sDI, sDL, sSL, sUI, sIL, sLI, sCmp, sDup, sDup2, sGo, sIf, sCm, sNul, sGet, sPut, sIal, sCal, sLal, sAal, sIas, sCas, sLas, sAas, sLen, sNew, sNar, sMna, sIns, sSw, swK, sIret, sLret, sAret, sVret, sSta, sSpe, sVir, sObj, sMax, sMin, sAcp, popN, catS, stdC, callA, gL, stI, stL, clr, cat1, cH, if_true, if_false, reduceIte, List.mem_cons, List.not_mem_nil, or_false, false_or, or_self, List.lookup_cons, List.lookup_nil, Option.toList_some, Option.toList_none, List.cons_append, List.nil_append, List.reverse_cons, List.reverse_nil, true_and, and_true, true_or, or_true, hset_s, hset_hset, List.getElem?_cons_zero, List.getElem?_cons_succ, List.set_cons_zero, List.set_cons_succ, List.length_cons, List.length_nil, beq_self_eq_true, Nat.reduceBEq, va_rf,  not_true_eq_false, not_false_eq_true, false_implies, true_implies, forall_const, ne_eq, eq_self, Nat.reduceAdd, Nat.reduceSub, Nat.reduceLeDiff, Nat.reduceLT, zlt_s, Nat.reduceEqDiff, Nat.zero_le, Nat.sub_zero, Nat.le_refl, imp_self, bI_0, nr_b, nr_b0, nr_b1, nr_i, nr_l, nr_a, nr_o, ft_i, ft_b1, ft_l, ft_a, ft_o, Classical.not_not, kb_m104, kb_m103, kb_m102, kb_m101, kb_6, kb_7, kb_8, kb_9, kb_10, kb_12, kb_16, kb_19, kb_20, kb_31, kb_32, kb_40, kb_42, kb_44, kb_47, kb_48, kb_49, kb_57, kb_63, kb_96, kb_99, kb_100, kb_103, kb_111, kb_112, kb_114, kb_116, kb_119, kb_126, kb_127, kc_m1, kc_0, kc_1, kc_2, kc_3, kc_4, kc_5, kc_6, kc_7, kc_8, kc_9, kc_10, kc_11, kc_12, kc_13, kc_14, kc_15, kc_16, kc_17, kc_18, kc_19, kc_20, kc_21, kc_22, kc_23, kc_24, kc_25, kc_26, kc_27, kc_28, kc_29, kc_103, kc_114, kc_116, kc_119, kl_0, kl_1, ks_200, ks_255, ks_288, i_Jlong_bitCount_0, i_Jlong_bitCount_1, i_Jlong_bitCount_2, i_Jlong_bitCount_3, i_Jlong_bitCount_4, i_Jlong_bitCount_7, i_Jlong_bitCount_8, i_Jlong_bitCount_9, i_Jlong_bitCount_10, i_Jlong_bitCount_11, i_Jlong_bitCount_14, i_Jlong_bitCount_15, i_Jlong_bitCount_16, i_Jlong_bitCount_17, i_Jlong_bitCount_18, i_Jlong_bitCount_21, i_Jlong_bitCount_22, i_Jlong_bitCount_23, i_Jlong_bitCount_24, i_Jlong_bitCount_25, i_Jlong_bitCount_26, i_Jlong_bitCount_27, i_Jlong_bitCount_28, i_Jlong_bitCount_29, i_Jlong_bitCount_32, i_Jlong_bitCount_33, i_Jlong_bitCount_34, i_Jlong_bitCount_35, i_Jlong_bitCount_36, i_Jlong_bitCount_38, i_Jlong_bitCount_39, i_Jlong_bitCount_40, i_Jlong_bitCount_41, i_Jlong_bitCount_42, i_Jlong_bitCount_43, i_Jlong_bitCount_45, i_Jlong_bitCount_46, i_Jlong_bitCount_47, i_Jlong_bitCount_48, i_Jlong_bitCount_49, i_Jlong_bitCount_50, i_Jlong_bitCount_52, i_Jlong_bitCount_53, i_Jlong_bitCount_54, i_Jlong_bitCount_55, i_Jlong_bitCount_56, i_Jlong_bitCount_57, i_Jlong_bitCount_59, i_Jlong_bitCount_60]
  have e1 : x + (x.toUInt64 >>> ((8 : Int32).toInt64.toUInt64 &&& Int64.toUInt64 63)).toInt64 = sw64_4 x := rfl
  simp only [e1]
  generalize sw64_4 x = x at hQ ⊢
  refine run [10, 24, 34, 41, 48, 55] 20 ok_m_Jlong_bitCount (fun V hV => ?_)
  simp only [hV, sPush, sIld, sLld, sAld, sIst, sLst, sAst, sInc, sBI, sBL, sDI, sDL, sSL, sUI, sIL, sLI, sCmp, sDup, sDup2, sGo, sIf, sCm, sNul, sGet, sPut, sIal, sCal, sLal, sAal, sIas, sCas, sLas, sAas, sLen, sNew, sNar, sMna, sIns, sSw, swK, sIret, sLret, sAret, sVret, sSta, sSpe, sVir, sObj, sMax, sMin, sAcp, popN, catS, stdC, callA, gL, stI, stL, clr, cat1, cH, if_true, if_false, reduceIte, List.mem_cons, List.not_mem_nil, or_false, false_or, or_self, List.lookup_cons, List.lookup_nil, Option.toList_some, Option.toList_none, List.cons_append, List.nil_append, List.reverse_cons, List.reverse_nil, true_and, and_true, true_or, or_true, hset_s, hset_hset, List.getElem?_cons_zero, List.getElem?_cons_succ, List.set_cons_zero, List.set_cons_succ, List.length_cons, List.length_nil, beq_self_eq_true, Nat.reduceBEq, va_rf,  not_true_eq_false, not_false_eq_true, false_implies, true_implies, forall_const, ne_eq, eq_self, Nat.reduceAdd, Nat.reduceSub, Nat.reduceLeDiff, Nat.reduceLT, zlt_s, Nat.reduceEqDiff, Nat.zero_le, Nat.sub_zero, Nat.le_refl, imp_self, bI_0, nr_b, nr_b0, nr_b1, nr_i, nr_l, nr_a, nr_o, ft_i, ft_b1, ft_l, ft_a, ft_o, Classical.not_not, kb_m104, kb_m103, kb_m102, kb_m101, kb_6, kb_7, kb_8, kb_9, kb_10, kb_12, kb_16, kb_19, kb_20, kb_31, kb_32, kb_40, kb_42, kb_44, kb_47, kb_48, kb_49, kb_57, kb_63, kb_96, kb_99, kb_100, kb_103, kb_111, kb_112, kb_114, kb_116, kb_119, kb_126, kb_127, kc_m1, kc_0, kc_1, kc_2, kc_3, kc_4, kc_5, kc_6, kc_7, kc_8, kc_9, kc_10, kc_11, kc_12, kc_13, kc_14, kc_15, kc_16, kc_17, kc_18, kc_19, kc_20, kc_21, kc_22, kc_23, kc_24, kc_25, kc_26, kc_27, kc_28, kc_29, kc_103, kc_114, kc_116, kc_119, kl_0, kl_1, ks_200, ks_255, ks_288, i_Jlong_bitCount_0, i_Jlong_bitCount_1, i_Jlong_bitCount_2, i_Jlong_bitCount_3, i_Jlong_bitCount_4, i_Jlong_bitCount_7, i_Jlong_bitCount_8, i_Jlong_bitCount_9, i_Jlong_bitCount_10, i_Jlong_bitCount_11, i_Jlong_bitCount_14, i_Jlong_bitCount_15, i_Jlong_bitCount_16, i_Jlong_bitCount_17, i_Jlong_bitCount_18, i_Jlong_bitCount_21, i_Jlong_bitCount_22, i_Jlong_bitCount_23, i_Jlong_bitCount_24, i_Jlong_bitCount_25, i_Jlong_bitCount_26, i_Jlong_bitCount_27, i_Jlong_bitCount_28, i_Jlong_bitCount_29, i_Jlong_bitCount_32, i_Jlong_bitCount_33, i_Jlong_bitCount_34, i_Jlong_bitCount_35, i_Jlong_bitCount_36, i_Jlong_bitCount_38, i_Jlong_bitCount_39, i_Jlong_bitCount_40, i_Jlong_bitCount_41, i_Jlong_bitCount_42, i_Jlong_bitCount_43, i_Jlong_bitCount_45, i_Jlong_bitCount_46, i_Jlong_bitCount_47, i_Jlong_bitCount_48, i_Jlong_bitCount_49, i_Jlong_bitCount_50, i_Jlong_bitCount_52, i_Jlong_bitCount_53, i_Jlong_bitCount_54, i_Jlong_bitCount_55, i_Jlong_bitCount_56, i_Jlong_bitCount_57, i_Jlong_bitCount_59, i_Jlong_bitCount_60]
  have e1 : x + (x.toUInt64 >>> ((16 : Int32).toInt64.toUInt64 &&& Int64.toUInt64 63)).toInt64 = sw64_5 x := rfl
  simp only [e1]
  generalize sw64_5 x = x at hQ ⊢
  refine run [10, 24, 34, 41, 48, 55] 20 ok_m_Jlong_bitCount (fun V hV => ?_)
  simp only [hV, sPush, sIld, sLld, sAld, sIst, sLst, sAst, sInc, sBI, sBL, sDI, sDL, sSL, sUI, sIL, sLI, sCmp, sDup, sDup2, sGo, sIf, sCm, sNul, sGet, sPut, sIal, sCal, sLal, sAal, sIas, sCas, sLas, sAas, sLen, sNew, sNar, sMna, sIns, sSw, swK, sIret, sLret, sAret, sVret, sSta, sSpe, sVir, sObj, sMax, sMin, sAcp, popN, catS, stdC, callA, gL, stI, stL, clr, cat1, cH, if_true, if_false, reduceIte, List.mem_cons, List.not_mem_nil, or_false, false_or, or_self, List.lookup_cons, List.lookup_nil, Option.toList_some, Option.toList_none, List.cons_append, List.nil_append, List.reverse_cons, List.reverse_nil, true_and, and_true, true_or, or_true, hset_s, hset_hset, List.getElem?_cons_zero, List.getElem?_cons_succ, List.set_cons_zero, List.set_cons_succ, List.length_cons, List.length_nil, beq_self_eq_true, Nat.reduceBEq, va_rf,  not_true_eq_false, not_false_eq_true, false_implies, true_implies, forall_const, ne_eq, eq_self, Nat.reduceAdd, Nat.reduceSub, Nat.reduceLeDiff, Nat.reduceLT, zlt_s, Nat.reduceEqDiff, Nat.zero_le, Nat.sub_zero, Nat.le_refl, imp_self, bI_0, nr_b, nr_b0, nr_b1, nr_i, nr_l, nr_a, nr_o, ft_i, ft_b1, ft_l, ft_a, ft_o, Classical.not_not, kb_m104, kb_m103, kb_m102, kb_m101, kb_6, kb_7, kb_8, kb_9, kb_10, kb_12, kb_16, kb_19, kb_20, kb_31, kb_32, kb_40, kb_42, kb_44, kb_47, kb_48, kb_49, kb_57, kb_63, kb_96, kb_99, kb_100, kb_103, kb_111, kb_112, kb_114, kb_116, kb_119, kb_126, kb_127, kc_m1, kc_0, kc_1, kc_2, kc_3, kc_4, kc_5, kc_6, kc_7, kc_8, kc_9, kc_10, kc_11, kc_12, kc_13, kc_14, kc_15, kc_16, kc_17, kc_18, kc_19, kc_20, kc_21, kc_22, kc_23, kc_24, kc_25, kc_26, kc_27, kc_28, kc_29, kc_103, kc_114, kc_116, kc_119, kl_0, kl_1, ks_200, ks_255, ks_288, i_Jlong_bitCount_0, i_Jlong_bitCount_1, i_Jlong_bitCount_2, i_Jlong_bitCount_3, i_Jlong_bitCount_4, i_Jlong_bitCount_7, i_Jlong_bitCount_8, i_Jlong_bitCount_9, i_Jlong_bitCount_10, i_Jlong_bitCount_11, i_Jlong_bitCount_14, i_Jlong_bitCount_15, i_Jlong_bitCount_16, i_Jlong_bitCount_17, i_Jlong_bitCount_18, i_Jlong_bitCount_21, i_Jlong_bitCount_22, i_Jlong_bitCount_23, i_Jlong_bitCount_24, i_Jlong_bitCount_25, i_Jlong_bitCount_26, i_Jlong_bitCount_27, i_Jlong_bitCount_28, i_Jlong_bitCount_29, i_Jlong_bitCount_32, i_Jlong_bitCount_33, i_Jlong_bitCount_34, i_Jlong_bitCount_35, i_Jlong_bitCount_36, i_Jlong_bitCount_38, i_Jlong_bitCount_39, i_Jlong_bitCount_40, i_Jlong_bitCount_41, i_Jlong_bitCount_42, i_Jlong_bitCount_43, i_Jlong_bitCount_45, i_Jlong_bitCount_46, i_Jlong_bitCount_47, i_Jlong_bitCount_48, i_Jlong_bitCount_49, i_Jlong_bitCount_50, i_Jlong_bitCount_52, i_Jlong_bitCount_53, i_Jlong_bitCount_54, i_Jlong_bitCount_55, i_Jlong_bitCount_56, i_Jlong_bitCount_57, i_Jlong_bitCount_59, i_Jlong_bitCount_60]
  have e1 : x + (x.toUInt64 >>> ((32 : Int32).toInt64.toUInt64 &&& Int64.toUInt64 63)).toInt64 = sw64_6 x := rfl
  simp only [e1]
  generalize sw64_6 x = x at hQ ⊢
  refine run [10, 24, 34, 41, 48] 20 ok_m_Jlong_bitCount (fun V hV => ?_)
  simp only [hV, sPush, sIld, sLld, sAld, sIst, sLst, sAst, sInc, sBI, sBL, sDI, sDL, sSL, sUI, sIL, sLI, sCmp, sDup, sDup2, sGo, sIf, sCm, sNul, sGet, sPut, sIal, sCal, sLal, sAal, sIas, sCas, sLas, sAas, sLen, sNew, sNar, sMna, sIns, sSw, swK, sIret, sLret, sAret, sVret, sSta, sSpe, sVir, sObj, sMax, sMin, sAcp, popN, catS, stdC, callA, gL, stI, stL, clr, cat1, cH, if_true, if_false, reduceIte, List.mem_cons, List.not_mem_nil, or_false, false_or, or_self, List.lookup_cons, List.lookup_nil, Option.toList_some, Option.toList_none, List.cons_append, List.nil_append, List.reverse_cons, List.reverse_nil, true_and, and_true, true_or, or_true, hset_s, hset_hset, List.getElem?_cons_zero, List.getElem?_cons_succ, List.set_cons_zero, List.set_cons_succ, List.length_cons, List.length_nil, beq_self_eq_true, Nat.reduceBEq, va_rf,  not_true_eq_false, not_false_eq_true, false_implies, true_implies, forall_const, ne_eq, eq_self, Nat.reduceAdd, Nat.reduceSub, Nat.reduceLeDiff, Nat.reduceLT, zlt_s, Nat.reduceEqDiff, Nat.zero_le, Nat.sub_zero, Nat.le_refl, imp_self, bI_0, nr_b, nr_b0, nr_b1, nr_i, nr_l, nr_a, nr_o, ft_i, ft_b1, ft_l, ft_a, ft_o, Classical.not_not, kb_m104, kb_m103, kb_m102, kb_m101, kb_6, kb_7, kb_8, kb_9, kb_10, kb_12, kb_16, kb_19, kb_20, kb_31, kb_32, kb_40, kb_42, kb_44, kb_47, kb_48, kb_49, kb_57, kb_63, kb_96, kb_99, kb_100, kb_103, kb_111, kb_112, kb_114, kb_116, kb_119, kb_126, kb_127, kc_m1, kc_0, kc_1, kc_2, kc_3, kc_4, kc_5, kc_6, kc_7, kc_8, kc_9, kc_10, kc_11, kc_12, kc_13, kc_14, kc_15, kc_16, kc_17, kc_18, kc_19, kc_20, kc_21, kc_22, kc_23, kc_24, kc_25, kc_26, kc_27, kc_28, kc_29, kc_103, kc_114, kc_116, kc_119, kl_0, kl_1, ks_200, ks_255, ks_288, i_Jlong_bitCount_0, i_Jlong_bitCount_1, i_Jlong_bitCount_2, i_Jlong_bitCount_3, i_Jlong_bitCount_4, i_Jlong_bitCount_7, i_Jlong_bitCount_8, i_Jlong_bitCount_9, i_Jlong_bitCount_10, i_Jlong_bitCount_11, i_Jlong_bitCount_14, i_Jlong_bitCount_15, i_Jlong_bitCount_16, i_Jlong_bitCount_17, i_Jlong_bitCount_18, i_Jlong_bitCount_21, i_Jlong_bitCount_22, i_Jlong_bitCount_23, i_Jlong_bitCount_24, i_Jlong_bitCount_25, i_Jlong_bitCount_26, i_Jlong_bitCount_27, i_Jlong_bitCount_28, i_Jlong_bitCount_29, i_Jlong_bitCount_32, i_Jlong_bitCount_33, i_Jlong_bitCount_34, i_Jlong_bitCount_35, i_Jlong_bitCount_36, i_Jlong_bitCount_38, i_Jlong_bitCount_39, i_Jlong_bitCount_40, i_Jlong_bitCount_41, i_Jlong_bitCount_42, i_Jlong_bitCount_43, i_Jlong_bitCount_45, i_Jlong_bitCount_46, i_Jlong_bitCount_47, i_Jlong_bitCount_48, i_Jlong_bitCount_49, i_Jlong_bitCount_50, i_Jlong_bitCount_52, i_Jlong_bitCount_53, i_Jlong_bitCount_54, i_Jlong_bitCount_55, i_Jlong_bitCount_56, i_Jlong_bitCount_57, i_Jlong_bitCount_59, i_Jlong_bitCount_60]
  exact hQ
set_option maxRecDepth 20000 in
theorem s_Fi_mayBe (d : Nat) (w y : Int64) (P P' : Nat → Bool) (k : Nat) (hk : k < 100) (hw : LB w P) (hy : LB y P') (h : XH) (z : Nat) (Q : XQ) (hQ : Q (some (.int (bI (k ≤ cnt 64 P' ∧ ∀ i, i < 64 → P' i = true → P i = true)))) h z) : CALL (d + 1) m_Fi_mayBe [.long w, .long y, .int (nI k)] h z Q := by
  refine ⟨Nat.le_of_ble_eq_true rfl, ?_⟩
  show AR (d + 1) m_Fi_mayBe 0 0 [some (.long w), none, some (.long y), none, some (.int (nI k))] [] h z Q
  refine run [] 40 ok_m_Fi_mayBe (fun V hV => ?_)
  simp only [hV, sPush, sIld, sLld, sAld, sIst, sLst, sAst, sInc, sBI, sBL, sDI, sDL, sSL, sUI, sIL, sLI, sCmp, sDup, sDup2, sGo, sIf, sCm, sNul, sGet, sPut, sIal, sCal, sLal, sAal, sIas, sCas, sLas, sAas, sLen, sNew, sNar, sMna, sIns, sSw, swK, sIret, sLret, sAret, sVret, sSta, sSpe, sVir, sObj, sMax, sMin, sAcp, popN, catS, stdC, callA, gL, stI, stL, clr, cat1, cH, if_true, if_false, reduceIte, List.mem_cons, List.not_mem_nil, or_false, false_or, or_self, List.lookup_cons, List.lookup_nil, Option.toList_some, Option.toList_none, List.cons_append, List.nil_append, List.reverse_cons, List.reverse_nil, true_and, and_true, true_or, or_true, hset_s, hset_hset, List.getElem?_cons_zero, List.getElem?_cons_succ, List.set_cons_zero, List.set_cons_succ, List.length_cons, List.length_nil, beq_self_eq_true, Nat.reduceBEq, va_rf,  not_true_eq_false, not_false_eq_true, false_implies, true_implies, forall_const, ne_eq, eq_self, Nat.reduceAdd, Nat.reduceSub, Nat.reduceLeDiff, Nat.reduceLT, zlt_s, Nat.reduceEqDiff, Nat.zero_le, Nat.sub_zero, Nat.le_refl, imp_self, bI_0, nr_b, nr_b0, nr_b1, nr_i, nr_l, nr_a, nr_o, ft_i, ft_b1, ft_l, ft_a, ft_o, Classical.not_not, kb_m104, kb_m103, kb_m102, kb_m101, kb_6, kb_7, kb_8, kb_9, kb_10, kb_12, kb_16, kb_19, kb_20, kb_31, kb_32, kb_40, kb_42, kb_44, kb_47, kb_48, kb_49, kb_57, kb_63, kb_96, kb_99, kb_100, kb_103, kb_111, kb_112, kb_114, kb_116, kb_119, kb_126, kb_127, kc_m1, kc_0, kc_1, kc_2, kc_3, kc_4, kc_5, kc_6, kc_7, kc_8, kc_9, kc_10, kc_11, kc_12, kc_13, kc_14, kc_15, kc_16, kc_17, kc_18, kc_19, kc_20, kc_21, kc_22, kc_23, kc_24, kc_25, kc_26, kc_27, kc_28, kc_29, kc_103, kc_114, kc_116, kc_119, kl_0, kl_1, ks_200, ks_255, ks_288, i_Fi_mayBe_0, i_Fi_mayBe_1, i_Fi_mayBe_4, i_Fi_mayBe_6, i_Fi_mayBe_9, i_Fi_mayBe_10, i_Fi_mayBe_11, i_Fi_mayBe_14, i_Fi_mayBe_17, i_Fi_mayBe_18, i_Fi_mayBe_21, i_Fi_mayBe_22]
  refine s_Jlong_bitCount _ _ _ hy _ _ _ ?_
  have hc := cnt_le 64 P'
  refine run [] 40 ok_m_Fi_mayBe (fun V hV => ?_)
  simp only [hV, sPush, sIld, sLld, sAld, sIst, sLst, sAst, sInc, sBI, sBL, sDI, sDL, sSL, sUI, sIL, sLI, sCmp, sDup, sDup2, sGo, sIf, sCm, sNul, sGet, sPut, sIal, sCal, sLal, sAal, sIas, sCas, sLas, sAas, sLen, sNew, sNar, sMna, sIns, sSw, swK, sIret, sLret, sAret, sVret, sSta, sSpe, sVir, sObj, sMax, sMin, sAcp, popN, catS, stdC, callA, gL, stI, stL, clr, cat1, cH, if_true, if_false, reduceIte, List.mem_cons, List.not_mem_nil, or_false, false_or, or_self, List.lookup_cons, List.lookup_nil, Option.toList_some, Option.toList_none, List.cons_append, List.nil_append, List.reverse_cons, List.reverse_nil, true_and, and_true, true_or, or_true, hset_s, hset_hset, List.getElem?_cons_zero, List.getElem?_cons_succ, List.set_cons_zero, List.set_cons_succ, List.length_cons, List.length_nil, beq_self_eq_true, Nat.reduceBEq, va_rf,  not_true_eq_false, not_false_eq_true, false_implies, true_implies, forall_const, ne_eq, eq_self, Nat.reduceAdd, Nat.reduceSub, Nat.reduceLeDiff, Nat.reduceLT, zlt_s, Nat.reduceEqDiff, Nat.zero_le, Nat.sub_zero, Nat.le_refl, imp_self, bI_0, nr_b, nr_b0, nr_b1, nr_i, nr_l, nr_a, nr_o, ft_i, ft_b1, ft_l, ft_a, ft_o, Classical.not_not, kb_m104, kb_m103, kb_m102, kb_m101, kb_6, kb_7, kb_8, kb_9, kb_10, kb_12, kb_16, kb_19, kb_20, kb_31, kb_32, kb_40, kb_42, kb_44, kb_47, kb_48, kb_49, kb_57, kb_63, kb_96, kb_99, kb_100, kb_103, kb_111, kb_112, kb_114, kb_116, kb_119, kb_126, kb_127, kc_m1, kc_0, kc_1, kc_2, kc_3, kc_4, kc_5, kc_6, kc_7, kc_8, kc_9, kc_10, kc_11, kc_12, kc_13, kc_14, kc_15, kc_16, kc_17, kc_18, kc_19, kc_20, kc_21, kc_22, kc_23, kc_24, kc_25, kc_26, kc_27, kc_28, kc_29, kc_103, kc_114, kc_116, kc_119, kl_0, kl_1, ks_200, ks_255, ks_288, i_Fi_mayBe_0, i_Fi_mayBe_1, i_Fi_mayBe_4, i_Fi_mayBe_6, i_Fi_mayBe_9, i_Fi_mayBe_10, i_Fi_mayBe_11, i_Fi_mayBe_14, i_Fi_mayBe_17, i_Fi_mayBe_18, i_Fi_mayBe_21, i_Fi_mayBe_22, nI_ltI (a := cnt 64 P') (b := k) (by omega) (by omega)]
  refine ⟨fun c => ?_, fun c => ?_⟩
  · rwa [bI_f (by omega)] at hQ
  · refine s_Fi_isAmong _ _ _ _ _ hy hw _ _ _ ?_
    refine run [] 40 ok_m_Fi_mayBe (fun V hV => ?_)
    simp only [hV, sPush, sIld, sLld, sAld, sIst, sLst, sAst, sInc, sBI, sBL, sDI, sDL, sSL, sUI, sIL, sLI, sCmp, sDup, sDup2, sGo, sIf, sCm, sNul, sGet, sPut, sIal, sCal, sLal, sAal, sIas, sCas, sLas, sAas, sLen, sNew, sNar, sMna, sIns, sSw, swK, sIret, sLret, sAret, sVret, sSta, sSpe, sVir, sObj, sMax, sMin, sAcp, popN, catS, stdC, callA, gL, stI, stL, clr, cat1, cH, if_true, if_false, reduceIte, List.mem_cons, List.not_mem_nil, or_false, false_or, or_self, List.lookup_cons, List.lookup_nil, Option.toList_some, Option.toList_none, List.cons_append, List.nil_append, List.reverse_cons, List.reverse_nil, true_and, and_true, true_or, or_true, hset_s, hset_hset, List.getElem?_cons_zero, List.getElem?_cons_succ, List.set_cons_zero, List.set_cons_succ, List.length_cons, List.length_nil, beq_self_eq_true, Nat.reduceBEq, va_rf,  not_true_eq_false, not_false_eq_true, false_implies, true_implies, forall_const, ne_eq, eq_self, Nat.reduceAdd, Nat.reduceSub, Nat.reduceLeDiff, Nat.reduceLT, zlt_s, Nat.reduceEqDiff, Nat.zero_le, Nat.sub_zero, Nat.le_refl, imp_self, bI_0, nr_b, nr_b0, nr_b1, nr_i, nr_l, nr_a, nr_o, ft_i, ft_b1, ft_l, ft_a, ft_o, Classical.not_not, kb_m104, kb_m103, kb_m102, kb_m101, kb_6, kb_7, kb_8, kb_9, kb_10, kb_12, kb_16, kb_19, kb_20, kb_31, kb_32, kb_40, kb_42, kb_44, kb_47, kb_48, kb_49, kb_57, kb_63, kb_96, kb_99, kb_100, kb_103, kb_111, kb_112, kb_114, kb_116, kb_119, kb_126, kb_127, kc_m1, kc_0, kc_1, kc_2, kc_3, kc_4, kc_5, kc_6, kc_7, kc_8, kc_9, kc_10, kc_11, kc_12, kc_13, kc_14, kc_15, kc_16, kc_17, kc_18, kc_19, kc_20, kc_21, kc_22, kc_23, kc_24, kc_25, kc_26, kc_27, kc_28, kc_29, kc_103, kc_114, kc_116, kc_119, kl_0, kl_1, ks_200, ks_255, ks_288, i_Fi_mayBe_0, i_Fi_mayBe_1, i_Fi_mayBe_4, i_Fi_mayBe_6, i_Fi_mayBe_9, i_Fi_mayBe_10, i_Fi_mayBe_11, i_Fi_mayBe_14, i_Fi_mayBe_17, i_Fi_mayBe_18, i_Fi_mayBe_21, i_Fi_mayBe_22]
    refine ⟨fun c2 => ?_, fun c2 => ?_⟩
    · rwa [bI_f (fun q => c2 q.2)] at hQ
    · rwa [bI_t ⟨by omega, c2⟩] at hQ
