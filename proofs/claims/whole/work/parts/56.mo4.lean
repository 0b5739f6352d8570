/-! THE MODEL: changes -/
theorem moP_c {c c' : Nat → Int32} {R R' : Nat → Nat → Int32} {x x' : FS} (m : moP c R x) (e : c' 1 = c 1) (r : R' 1 = R 1) (hn : x'.pn = x.pn) (ht : x'.pt = x.pt) : moP c' R' x' := by
  unfold moP
  rw [e, r, hn, ht]
  exact m
theorem moM_c {c c' : Nat → Int32} {R R' : Nat → Nat → Int32} {M : MS} (m : moM c R M) (e : c' 9 = c 9) (r3 : R' 3 = R 3) (r4 : R' 4 = R 4) : moM c' R' M := by
  unfold moM
  rw [e, r3, r4]
  exact m
/-- only scratch has changed -/
theorem MoOK.c {c c' : Nat → Int32} {R R' : Nat → Nat → Int32} {x : FS} (m : MoOK c R x) (hc : ∀ k, k ∈ [1, 9, 12, 18, 20, 26, 27] → c' k = c k) (hR : ∀ k, k ∈ [1, 3, 4, 5, 6, 7, 8, 10, 16, 17, 18, 19, 20] → R' k = R k) : MoOK c' R' x := by
  obtain ⟨m1, m2, m3, m4, m5, m6⟩ := m
  refine ⟨moP_c m1 (hc 1 (by decide)) (hR 1 (by decide)) rfl rfl, moM_c m2 (hc 9 (by decide)) (hR 3 (by decide)) (hR 4 (by decide)), ?_, ?_, ?_, ?_⟩
  · rw [hc 12 (by decide), hc 18 (by decide), hR 5 (by decide), hR 6 (by decide), hR 7 (by decide), hR 8 (by decide), hR 10 (by decide)]
    exact m3
  · rw [hc 20 (by decide)]
    exact m4
  · rw [hc 26 (by decide)]
    exact m5
  · rw [hc 26 (by decide), hc 27 (by decide), hR 16 (by decide), hR 17 (by decide), hR 18 (by decide), hR 19 (by decide), hR 20 (by decide)]
    exact m6
/-- nothing outside of a print's rows -/
def offI (p : Nat) (F F' : Nat → Int32) : Prop := ∀ j, (j < 48 * p ∨ 48 * p + 48 ≤ j) → F' j = F j
theorem offI_r (p : Nat) (F : Nat → Int32) : offI p F F := fun _ _ => rfl
theorem offI.upd {p : Nat} {F F' : Nat → Int32} (o : offI p F F') {i : Nat} (hi : i < 48) (v : Int32) : offI p F (upd F' (48 * p + i) v) := fun j hj => by
  rw [upd_n _ _ (by omega)]
  exact o j hj
theorem moS_p {n nt : Int32} {Z F B V T Z' F' B' V' : Nat → Int32} {S : SH} {m p n' : Nat} {f' b' w' : Nat → Nat} (k : moS n nt Z F B V T S) (hs : ∀ q, q < S.n → S.sz q ≤ 48) (hm : ∀ q, q < m → q ≠ p → q < S.n) (hZ : ∀ q, q ≠ p → Z' q = Z q) (oF : offI p F F') (oB : offI p B B') (oV : offI p V V') (z : Z' p = nI n') (hp : ∀ i, i < n' → F' (48 * p + i) = nI (f' i) ∧ B' (48 * p + i) = nI (b' i) ∧ V' (48 * p + i) = nI (w' i)) : moS (nI m) nt Z' F' B' V' T (S.setp m p n' f' b' w') := by
  obtain ⟨-, k2, k3, k4⟩ := k
  refine ⟨rfl, k2, fun q hq => ?_, k4⟩
  show Z' q = nI (upN S.sz p n' q) ∧ ∀ i, i < upN S.sz p n' q → F' (48 * q + i) = nI (upF S.f p f' q i) ∧ B' (48 * q + i) = nI (upF S.b p b' q i) ∧ V' (48 * q + i) = nI (upF S.w p w' q i)
  by_cases e : q = p
  · subst e
    simp only [upN, upF, if_true]
    exact ⟨z, hp⟩
  · have hq' := hm q hq e
    have h48 := hs q hq'
    simp only [upN, upF, if_neg e]
    obtain ⟨k5, k6⟩ := k3 q hq'
    refine ⟨(hZ q e).trans k5, fun i hi => ?_⟩
    obtain ⟨a1, a2, a3⟩ := k6 i hi
    exact ⟨(oF _ (by omega)).trans a1, (oB _ (by omega)).trans a2, (oV _ (by omega)).trans a3⟩
theorem ShOK.s48 {S : SH} (o : ShOK S) : ∀ q, q < S.n → S.sz q ≤ 48 := fun q hq => (o.2.2.1 q hq).2.1
set_option maxRecDepth 20000 in
theorem s_Mo_blank (d Y : Nat) (x : FS) (h : XH) (z : Nat) (Q : XQ) (hM : MoAt h Y x) (hQ : ∀ h', off Y 21 h h' → MoAt h' Y (x.setP 0 x.pt) → Q (some (.int (nI x.pn))) h' z) : CALL d m_Mo_blank [.ref Y] h z Q := by
  obtain ⟨c, u, R, W, hR, m1, m2, m3, m4, m5, m6⟩ := hM
  have e0 := hR.1
  refine ⟨Nat.le_of_ble_eq_true rfl, ?_⟩
  show AR d m_Mo_blank 0 0 [some (.ref Y), none] [] h z Q
  refine run [] 30 ok_m_Mo_blank (fun V hV => ?_)
  simp only [hV, sPush, sIld, sLld, sAld, sIst, sLst, sAst, sInc, sBI, sBL, sDI, sDL, sSL, sUI, sIL, sLI, sCmp, sDup, sDup2, sGo, sIf, sCm, sNul, sGet, sPut, sIal, sCal, sLal, sAal, sIas, sCas, sLas, sAas, sLen, sNew, sNar, sMna, sIns, sSw, swK, sIret, sLret, sAret, sVret, sSta, sSpe, sVir, sObj, sMax, sMin, sAcp, popN, catS, stdC, callA, gL, stI, stL, clr, cat1, cH, if_true, if_false, reduceIte, List.mem_cons, List.not_mem_nil, or_false, false_or, or_self, List.lookup_cons, List.lookup_nil, Option.toList_some, Option.toList_none, List.cons_append, List.nil_append, List.reverse_cons, List.reverse_nil, true_and, and_true, true_or, or_true, hset_s, hset_hset, List.getElem?_cons_zero, List.getElem?_cons_succ, List.set_cons_zero, List.set_cons_succ, List.length_cons, List.length_nil, beq_self_eq_true, Nat.reduceBEq, va_rf,  not_true_eq_false, not_false_eq_true, false_implies, true_implies, forall_const, ne_eq, eq_self, Nat.reduceAdd, Nat.reduceSub, Nat.reduceLeDiff, Nat.reduceLT, zlt_s, Nat.reduceEqDiff, Nat.zero_le, Nat.sub_zero, Nat.le_refl, imp_self, bI_0, nr_b, nr_b0, nr_b1, nr_i, nr_l, nr_a, nr_o, ft_i, ft_b1, ft_l, ft_a, ft_o, Classical.not_not, kb_m104, kb_m103, kb_m102, kb_m101, kb_6, kb_7, kb_8, kb_9, kb_10, kb_12, kb_16, kb_19, kb_20, kb_31, kb_32, kb_40, kb_42, kb_44, kb_47, kb_48, kb_49, kb_57, kb_63, kb_96, kb_99, kb_100, kb_103, kb_111, kb_112, kb_114, kb_116, kb_119, kb_126, kb_127, kc_m1, kc_0, kc_1, kc_2, kc_3, kc_4, kc_5, kc_6, kc_7, kc_8, kc_9, kc_10, kc_11, kc_12, kc_13, kc_14, kc_15, kc_16, kc_17, kc_18, kc_19, kc_20, kc_21, kc_22, kc_23, kc_24, kc_25, kc_26, kc_27, kc_28, kc_29, kc_103, kc_114, kc_116, kc_119, kl_0, kl_1, ks_200, ks_255, ks_288, i_Mo_blank_0, i_Mo_blank_1, i_Mo_blank_4, i_Mo_blank_5, i_Mo_blank_6, i_Mo_blank_7, i_Mo_blank_10, i_Mo_blank_11, ml_0, ml_1, ml_2, ml_3, ml_4, ml_5, ml_6, ml_7, ml_8, ml_9, ml_10, ml_11, ml_12, ml_13, ml_14, ml_15, ml_16, ml_17, ml_18, ml_19, ml_20, ml_21, ml_22, ml_23, ml_24, ml_25, ml_26, ml_27, ml_28, ml_29, ml_30, ml_31, ml_32, ml_33, ms_1, ms_2, ms_3, ms_4, ms_5, ms_6, ms_7, ms_9, ms_12, ms_18, ms_20, ms_26, ms_27, ms_33, ml_n, sc_r, hk_ij, hk_i0, hk_0j, Nat.reduceEqDiff, e0, m1.1]
  exact hQ _ ((off_r Y 21 h).set (by omega) (by omega) _) ⟨sc c 1 0, u, R, W, hR.O _ _, ⟨rfl, fun i hi => absurd hi (Nat.not_lt_zero i)⟩, moM_c m2 rfl rfl rfl, m3, m4, m5, m6⟩
set_option maxRecDepth 20000 in
theorem s_Mo_clear (d Y : Nat) (x : FS) (h : XH) (z : Nat) (Q : XQ) (hM : MoAt h Y x) (hQ : ∀ h', off Y 21 h h' → MoAt h' Y (x.setS (mkS x.S.n x.S.sz x.S.f x.S.b x.S.w 0 x.S.ts x.S.tr)) → Q (some (.int (nI x.S.nt))) h' z) : CALL d m_Mo_clear [.ref Y] h z Q := by
  obtain ⟨c, u, R, W, hR, m1, m2, m3, m4, m5, m6⟩ := hM
  have e0 := hR.1
  refine ⟨Nat.le_of_ble_eq_true rfl, ?_⟩
  show AR d m_Mo_clear 0 0 [some (.ref Y), none] [] h z Q
  refine run [] 30 ok_m_Mo_clear (fun V hV => ?_)
  simp only [hV, sPush, sIld, sLld, sAld, sIst, sLst, sAst, sInc, sBI, sBL, sDI, sDL, sSL, sUI, sIL, sLI, sCmp, sDup, sDup2, sGo, sIf, sCm, sNul, sGet, sPut, sIal, sCal, sLal, sAal, sIas, sCas, sLas, sAas, sLen, sNew, sNar, sMna, sIns, sSw, swK, sIret, sLret, sAret, sVret, sSta, sSpe, sVir, sObj, sMax, sMin, sAcp, popN, catS, stdC, callA, gL, stI, stL, clr, cat1, cH, if_true, if_false, reduceIte, List.mem_cons, List.not_mem_nil, or_false, false_or, or_self, List.lookup_cons, List.lookup_nil, Option.toList_some, Option.toList_none, List.cons_append, List.nil_append, List.reverse_cons, List.reverse_nil, true_and, and_true, true_or, or_true, hset_s, hset_hset, List.getElem?_cons_zero, List.getElem?_cons_succ, List.set_cons_zero, List.set_cons_succ, List.length_cons, List.length_nil, beq_self_eq_true, Nat.reduceBEq, va_rf,  not_true_eq_false, not_false_eq_true, false_implies, true_implies, forall_const, ne_eq, eq_self, Nat.reduceAdd, Nat.reduceSub, Nat.reduceLeDiff, Nat.reduceLT, zlt_s, Nat.reduceEqDiff, Nat.zero_le, Nat.sub_zero, Nat.le_refl, imp_self, bI_0, nr_b, nr_b0, nr_b1, nr_i, nr_l, nr_a, nr_o, ft_i, ft_b1, ft_l, ft_a, ft_o, Classical.not_not, kb_m104, kb_m103, kb_m102, kb_m101, kb_6, kb_7, kb_8, kb_9, kb_10, kb_12, kb_16, kb_19, kb_20, kb_31, kb_32, kb_40, kb_42, kb_44, kb_47, kb_48, kb_49, kb_57, kb_63, kb_96, kb_99, kb_100, kb_103, kb_111, kb_112, kb_114, kb_116, kb_119, kb_126, kb_127, kc_m1, kc_0, kc_1, kc_2, kc_3, kc_4, kc_5, kc_6, kc_7, kc_8, kc_9, kc_10, kc_11, kc_12, kc_13, kc_14, kc_15, kc_16, kc_17, kc_18, kc_19, kc_20, kc_21, kc_22, kc_23, kc_24, kc_25, kc_26, kc_27, kc_28, kc_29, kc_103, kc_114, kc_116, kc_119, kl_0, kl_1, ks_200, ks_255, ks_288, i_Mo_clear_0, i_Mo_clear_1, i_Mo_clear_4, i_Mo_clear_5, i_Mo_clear_6, i_Mo_clear_7, i_Mo_clear_10, i_Mo_clear_11, ml_0, ml_1, ml_2, ml_3, ml_4, ml_5, ml_6, ml_7, ml_8, ml_9, ml_10, ml_11, ml_12, ml_13, ml_14, ml_15, ml_16, ml_17, ml_18, ml_19, ml_20, ml_21, ml_22, ml_23, ml_24, ml_25, ml_26, ml_27, ml_28, ml_29, ml_30, ml_31, ml_32, ml_33, ms_1, ms_2, ms_3, ms_4, ms_5, ms_6, ms_7, ms_9, ms_12, ms_18, ms_20, ms_26, ms_27, ms_33, ml_n, sc_r, hk_ij, hk_i0, hk_0j, Nat.reduceEqDiff, e0, m3.2.1]
  exact hQ _ ((off_r Y 21 h).set (by omega) (by omega) _) ⟨sc c 18 0, u, R, W, hR.O _ _, moP_c m1 rfl rfl rfl rfl, moM_c m2 rfl rfl rfl, ⟨m3.1, rfl, m3.2.2.1, fun t ht => absurd ht (Nat.not_lt_zero t)⟩, m4, m5, m6⟩
set_option maxRecDepth 20000 in
theorem s_Mo_trace (d Y : Nat) (x : FS) (t r : Int32) (h : XH) (z : Nat) (Q : XQ) (hO : OKx x) (hM : MoAt h Y x) (hQ : ∀ h', off Y 21 h h' → MoAt h' Y (x.setS (trcN x.S t r)) → Q (some (.int (trcA x.S t r))) h' z) : CALL (d + 2) m_Mo_trace [.ref Y, .int t, .int r] h z Q := by
  obtain ⟨c, u, R, W, hR, m1, m2, m3, m4, m5, m6⟩ := id hM
  have e0 := hR.1
  have ea := hR.r10
  have c18 := m3.2.1
  have h4 := hO.2.2.1.2.1
  have same : ∀ {S' : SH}, S' = x.S → MoAt h Y (x.setS S') := fun e => by subst e; exact hM
  refine ⟨Nat.le_of_ble_eq_true rfl, ?_⟩
  show AR (d + 2) m_Mo_trace 0 0 [some (.ref Y), some (.int t), some (.int r)] [] h z Q
  refine run [] 30 ok_m_Mo_trace (fun V hV => ?_)
  simp only [hV, sPush, sIld, sLld, sAld, sIst, sLst, sAst, sInc, sBI, sBL, sDI, sDL, sSL, sUI, sIL, sLI, sCmp, sDup, sDup2, sGo, sIf, sCm, sNul, sGet, sPut, sIal, sCal, sLal, sAal, sIas, sCas, sLas, sAas, sLen, sNew, sNar, sMna, sIns, sSw, swK, sIret, sLret, sAret, sVret, sSta, sSpe, sVir, sObj, sMax, sMin, sAcp, popN, catS, stdC, callA, gL, stI, stL, clr, cat1, cH, if_true, if_false, reduceIte, List.mem_cons, List.not_mem_nil, or_false, false_or, or_self, List.lookup_cons, List.lookup_nil, Option.toList_some, Option.toList_none, List.cons_append, List.nil_append, List.reverse_cons, List.reverse_nil, true_and, and_true, true_or, or_true, hset_s, hset_hset, List.getElem?_cons_zero, List.getElem?_cons_succ, List.set_cons_zero, List.set_cons_succ, List.length_cons, List.length_nil, beq_self_eq_true, Nat.reduceBEq, va_rf,  not_true_eq_false, not_false_eq_true, false_implies, true_implies, forall_const, ne_eq, eq_self, Nat.reduceAdd, Nat.reduceSub, Nat.reduceLeDiff, Nat.reduceLT, zlt_s, Nat.reduceEqDiff, Nat.zero_le, Nat.sub_zero, Nat.le_refl, imp_self, bI_0, nr_b, nr_b0, nr_b1, nr_i, nr_l, nr_a, nr_o, ft_i, ft_b1, ft_l, ft_a, ft_o, Classical.not_not, kb_m104, kb_m103, kb_m102, kb_m101, kb_6, kb_7, kb_8, kb_9, kb_10, kb_12, kb_16, kb_19, kb_20, kb_31, kb_32, kb_40, kb_42, kb_44, kb_47, kb_48, kb_49, kb_57, kb_63, kb_96, kb_99, kb_100, kb_103, kb_111, kb_112, kb_114, kb_116, kb_119, kb_126, kb_127, kc_m1, kc_0, kc_1, kc_2, kc_3, kc_4, kc_5, kc_6, kc_7, kc_8, kc_9, kc_10, kc_11, kc_12, kc_13, kc_14, kc_15, kc_16, kc_17, kc_18, kc_19, kc_20, kc_21, kc_22, kc_23, kc_24, kc_25, kc_26, kc_27, kc_28, kc_29, kc_103, kc_114, kc_116, kc_119, kl_0, kl_1, ks_200, ks_255, ks_288, i_Mo_trace_0, i_Mo_trace_1, i_Mo_trace_4, i_Mo_trace_7, i_Mo_trace_8, i_Mo_trace_9, i_Mo_trace_12, i_Mo_trace_15, i_Mo_trace_18, i_Mo_trace_21, i_Mo_trace_23, i_Mo_trace_24, i_Mo_trace_25, i_Mo_trace_28, i_Mo_trace_29, i_Mo_trace_32, i_Mo_trace_34, i_Mo_trace_35, i_Mo_trace_36, i_Mo_trace_39, i_Mo_trace_40, i_Mo_trace_41, i_Mo_trace_44, i_Mo_trace_45, i_Mo_trace_46, i_Mo_trace_47, i_Mo_trace_48, i_Mo_trace_51, i_Mo_trace_52, i_Mo_trace_53, i_Mo_trace_56, i_Mo_trace_57, i_Mo_trace_58, i_Mo_trace_59, i_Mo_trace_60, i_Mo_trace_61, i_Mo_trace_62, i_Mo_trace_63, i_Mo_trace_66, i_Mo_trace_67, i_Mo_trace_68, i_Mo_trace_71, i_Mo_trace_72, i_Mo_trace_75, ml_0, ml_1, ml_2, ml_3, ml_4, ml_5, ml_6, ml_7, ml_8, ml_9, ml_10, ml_11, ml_12, ml_13, ml_14, ml_15, ml_16, ml_17, ml_18, ml_19, ml_20, ml_21, ml_22, ml_23, ml_24, ml_25, ml_26, ml_27, ml_28, ml_29, ml_30, ml_31, ml_32, ml_33, ms_1, ms_2, ms_3, ms_4, ms_5, ms_6, ms_7, ms_9, ms_12, ms_18, ms_20, ms_26, ms_27, ms_33, ml_n, sc_r, hk_ij, hk_i0, hk_0j, Nat.reduceEqDiff]
  refine s_Mo_isSide _ _ _ _ _ ?_
  by_cases ct : inP t 8
  · refine run [] 30 ok_m_Mo_trace (fun V hV => ?_)
    simp only [hV, sPush, sIld, sLld, sAld, sIst, sLst, sAst, sInc, sBI, sBL, sDI, sDL, sSL, sUI, sIL, sLI, sCmp, sDup, sDup2, sGo, sIf, sCm, sNul, sGet, sPut, sIal, sCal, sLal, sAal, sIas, sCas, sLas, sAas, sLen, sNew, sNar, sMna, sIns, sSw, swK, sIret, sLret, sAret, sVret, sSta, sSpe, sVir, sObj, sMax, sMin, sAcp, popN, catS, stdC, callA, gL, stI, stL, clr, cat1, cH, if_true, if_false, reduceIte, List.mem_cons, List.not_mem_nil, or_false, false_or, or_self, List.lookup_cons, List.lookup_nil, Option.toList_some, Option.toList_none, List.cons_append, List.nil_append, List.reverse_cons, List.reverse_nil, true_and, and_true, true_or, or_true, hset_s, hset_hset, List.getElem?_cons_zero, List.getElem?_cons_succ, List.set_cons_zero, List.set_cons_succ, List.length_cons, List.length_nil, beq_self_eq_true, Nat.reduceBEq, va_rf,  not_true_eq_false, not_false_eq_true, false_implies, true_implies, forall_const, ne_eq, eq_self, Nat.reduceAdd, Nat.reduceSub, Nat.reduceLeDiff, Nat.reduceLT, zlt_s, Nat.reduceEqDiff, Nat.zero_le, Nat.sub_zero, Nat.le_refl, imp_self, bI_0, nr_b, nr_b0, nr_b1, nr_i, nr_l, nr_a, nr_o, ft_i, ft_b1, ft_l, ft_a, ft_o, Classical.not_not, kb_m104, kb_m103, kb_m102, kb_m101, kb_6, kb_7, kb_8, kb_9, kb_10, kb_12, kb_16, kb_19, kb_20, kb_31, kb_32, kb_40, kb_42, kb_44, kb_47, kb_48, kb_49, kb_57, kb_63, kb_96, kb_99, kb_100, kb_103, kb_111, kb_112, kb_114, kb_116, kb_119, kb_126, kb_127, kc_m1, kc_0, kc_1, kc_2, kc_3, kc_4, kc_5, kc_6, kc_7, kc_8, kc_9, kc_10, kc_11, kc_12, kc_13, kc_14, kc_15, kc_16, kc_17, kc_18, kc_19, kc_20, kc_21, kc_22, kc_23, kc_24, kc_25, kc_26, kc_27, kc_28, kc_29, kc_103, kc_114, kc_116, kc_119, kl_0, kl_1, ks_200, ks_255, ks_288, i_Mo_trace_0, i_Mo_trace_1, i_Mo_trace_4, i_Mo_trace_7, i_Mo_trace_8, i_Mo_trace_9, i_Mo_trace_12, i_Mo_trace_15, i_Mo_trace_18, i_Mo_trace_21, i_Mo_trace_23, i_Mo_trace_24, i_Mo_trace_25, i_Mo_trace_28, i_Mo_trace_29, i_Mo_trace_32, i_Mo_trace_34, i_Mo_trace_35, i_Mo_trace_36, i_Mo_trace_39, i_Mo_trace_40, i_Mo_trace_41, i_Mo_trace_44, i_Mo_trace_45, i_Mo_trace_46, i_Mo_trace_47, i_Mo_trace_48, i_Mo_trace_51, i_Mo_trace_52, i_Mo_trace_53, i_Mo_trace_56, i_Mo_trace_57, i_Mo_trace_58, i_Mo_trace_59, i_Mo_trace_60, i_Mo_trace_61, i_Mo_trace_62, i_Mo_trace_63, i_Mo_trace_66, i_Mo_trace_67, i_Mo_trace_68, i_Mo_trace_71, i_Mo_trace_72, i_Mo_trace_75, ml_0, ml_1, ml_2, ml_3, ml_4, ml_5, ml_6, ml_7, ml_8, ml_9, ml_10, ml_11, ml_12, ml_13, ml_14, ml_15, ml_16, ml_17, ml_18, ml_19, ml_20, ml_21, ml_22, ml_23, ml_24, ml_25, ml_26, ml_27, ml_28, ml_29, ml_30, ml_31, ml_32, ml_33, ms_1, ms_2, ms_3, ms_4, ms_5, ms_6, ms_7, ms_9, ms_12, ms_18, ms_20, ms_26, ms_27, ms_33, ml_n, sc_r, hk_ij, hk_i0, hk_0j, Nat.reduceEqDiff, bI_t ct, i10]
    refine s_Mo_inI _ _ _ _ _ _ (show _ = (2 : Int) from rfl) (show _ = (19 : Int) from rfl) _ _ _ ?_
    by_cases cr : inR r
    · by_cases c4 : x.S.nt = 4
      · have := hQ h (off_r _ _ _) (same (by rw [trcN, if_neg (fun q => by omega)]))
        rw [trcA, if_pos ⟨ct, cr⟩, if_neg (by omega)] at this
        refine run [] 30 ok_m_Mo_trace (fun V hV => ?_)
        simp only [hV, sPush, sIld, sLld, sAld, sIst, sLst, sAst, sInc, sBI, sBL, sDI, sDL, sSL, sUI, sIL, sLI, sCmp, sDup, sDup2, sGo, sIf, sCm, sNul, sGet, sPut, sIal, sCal, sLal, sAal, sIas, sCas, sLas, sAas, sLen, sNew, sNar, sMna, sIns, sSw, swK, sIret, sLret, sAret, sVret, sSta, sSpe, sVir, sObj, sMax, sMin, sAcp, popN, catS, stdC, callA, gL, stI, stL, clr, cat1, cH, if_true, if_false, reduceIte, List.mem_cons, List.not_mem_nil, or_false, false_or, or_self, List.lookup_cons, List.lookup_nil, Option.toList_some, Option.toList_none, List.cons_append, List.nil_append, List.reverse_cons, List.reverse_nil, true_and, and_true, true_or, or_true, hset_s, hset_hset, List.getElem?_cons_zero, List.getElem?_cons_succ, List.set_cons_zero, List.set_cons_succ, List.length_cons, List.length_nil, beq_self_eq_true, Nat.reduceBEq, va_rf,  not_true_eq_false, not_false_eq_true, false_implies, true_implies, forall_const, ne_eq, eq_self, Nat.reduceAdd, Nat.reduceSub, Nat.reduceLeDiff, Nat.reduceLT, zlt_s, Nat.reduceEqDiff, Nat.zero_le, Nat.sub_zero, Nat.le_refl, imp_self, bI_0, nr_b, nr_b0, nr_b1, nr_i, nr_l, nr_a, nr_o, ft_i, ft_b1, ft_l, ft_a, ft_o, Classical.not_not, kb_m104, kb_m103, kb_m102, kb_m101, kb_6, kb_7, kb_8, kb_9, kb_10, kb_12, kb_16, kb_19, kb_20, kb_31, kb_32, kb_40, kb_42, kb_44, kb_47, kb_48, kb_49, kb_57, kb_63, kb_96, kb_99, kb_100, kb_103, kb_111, kb_112, kb_114, kb_116, kb_119, kb_126, kb_127, kc_m1, kc_0, kc_1, kc_2, kc_3, kc_4, kc_5, kc_6, kc_7, kc_8, kc_9, kc_10, kc_11, kc_12, kc_13, kc_14, kc_15, kc_16, kc_17, kc_18, kc_19, kc_20, kc_21, kc_22, kc_23, kc_24, kc_25, kc_26, kc_27, kc_28, kc_29, kc_103, kc_114, kc_116, kc_119, kl_0, kl_1, ks_200, ks_255, ks_288, i_Mo_trace_0, i_Mo_trace_1, i_Mo_trace_4, i_Mo_trace_7, i_Mo_trace_8, i_Mo_trace_9, i_Mo_trace_12, i_Mo_trace_15, i_Mo_trace_18, i_Mo_trace_21, i_Mo_trace_23, i_Mo_trace_24, i_Mo_trace_25, i_Mo_trace_28, i_Mo_trace_29, i_Mo_trace_32, i_Mo_trace_34, i_Mo_trace_35, i_Mo_trace_36, i_Mo_trace_39, i_Mo_trace_40, i_Mo_trace_41, i_Mo_trace_44, i_Mo_trace_45, i_Mo_trace_46, i_Mo_trace_47, i_Mo_trace_48, i_Mo_trace_51, i_Mo_trace_52, i_Mo_trace_53, i_Mo_trace_56, i_Mo_trace_57, i_Mo_trace_58, i_Mo_trace_59, i_Mo_trace_60, i_Mo_trace_61, i_Mo_trace_62, i_Mo_trace_63, i_Mo_trace_66, i_Mo_trace_67, i_Mo_trace_68, i_Mo_trace_71, i_Mo_trace_72, i_Mo_trace_75, ml_0, ml_1, ml_2, ml_3, ml_4, ml_5, ml_6, ml_7, ml_8, ml_9, ml_10, ml_11, ml_12, ml_13, ml_14, ml_15, ml_16, ml_17, ml_18, ml_19, ml_20, ml_21, ml_22, ml_23, ml_24, ml_25, ml_26, ml_27, ml_28, ml_29, ml_30, ml_31, ml_32, ml_33, ms_1, ms_2, ms_3, ms_4, ms_5, ms_6, ms_7, ms_9, ms_12, ms_18, ms_20, ms_26, ms_27, ms_33, ml_n, sc_r, hk_ij, hk_i0, hk_0j, Nat.reduceEqDiff, bI_t cr, i10, e0, c18, show (nI x.S.nt = 4) = True from eq_true (by rw [c4]; rfl)]
        exact this
      · have ix := ixN (i := 2 * x.S.nt) (N := 8) (by omega) (by omega)
        have cx := clN (i := 2 * x.S.nt) (by omega)
        have ix1 := ixN (i := 2 * x.S.nt + 1) (N := 8) (by omega) (by omega)
        have cx1 := clN (i := 2 * x.S.nt + 1) (by omega)
        refine run [] 60 ok_m_Mo_trace (fun V hV => ?_)
        simp only [hV, sPush, sIld, sLld, sAld, sIst, sLst, sAst, sInc, sBI, sBL, sDI, sDL, sSL, sUI, sIL, sLI, sCmp, sDup, sDup2, sGo, sIf, sCm, sNul, sGet, sPut, sIal, sCal, sLal, sAal, sIas, sCas, sLas, sAas, sLen, sNew, sNar, sMna, sIns, sSw, swK, sIret, sLret, sAret, sVret, sSta, sSpe, sVir, sObj, sMax, sMin, sAcp, popN, catS, stdC, callA, gL, stI, stL, clr, cat1, cH, if_true, if_false, reduceIte, List.mem_cons, List.not_mem_nil, or_false, false_or, or_self, List.lookup_cons, List.lookup_nil, Option.toList_some, Option.toList_none, List.cons_append, List.nil_append, List.reverse_cons, List.reverse_nil, true_and, and_true, true_or, or_true, hset_s, hset_hset, List.getElem?_cons_zero, List.getElem?_cons_succ, List.set_cons_zero, List.set_cons_succ, List.length_cons, List.length_nil, beq_self_eq_true, Nat.reduceBEq, va_rf,  not_true_eq_false, not_false_eq_true, false_implies, true_implies, forall_const, ne_eq, eq_self, Nat.reduceAdd, Nat.reduceSub, Nat.reduceLeDiff, Nat.reduceLT, zlt_s, Nat.reduceEqDiff, Nat.zero_le, Nat.sub_zero, Nat.le_refl, imp_self, bI_0, nr_b, nr_b0, nr_b1, nr_i, nr_l, nr_a, nr_o, ft_i, ft_b1, ft_l, ft_a, ft_o, Classical.not_not, kb_m104, kb_m103, kb_m102, kb_m101, kb_6, kb_7, kb_8, kb_9, kb_10, kb_12, kb_16, kb_19, kb_20, kb_31, kb_32, kb_40, kb_42, kb_44, kb_47, kb_48, kb_49, kb_57, kb_63, kb_96, kb_99, kb_100, kb_103, kb_111, kb_112, kb_114, kb_116, kb_119, kb_126, kb_127, kc_m1, kc_0, kc_1, kc_2, kc_3, kc_4, kc_5, kc_6, kc_7, kc_8, kc_9, kc_10, kc_11, kc_12, kc_13, kc_14, kc_15, kc_16, kc_17, kc_18, kc_19, kc_20, kc_21, kc_22, kc_23, kc_24, kc_25, kc_26, kc_27, kc_28, kc_29, kc_103, kc_114, kc_116, kc_119, kl_0, kl_1, ks_200, ks_255, ks_288, i_Mo_trace_0, i_Mo_trace_1, i_Mo_trace_4, i_Mo_trace_7, i_Mo_trace_8, i_Mo_trace_9, i_Mo_trace_12, i_Mo_trace_15, i_Mo_trace_18, i_Mo_trace_21, i_Mo_trace_23, i_Mo_trace_24, i_Mo_trace_25, i_Mo_trace_28, i_Mo_trace_29, i_Mo_trace_32, i_Mo_trace_34, i_Mo_trace_35, i_Mo_trace_36, i_Mo_trace_39, i_Mo_trace_40, i_Mo_trace_41, i_Mo_trace_44, i_Mo_trace_45, i_Mo_trace_46, i_Mo_trace_47, i_Mo_trace_48, i_Mo_trace_51, i_Mo_trace_52, i_Mo_trace_53, i_Mo_trace_56, i_Mo_trace_57, i_Mo_trace_58, i_Mo_trace_59, i_Mo_trace_60, i_Mo_trace_61, i_Mo_trace_62, i_Mo_trace_63, i_Mo_trace_66, i_Mo_trace_67, i_Mo_trace_68, i_Mo_trace_71, i_Mo_trace_72, i_Mo_trace_75, ml_0, ml_1, ml_2, ml_3, ml_4, ml_5, ml_6, ml_7, ml_8, ml_9, ml_10, ml_11, ml_12, ml_13, ml_14, ml_15, ml_16, ml_17, ml_18, ml_19, ml_20, ml_21, ml_22, ml_23, ml_24, ml_25, ml_26, ml_27, ml_28, ml_29, ml_30, ml_31, ml_32, ml_33, ms_1, ms_2, ms_3, ms_4, ms_5, ms_6, ms_7, ms_9, ms_12, ms_18, ms_20, ms_26, ms_27, ms_33, ml_n, sc_r, hk_ij, hk_i0, hk_0j, Nat.reduceEqDiff, bI_t cr, i10, e0, ea, c18, show (nI x.S.nt = 4) = (x.S.nt = 4) from nI_lit (k := 4) (by omega) (by omega), c4, j2, ix, cx, nI_1, ix1, cx1]
        have := hQ _ ((((off_r Y 21 h).set (q := Y + 10) (by omega) (by omega) (.inl (0, 8, .inl (upd (R 10) (2 * x.S.nt) t)))).set (q := Y + 10) (by omega) (by omega) (.inl (0, 8, .inl (upd (upd (R 10) (2 * x.S.nt) t) (2 * x.S.nt + 1) r)))).set (q := Y) (by omega) (by omega) (.inr (11, moL Y (sc c 18 (nI (x.S.nt + 1))) u)))
        rw [trcA, if_pos ⟨ct, cr⟩, if_pos (by omega), trcN, if_pos ⟨ct, cr, by omega⟩, hset_hset] at this
        refine this ⟨sc c 18 (nI (x.S.nt + 1)), u, upR R 10 (upd (upd (R 10) (2 * x.S.nt) t) (2 * x.S.nt + 1) r), W, (hR.R 10 8 (by omega) (by omega) (by omega) rfl _).O _ _, moP_c m1 rfl rfl rfl rfl, moM_c m2 rfl rfl rfl, ⟨m3.1, rfl, m3.2.2.1, fun i hi => ?_⟩, m4, m5, m6⟩
        obtain ⟨t, ht, rfl⟩ := of_in (by omega) ct
        obtain ⟨r, hr, rfl⟩ := of_in (x := r) (n := 20) (by omega) ⟨by omega, by omega⟩
        rw [toN (by omega), toN (by omega)]
        show upd (upd (R 10) (2 * x.S.nt) (nI t)) (2 * x.S.nt + 1) (nI r) (2 * i) = nI (upN x.S.ts x.S.nt t i) ∧ upd (upd (R 10) (2 * x.S.nt) (nI t)) (2 * x.S.nt + 1) (nI r) (2 * i + 1) = nI (upN x.S.tr x.S.nt r i)
        have hi' : i < x.S.nt + 1 := hi
        by_cases e : i = x.S.nt
        · subst e
          rw [upd_n _ _ (by omega), upd_s, upd_s]
          simp [upN]
        · rw [upd_n _ _ (by omega), upd_n _ _ (by omega), upd_n _ _ (by omega), upd_n _ _ (by omega)]
          simp only [upN, if_neg e]
          exact m3.2.2.2 i (by omega)
    · have := hQ h (off_r _ _ _) (same (by rw [trcN, if_neg (fun q => cr q.2.1)]))
      rw [trcA, if_neg (fun q => cr q.2)] at this
      refine run [] 30 ok_m_Mo_trace (fun V hV => ?_)
      simp only [hV, sPush, sIld, sLld, sAld, sIst, sLst, sAst, sInc, sBI, sBL, sDI, sDL, sSL, sUI, sIL, sLI, sCmp, sDup, sDup2, sGo, sIf, sCm, sNul, sGet, sPut, sIal, sCal, sLal, sAal, sIas, sCas, sLas, sAas, sLen, sNew, sNar, sMna, sIns, sSw, swK, sIret, sLret, sAret, sVret, sSta, sSpe, sVir, sObj, sMax, sMin, sAcp, popN, catS, stdC, callA, gL, stI, stL, clr, cat1, cH, if_true, if_false, reduceIte, List.mem_cons, List.not_mem_nil, or_false, false_or, or_self, List.lookup_cons, List.lookup_nil, Option.toList_some, Option.toList_none, List.cons_append, List.nil_append, List.reverse_cons, List.reverse_nil, true_and, and_true, true_or, or_true, hset_s, hset_hset, List.getElem?_cons_zero, List.getElem?_cons_succ, List.set_cons_zero, List.set_cons_succ, List.length_cons, List.length_nil, beq_self_eq_true, Nat.reduceBEq, va_rf,  not_true_eq_false, not_false_eq_true, false_implies, true_implies, forall_const, ne_eq, eq_self, Nat.reduceAdd, Nat.reduceSub, Nat.reduceLeDiff, Nat.reduceLT, zlt_s, Nat.reduceEqDiff, Nat.zero_le, Nat.sub_zero, Nat.le_refl, imp_self, bI_0, nr_b, nr_b0, nr_b1, nr_i, nr_l, nr_a, nr_o, ft_i, ft_b1, ft_l, ft_a, ft_o, Classical.not_not, kb_m104, kb_m103, kb_m102, kb_m101, kb_6, kb_7, kb_8, kb_9, kb_10, kb_12, kb_16, kb_19, kb_20, kb_31, kb_32, kb_40, kb_42, kb_44, kb_47, kb_48, kb_49, kb_57, kb_63, kb_96, kb_99, kb_100, kb_103, kb_111, kb_112, kb_114, kb_116, kb_119, kb_126, kb_127, kc_m1, kc_0, kc_1, kc_2, kc_3, kc_4, kc_5, kc_6, kc_7, kc_8, kc_9, kc_10, kc_11, kc_12, kc_13, kc_14, kc_15, kc_16, kc_17, kc_18, kc_19, kc_20, kc_21, kc_22, kc_23, kc_24, kc_25, kc_26, kc_27, kc_28, kc_29, kc_103, kc_114, kc_116, kc_119, kl_0, kl_1, ks_200, ks_255, ks_288, i_Mo_trace_0, i_Mo_trace_1, i_Mo_trace_4, i_Mo_trace_7, i_Mo_trace_8, i_Mo_trace_9, i_Mo_trace_12, i_Mo_trace_15, i_Mo_trace_18, i_Mo_trace_21, i_Mo_trace_23, i_Mo_trace_24, i_Mo_trace_25, i_Mo_trace_28, i_Mo_trace_29, i_Mo_trace_32, i_Mo_trace_34, i_Mo_trace_35, i_Mo_trace_36, i_Mo_trace_39, i_Mo_trace_40, i_Mo_trace_41, i_Mo_trace_44, i_Mo_trace_45, i_Mo_trace_46, i_Mo_trace_47, i_Mo_trace_48, i_Mo_trace_51, i_Mo_trace_52, i_Mo_trace_53, i_Mo_trace_56, i_Mo_trace_57, i_Mo_trace_58, i_Mo_trace_59, i_Mo_trace_60, i_Mo_trace_61, i_Mo_trace_62, i_Mo_trace_63, i_Mo_trace_66, i_Mo_trace_67, i_Mo_trace_68, i_Mo_trace_71, i_Mo_trace_72, i_Mo_trace_75, ml_0, ml_1, ml_2, ml_3, ml_4, ml_5, ml_6, ml_7, ml_8, ml_9, ml_10, ml_11, ml_12, ml_13, ml_14, ml_15, ml_16, ml_17, ml_18, ml_19, ml_20, ml_21, ml_22, ml_23, ml_24, ml_25, ml_26, ml_27, ml_28, ml_29, ml_30, ml_31, ml_32, ml_33, ms_1, ms_2, ms_3, ms_4, ms_5, ms_6, ms_7, ms_9, ms_12, ms_18, ms_20, ms_26, ms_27, ms_33, ml_n, sc_r, hk_ij, hk_i0, hk_0j, Nat.reduceEqDiff, bI_f cr]
      exact this
  · have := hQ h (off_r _ _ _) (same (by rw [trcN, if_neg (fun q => ct q.1)]))
    rw [trcA, if_neg (fun q => ct q.1)] at this
    refine run [] 30 ok_m_Mo_trace (fun V hV => ?_)
    simp only [hV, sPush, sIld, sLld, sAld, sIst, sLst, sAst, sInc, sBI, sBL, sDI, sDL, sSL, sUI, sIL, sLI, sCmp, sDup, sDup2, sGo, sIf, sCm, sNul, sGet, sPut, sIal, sCal, sLal, sAal, sIas, sCas, sLas, sAas, sLen, sNew, sNar, sMna, sIns, sSw, swK, sIret, sLret, sAret, sVret, sSta, sSpe, sVir, sObj, sMax, sMin, sAcp, popN, catS, stdC, callA, gL, stI, stL, clr, cat1, cH, if_true, if_false, reduceIte, List.mem_cons, List.not_mem_nil, or_false, false_or, or_self, List.lookup_cons, List.lookup_nil, Option.toList_some, Option.toList_none, List.cons_append, List.nil_append, List.reverse_cons, List.reverse_nil, true_and, and_true, true_or, or_true, hset_s, hset_hset, List.getElem?_cons_zero, List.getElem?_cons_succ, List.set_cons_zero, List.set_cons_succ, List.length_cons, List.length_nil, beq_self_eq_true, Nat.reduceBEq, va_rf,  not_true_eq_false, not_false_eq_true, false_implies, true_implies, forall_const, ne_eq, eq_self, Nat.reduceAdd, Nat.reduceSub, Nat.reduceLeDiff, Nat.reduceLT, zlt_s, Nat.reduceEqDiff, Nat.zero_le, Nat.sub_zero, Nat.le_refl, imp_self, bI_0, nr_b, nr_b0, nr_b1, nr_i, nr_l, nr_a, nr_o, ft_i, ft_b1, ft_l, ft_a, ft_o, Classical.not_not, kb_m104, kb_m103, kb_m102, kb_m101, kb_6, kb_7, kb_8, kb_9, kb_10, kb_12, kb_16, kb_19, kb_20, kb_31, kb_32, kb_40, kb_42, kb_44, kb_47, kb_48, kb_49, kb_57, kb_63, kb_96, kb_99, kb_100, kb_103, kb_111, kb_112, kb_114, kb_116, kb_119, kb_126, kb_127, kc_m1, kc_0, kc_1, kc_2, kc_3, kc_4, kc_5, kc_6, kc_7, kc_8, kc_9, kc_10, kc_11, kc_12, kc_13, kc_14, kc_15, kc_16, kc_17, kc_18, kc_19, kc_20, kc_21, kc_22, kc_23, kc_24, kc_25, kc_26, kc_27, kc_28, kc_29, kc_103, kc_114, kc_116, kc_119, kl_0, kl_1, ks_200, ks_255, ks_288, i_Mo_trace_0, i_Mo_trace_1, i_Mo_trace_4, i_Mo_trace_7, i_Mo_trace_8, i_Mo_trace_9, i_Mo_trace_12, i_Mo_trace_15, i_Mo_trace_18, i_Mo_trace_21, i_Mo_trace_23, i_Mo_trace_24, i_Mo_trace_25, i_Mo_trace_28, i_Mo_trace_29, i_Mo_trace_32, i_Mo_trace_34, i_Mo_trace_35, i_Mo_trace_36, i_Mo_trace_39, i_Mo_trace_40, i_Mo_trace_41, i_Mo_trace_44, i_Mo_trace_45, i_Mo_trace_46, i_Mo_trace_47, i_Mo_trace_48, i_Mo_trace_51, i_Mo_trace_52, i_Mo_trace_53, i_Mo_trace_56, i_Mo_trace_57, i_Mo_trace_58, i_Mo_trace_59, i_Mo_trace_60, i_Mo_trace_61, i_Mo_trace_62, i_Mo_trace_63, i_Mo_trace_66, i_Mo_trace_67, i_Mo_trace_68, i_Mo_trace_71, i_Mo_trace_72, i_Mo_trace_75, ml_0, ml_1, ml_2, ml_3, ml_4, ml_5, ml_6, ml_7, ml_8, ml_9, ml_10, ml_11, ml_12, ml_13, ml_14, ml_15, ml_16, ml_17, ml_18, ml_19, ml_20, ml_21, ml_22, ml_23, ml_24, ml_25, ml_26, ml_27, ml_28, ml_29, ml_30, ml_31, ml_32, ml_33, ms_1, ms_2, ms_3, ms_4, ms_5, ms_6, ms_7, ms_9, ms_12, ms_18, ms_20, ms_26, ms_27, ms_33, ml_n, sc_r, hk_ij, hk_i0, hk_0j, Nat.reduceEqDiff, bI_f ct]
    exact this
theorem bs_t : ∀ v, v < 256 → ∀ t, t < 8 → v.testBit t = false → nI v + ((1 : Int32) <<< (nI t &&& 31)) = nI (v ||| 2 ^ t) := by decide +kernel
theorem bs_f : ∀ v, v < 256 → ∀ t, t < 8 → v.testBit t = true → nI v + -((1 : Int32) <<< (nI t &&& 31)) = nI (v - 2 ^ t) := by decide +kernel
theorem bs_s : ∀ v, v < 256 → ∀ t, t < 8 → v.testBit t = true → v ||| 2 ^ t = v := by decide +kernel
theorem setb_s {v t : Nat} (hv : v < 256) (ht : t < 8) (p : Bool) (e : v.testBit t = p) : setb v t p = v := by
  subst e
  unfold setb
  by_cases c : v.testBit t = true
  · rw [if_pos c, bs_s v hv t ht c]
  · rw [if_neg c, if_neg c]
theorem putB_s (f : Nat → Nat) (c : Bool) (i : Nat) : putB f c i (f i) = f := by
  funext j
  cases c
  · rfl
  · show upN f i (f i) j = f j
    unfold upN
    by_cases e : j = i
    · rw [if_pos e, e]
    · rw [if_neg e]
theorem upN_id (f : Nat → Nat) (i : Nat) : upN f i (f i) = f := by
  funext j
  unfold upN
  by_cases e : j = i
  · rw [if_pos e, e]
  · rw [if_neg e]
theorem upF_id (f : Nat → Nat → Nat) (i : Nat) : upF f i (f i) = f := by
  funext j
  unfold upF
  by_cases e : j = i
  · rw [if_pos e, e]
  · rw [if_neg e]
theorem setp_id (S : SH) (p : Nat) : S.setp S.n p (S.sz p) (S.f p) (S.b p) (S.w p) = S := by
  unfold SH.setp
  rw [upN_id, upF_id, upF_id, upF_id]
  rfl
