/-- the walk, over any V that unfolds as vc does: so nobody unfolds it but by its rows -/
theorem run {d : Nat} {M : MR} {Q : XQ} (cuts : List Nat) (n : Nat) (hM : MOK M) {pc : Nat} {L : XL} {st : List Value} {h : XH} {z b : Nat} (k : ∀ V : Nat → XK, (∀ (n pc : Nat) (L : XL) (st : List Value) (h : XH) (z b : Nat), V (n + 1) pc L st h z b = if pc ∈ cuts then AR d M b pc L st h z Q else opAt M pc L st h z b Q (V n) (stdC d M Q)) → opAt M pc L st h z b Q (V n) (stdC d M Q)) : AR d M b pc L st h z Q := vcs cuts n hM (k (vc d M Q cuts) (fun n pc L st h z b => vc_s d M Q cuts n pc L st h z b))
theorem kc_0 : Int32.ofInt 0 = 0 := rfl
theorem kc_1 : Int32.ofInt 1 = 1 := rfl
theorem kc_2 : Int32.ofInt 2 = 2 := rfl
theorem kc_3 : Int32.ofInt 3 = 3 := rfl
theorem kc_4 : Int32.ofInt 4 = 4 := rfl
theorem kc_5 : Int32.ofInt 5 = 5 := rfl
theorem kc_m1 : Int32.ofInt (-1) = -1 := rfl
theorem one_ne_zero_i : ((1 : Int32) = 0) = False := by decide
def bI (p : Prop) [Decidable p] : Int32 := if p then 1 else 0
theorem t1 (d : Nat) (x lo hi : Int32) (h : XH) (z : Nat) (Q : XQ) (k : AR d m_Fi_isWithin 0 0 [some (.int x), some (.int lo), some (.int hi)] [] h z Q) : CALL d m_Fi_isWithin [.int x, .int lo, .int hi] h z Q := by
  refine ⟨Nat.le_of_ble_eq_true rfl, ?_⟩
  exact k
theorem t2 (d : Nat) (x lo hi : Int32) (h : XH) (z : Nat) (Q : XQ) (hQ : Q (some (.int (bI (lo ≤ x ∧ x ≤ hi)))) h z) : AR d m_Fi_isWithin 0 0 [some (.int x), some (.int lo), some (.int hi)] [] h z Q := by
  refine run [] 40 ok_m_Fi_isWithin (fun V hV => ?_)
  simp only [hV, sPush, sIld, sLld, sAld, sIst, sLst, sAst, sInc, sBI, sBL, sDI, sDL, sSL, sUI, sIL, sLI, sCmp, sDup, sDup2, sGo, sIf, sCm, sNul, sGet, sPut, sIal, sCal, sLal, sAal, sIas, sCas, sLas, sAas, sLen, sNew, sNar, sMna, sIns, sSw, swK, sIret, sLret, sAret, sVret, sSta, sSpe, sVir, sObj, sMax, sMin, sAcp, popN, catS, stdC, callA, gL, stI, stL, clr, cat1, cH, if_true, if_false, reduceIte, List.mem_cons, List.not_mem_nil, or_false, false_or, or_self, List.lookup_cons, List.lookup_nil, Option.toList_some, Option.toList_none, List.cons_append, List.nil_append, List.reverse_cons, List.reverse_nil, true_and, and_true, not_true_eq_false, not_false_eq_true, false_implies, true_implies, forall_const, ne_eq, eq_self, kc_1, kc_2, kc_3, kc_4, kc_5, kc_m1, kc_0, Nat.reduceAdd, Nat.reduceSub, Nat.reduceLeDiff, Nat.reduceEqDiff, Nat.zero_le, Nat.sub_zero, Nat.le_refl, one_ne_zero_i, imp_self, i_Fi_isWithin_0, i_Fi_isWithin_1, i_Fi_isWithin_2, i_Fi_isWithin_5, i_Fi_isWithin_6, i_Fi_isWithin_7, i_Fi_isWithin_10, i_Fi_isWithin_11, i_Fi_isWithin_14, i_Fi_isWithin_15]
  sorry
