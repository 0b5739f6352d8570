/-! THE SHELF: its prints and traces -/
theorem nI_div {a b : Nat} (ha : a < 2 ^ 31) (hb : b < 2 ^ 31) : nI a / nI b = nI (a / b) := by
  apply Int32.toInt_inj.mp
  have h1 : (nI a / nI b).toInt = (nI a).toInt.tdiv (nI b).toInt := by
    apply Int32.toInt_div_of_ne_left
    intro e
    have := congrArg Int32.toInt e
    rw [nI_toInt ha] at this
    have : Int32.minValue.toInt < 0 := by decide
    omega
  rw [h1, nI_toInt ha, nI_toInt hb, nI_toInt (Nat.lt_of_le_of_lt (Nat.div_le_self _ _) ha), ← Int.ofNat_tdiv]
theorem nI_rem {a b : Nat} (ha : a < 2 ^ 31) (hb : b < 2 ^ 31) : nI a - nI a / nI b * nI b = nI (a % b) := by
  have h1 : a / b * b ≤ a := Nat.div_mul_le_self a b
  rw [nI_div ha hb, pk_mul, pk_sub h1]
  congr 1
  rw [Nat.mul_comm, ← Nat.mod_eq_sub]
theorem nI_ne {a : Nat} (ha : a < 2 ^ 31) : ¬ nI a = -1 := by
  intro e
  have := congrArg Int32.toInt e
  rw [nI_toInt ha] at this
  have z : (-1 : Int32).toInt = -1 := rfl
  omega
theorem nI_inj {a b : Nat} (ha : a < 2 ^ 31) (hb : b < 2 ^ 31) : (nI a = nI b) = (a = b) := by
  apply propext
  constructor
  · intro e
    have := congrArg Int32.toInt e
    rw [nI_toInt ha, nI_toInt hb] at this
    omega
  · intro e
    rw [e]
theorem nI_nle0 {n : Nat} (h0 : 0 < n) (h : n < 2 ^ 31) : ¬ nI n ≤ 0 := by
  have := nI_leI (a := n) (b := 0) h (by omega)
  intro c
  have := this.mp c
  omega
theorem m1_toInt {n : Nat} (h : n < 2 ^ 31) : (nI n - 1).toInt = (n : Int) - 1 := by
  cases n with
  | zero => rfl
  | succ k =>
    rw [nI_pred, nI_toInt (by omega)]
    omega
theorem of_in {x : Int32} {n : Nat} (hn : n < 2 ^ 31) (h : 0 ≤ x.toInt ∧ x.toInt ≤ (n : Int) - 1) : ∃ p, p < n ∧ x = nI p := by
  refine ⟨x.toInt.toNat, by omega, ?_⟩
  apply Int32.toInt_inj.mp
  rw [nI_toInt (by omega)]
  omega
theorem lastB_lt {p : Nat → Bool} : ∀ {k x : Nat}, lastB k p = some x → x < k := by
  intro k
  induction k with
  | zero => intro x h; simp [lastB] at h
  | succ k ih =>
    intro x h
    unfold lastB at h
    split at h
    · simp at h; omega
    · have := ih h; omega
theorem firstB_lt {p : Nat → Bool} : ∀ {m k x : Nat}, firstB p k m = some x → x < k + m := by
  intro m
  induction m with
  | zero => intro k x h; simp [firstB] at h
  | succ m ih =>
    intro k x h
    unfold firstB at h
    split at h
    · simp at h; omega
    · have := ih h; omega
/-- the prints and traces, as numbers -/
def SH : Type := Nat × (Nat → Nat) × (Nat → Nat → Nat) × (Nat → Nat → Nat) × (Nat → Nat → Nat) × Nat × (Nat → Nat) × (Nat → Nat)
def mkS (n : Nat) (sz : Nat → Nat) (f b w : Nat → Nat → Nat) (nt : Nat) (ts tr : Nat → Nat) : SH := (n, sz, f, b, w, nt, ts, tr)
def SH.n (S : SH) : Nat := S.1
def SH.sz (S : SH) : Nat → Nat := S.2.1
def SH.f (S : SH) : Nat → Nat → Nat := S.2.2.1
def SH.b (S : SH) : Nat → Nat → Nat := S.2.2.2.1
def SH.w (S : SH) : Nat → Nat → Nat := S.2.2.2.2.1
def SH.nt (S : SH) : Nat := S.2.2.2.2.2.1
def SH.ts (S : SH) : Nat → Nat := S.2.2.2.2.2.2.1
def SH.tr (S : SH) : Nat → Nat := S.2.2.2.2.2.2.2
def shc (s np nt : Nat) : XE := .inr (7, [.ref (s + 1), .int (nI np), .ref (s + 2), .ref (s + 3), .int (nI nt)])
def ShRaw (h : XH) (s np nt : Nat) (g : Nat → Option Nat) (T R : Nat → Int32) : Prop := h s = some (.inr (7, [.ref (s + 1), .int (nI np), .ref (s + 2), .ref (s + 3), .int (nI nt)])) ∧ h (s + 1) = some (.inl (5, 6, .inr (.inr (.inr (.inr g))))) ∧ h (s + 2) = some (.inl (0, 4, .inl T)) ∧ h (s + 3) = some (.inl (0, 4, .inl R)) ∧ (∀ i, i < 6 → g i = some (s + 4 + 5 * i)) ∧ ∀ i, i < 6 → ∃ n F B W P, PrRaw h (s + 4 + 5 * i) n F B W P
def ShAt (h : XH) (s : Nat) (S : SH) : Prop := S.n ≤ 6 ∧ S.nt ≤ 4 ∧ (∃ g T R, ShRaw h s S.n S.nt g T R ∧ ∀ i, i < S.nt → T i = nI (S.ts i) ∧ R i = nI (S.tr i) ∧ S.ts i < 8 ∧ 2 ≤ S.tr i ∧ S.tr i ≤ 19) ∧ ∀ i, i < S.n → 1 ≤ S.sz i ∧ PrAt h (s + 4 + 5 * i) (S.sz i) (S.f i) (S.b i) (S.w i)
theorem off.sub {a k b m : Nat} {h h' : XH} (x : off a k h h') (h1 : b ≤ a) (h2 : a + k ≤ b + m) : off b m h h' := fun q hq => x q (by omega)
theorem PrAt.raw {h : XH} {a n : Nat} {f b w : Nat → Nat} (x : PrAt h a n f b w) : ∃ n F B W P, PrRaw h a n F B W P := by
  obtain ⟨F, B, W, P, hR, -⟩ := x
  exact ⟨n, F, B, W, P, hR⟩
theorem PrAt.rows {h : XH} {a n : Nat} {f b w : Nat → Nat} (x : PrAt h a n f b w) (i : Nat) (hi : i < n) : (f i < 48 ∧ b i < 256 ∧ w i < 256) ∧ n ≤ 48 := by
  obtain ⟨F, B, W, P, -, ⟨hn, hr⟩, -⟩ := x
  exact ⟨(hr i hi).1, hn⟩
theorem ShRaw.hd {h h' : XH} {s np nt np' nt' : Nat} {g g' : Nat → Option Nat} {T R T' R' : Nat → Int32} (x : ShRaw h s np nt g T R) (o : off s 4 h h') (e0 : h' s = some (.inr (7, [.ref (s + 1), .int (nI np'), .ref (s + 2), .ref (s + 3), .int (nI nt')]))) (e1 : h' (s + 1) = some (.inl (5, 6, .inr (.inr (.inr (.inr g')))))) (e2 : h' (s + 2) = some (.inl (0, 4, .inl T'))) (e3 : h' (s + 3) = some (.inl (0, 4, .inl R'))) (e4 : ∀ i, i < 6 → g' i = some (s + 4 + 5 * i)) : ShRaw h' s np' nt' g' T' R' := by
  obtain ⟨-, -, -, -, -, x5⟩ := x
  refine ⟨e0, e1, e2, e3, e4, fun i hi => ?_⟩
  obtain ⟨n, F, B, W, P, hR⟩ := x5 i hi
  exact ⟨n, F, B, W, P, hR.kept (fun q h1 h2 => o q (by omega))⟩
theorem ShRaw.pr {h h' : XH} {s np nt : Nat} {g : Nat → Option Nat} {T R : Nat → Int32} (x : ShRaw h s np nt g T R) (i : Nat) (o : off (s + 4 + 5 * i) 5 h h') (y : ∃ n F B W P, PrRaw h' (s + 4 + 5 * i) n F B W P) : ShRaw h' s np nt g T R := by
  obtain ⟨x0, x1, x2, x3, x4, x5⟩ := x
  refine ⟨by rw [o _ (by omega)]; exact x0, by rw [o _ (by omega)]; exact x1, by rw [o _ (by omega)]; exact x2, by rw [o _ (by omega)]; exact x3, x4, fun j hj => ?_⟩
  by_cases c : j = i
  · subst c
    exact y
  · obtain ⟨n, F, B, W, P, hR⟩ := x5 j hj
    exact ⟨n, F, B, W, P, hR.kept (fun q h1 h2 => o q (by omega))⟩
theorem ShRaw.kept {h h' : XH} {s np nt : Nat} {g : Nat → Option Nat} {T R : Nat → Int32} (x : ShRaw h s np nt g T R) (o : ∀ q, s ≤ q → q < s + 34 → h' q = h q) : ShRaw h' s np nt g T R := by
  obtain ⟨x0, x1, x2, x3, x4, x5⟩ := x
  refine ⟨by rw [o _ (by omega) (by omega)]; exact x0, by rw [o _ (by omega) (by omega)]; exact x1, by rw [o _ (by omega) (by omega)]; exact x2, by rw [o _ (by omega) (by omega)]; exact x3, x4, fun j hj => ?_⟩
  obtain ⟨n, F, B, W, P, hR⟩ := x5 j hj
  exact ⟨n, F, B, W, P, hR.kept (fun q h1 h2 => o q (by omega) (by omega))⟩
theorem ShAt.kept {h h' : XH} {s : Nat} {S : SH} (x : ShAt h s S) (o : ∀ q, s ≤ q → q < s + 34 → h' q = h q) : ShAt h' s S := by
  obtain ⟨x0, x1, ⟨g, T, R, x2, x3⟩, x4⟩ := x
  exact ⟨x0, x1, ⟨g, T, R, x2.kept o, x3⟩, fun i hi => ⟨(x4 i hi).1, (x4 i hi).2.kept (fun q h1 h2 => o q (by omega) (by omega))⟩⟩
set_option maxRecDepth 20000 in
theorem s_Sh_printAt (d s np nt : Nat) (hnp : np ≤ 6) (g : Nat → Option Nat) (T R : Nat → Int32) (x : Int32) (h : XH) (z : Nat) (Q : XQ) (hS : ShRaw h s np nt g T R) (h1 : ∀ p, p < np → x = nI p → Q (some (.ref (s + 4 + 5 * p))) h z) (h2 : ¬ (0 ≤ x.toInt ∧ x.toInt ≤ (np : Int) - 1) → Q (some .null) h z) : CALL (d + 1) m_Sh_printAt [.ref s, .int x] h z Q := by
  obtain ⟨x0, x1, x2, x3, x4, x5⟩ := hS
  refine ⟨Nat.le_of_ble_eq_true rfl, ?_⟩
  show AR (d + 1) m_Sh_printAt 0 0 [some (.ref s), some (.int x)] [] h z Q
  refine run [] 30 ok_m_Sh_printAt (fun V hV => ?_)
  simp only [hV, sPush, sIld, sLld, sAld, sIst, sLst, sAst, sInc, sBI, sBL, sDI, sDL, sSL, sUI, sIL, sLI, sCmp, sDup, sDup2, sGo, sIf, sCm, sNul, sGet, sPut, sIal, sCal, sLal, sAal, sIas, sCas, sLas, sAas, sLen, sNew, sNar, sMna, sIns, sSw, swK, sIret, sLret, sAret, sVret, sSta, sSpe, sVir, sObj, sMax, sMin, sAcp, popN, catS, stdC, callA, gL, stI, stL, clr, cat1, cH, if_true, if_false, reduceIte, List.mem_cons, List.not_mem_nil, or_false, false_or, or_self, List.lookup_cons, List.lookup_nil, Option.toList_some, Option.toList_none, List.cons_append, List.nil_append, List.reverse_cons, List.reverse_nil, true_and, and_true, true_or, or_true, hset_s, hset_hset, List.getElem?_cons_zero, List.getElem?_cons_succ, List.set_cons_zero, List.set_cons_succ, List.length_cons, List.length_nil, beq_self_eq_true, Nat.reduceBEq, va_rf,  not_true_eq_false, not_false_eq_true, false_implies, true_implies, forall_const, ne_eq, eq_self, Nat.reduceAdd, Nat.reduceSub, Nat.reduceLeDiff, Nat.reduceLT, zlt_s, Nat.reduceEqDiff, Nat.zero_le, Nat.sub_zero, Nat.le_refl, imp_self, bI_0, nr_b, nr_b0, nr_b1, nr_i, nr_l, nr_a, nr_o, ft_i, ft_b1, ft_l, ft_a, ft_o, Classical.not_not, kb_m104, kb_m103, kb_m102, kb_m101, kb_6, kb_7, kb_8, kb_9, kb_10, kb_12, kb_16, kb_19, kb_20, kb_31, kb_32, kb_40, kb_42, kb_44, kb_47, kb_48, kb_49, kb_57, kb_63, kb_96, kb_99, kb_100, kb_103, kb_111, kb_112, kb_114, kb_116, kb_119, kb_126, kb_127, kc_m1, kc_0, kc_1, kc_2, kc_3, kc_4, kc_5, kc_6, kc_7, kc_8, kc_9, kc_10, kc_11, kc_12, kc_13, kc_14, kc_15, kc_16, kc_17, kc_18, kc_19, kc_20, kc_21, kc_22, kc_23, kc_24, kc_25, kc_26, kc_27, kc_28, kc_29, kc_103, kc_114, kc_116, kc_119, kl_0, kl_1, ks_200, ks_255, ks_288, i_Sh_printAt_0, i_Sh_printAt_1, i_Sh_printAt_2, i_Sh_printAt_3, i_Sh_printAt_6, i_Sh_printAt_7, i_Sh_printAt_8, i_Sh_printAt_11, i_Sh_printAt_14, i_Sh_printAt_15, i_Sh_printAt_18, i_Sh_printAt_19, i_Sh_printAt_20, i_Sh_printAt_23, i_Sh_printAt_24, x0]
  refine s_Fi_isWithin _ _ _ _ _ _ _ ?_
  rw [m1_toInt (by omega)]
  refine run [] 30 ok_m_Sh_printAt (fun V hV => ?_)
  simp only [hV, sPush, sIld, sLld, sAld, sIst, sLst, sAst, sInc, sBI, sBL, sDI, sDL, sSL, sUI, sIL, sLI, sCmp, sDup, sDup2, sGo, sIf, sCm, sNul, sGet, sPut, sIal, sCal, sLal, sAal, sIas, sCas, sLas, sAas, sLen, sNew, sNar, sMna, sIns, sSw, swK, sIret, sLret, sAret, sVret, sSta, sSpe, sVir, sObj, sMax, sMin, sAcp, popN, catS, stdC, callA, gL, stI, stL, clr, cat1, cH, if_true, if_false, reduceIte, List.mem_cons, List.not_mem_nil, or_false, false_or, or_self, List.lookup_cons, List.lookup_nil, Option.toList_some, Option.toList_none, List.cons_append, List.nil_append, List.reverse_cons, List.reverse_nil, true_and, and_true, true_or, or_true, hset_s, hset_hset, List.getElem?_cons_zero, List.getElem?_cons_succ, List.set_cons_zero, List.set_cons_succ, List.length_cons, List.length_nil, beq_self_eq_true, Nat.reduceBEq, va_rf,  not_true_eq_false, not_false_eq_true, false_implies, true_implies, forall_const, ne_eq, eq_self, Nat.reduceAdd, Nat.reduceSub, Nat.reduceLeDiff, Nat.reduceLT, zlt_s, Nat.reduceEqDiff, Nat.zero_le, Nat.sub_zero, Nat.le_refl, imp_self, bI_0, nr_b, nr_b0, nr_b1, nr_i, nr_l, nr_a, nr_o, ft_i, ft_b1, ft_l, ft_a, ft_o, Classical.not_not, kb_m104, kb_m103, kb_m102, kb_m101, kb_6, kb_7, kb_8, kb_9, kb_10, kb_12, kb_16, kb_19, kb_20, kb_31, kb_32, kb_40, kb_42, kb_44, kb_47, kb_48, kb_49, kb_57, kb_63, kb_96, kb_99, kb_100, kb_103, kb_111, kb_112, kb_114, kb_116, kb_119, kb_126, kb_127, kc_m1, kc_0, kc_1, kc_2, kc_3, kc_4, kc_5, kc_6, kc_7, kc_8, kc_9, kc_10, kc_11, kc_12, kc_13, kc_14, kc_15, kc_16, kc_17, kc_18, kc_19, kc_20, kc_21, kc_22, kc_23, kc_24, kc_25, kc_26, kc_27, kc_28, kc_29, kc_103, kc_114, kc_116, kc_119, kl_0, kl_1, ks_200, ks_255, ks_288, i_Sh_printAt_0, i_Sh_printAt_1, i_Sh_printAt_2, i_Sh_printAt_3, i_Sh_printAt_6, i_Sh_printAt_7, i_Sh_printAt_8, i_Sh_printAt_11, i_Sh_printAt_14, i_Sh_printAt_15, i_Sh_printAt_18, i_Sh_printAt_19, i_Sh_printAt_20, i_Sh_printAt_23, i_Sh_printAt_24, x0]
  refine ⟨fun c => h2 c, fun c => ?_⟩
  obtain ⟨p, hp, rfl⟩ := of_in (by omega) c
  simp only [x1, ixN (i := p) (N := 6) (by omega) (by omega), clN (i := p) (by omega), x4 p (by omega), true_and]
  exact ⟨by simp, h1 p hp rfl⟩
set_option maxRecDepth 20000 in
theorem s_Sh_next (d s np nt : Nat) (hnp : np ≤ 6) (g : Nat → Option Nat) (T R : Nat → Int32) (h : XH) (z : Nat) (Q : XQ) (hS : ShRaw h s np nt g T R) (h1 : np < 6 → Q (some (.ref (s + 4 + 5 * np))) (hset h s (.inr (7, [.ref (s + 1), .int (nI (np + 1)), .ref (s + 2), .ref (s + 3), .int (nI nt)]))) z) (h2 : np = 6 → Q (some .null) h z) : CALL d m_Sh_next [.ref s] h z Q := by
  obtain ⟨x0, x1, x2, x3, x4, x5⟩ := hS
  refine ⟨Nat.le_of_ble_eq_true rfl, ?_⟩
  show AR d m_Sh_next 0 0 [some (.ref s)] [] h z Q
  by_cases c : np < 6
  · have c6 : nI np < 6 := by
      have := nI_ltI (a := np) (b := 6) (by omega) (by omega)
      exact this.mpr c
    refine run [] 30 ok_m_Sh_next (fun V hV => ?_)
    simp only [hV, sPush, sIld, sLld, sAld, sIst, sLst, sAst, sInc, sBI, sBL, sDI, sDL, sSL, sUI, sIL, sLI, sCmp, sDup, sDup2, sGo, sIf, sCm, sNul, sGet, sPut, sIal, sCal, sLal, sAal, sIas, sCas, sLas, sAas, sLen, sNew, sNar, sMna, sIns, sSw, swK, sIret, sLret, sAret, sVret, sSta, sSpe, sVir, sObj, sMax, sMin, sAcp, popN, catS, stdC, callA, gL, stI, stL, clr, cat1, cH, if_true, if_false, reduceIte, List.mem_cons, List.not_mem_nil, or_false, false_or, or_self, List.lookup_cons, List.lookup_nil, Option.toList_some, Option.toList_none, List.cons_append, List.nil_append, List.reverse_cons, List.reverse_nil, true_and, and_true, true_or, or_true, hset_s, hset_hset, List.getElem?_cons_zero, List.getElem?_cons_succ, List.set_cons_zero, List.set_cons_succ, List.length_cons, List.length_nil, beq_self_eq_true, Nat.reduceBEq, va_rf,  not_true_eq_false, not_false_eq_true, false_implies, true_implies, forall_const, ne_eq, eq_self, Nat.reduceAdd, Nat.reduceSub, Nat.reduceLeDiff, Nat.reduceLT, zlt_s, Nat.reduceEqDiff, Nat.zero_le, Nat.sub_zero, Nat.le_refl, imp_self, bI_0, nr_b, nr_b0, nr_b1, nr_i, nr_l, nr_a, nr_o, ft_i, ft_b1, ft_l, ft_a, ft_o, Classical.not_not, kb_m104, kb_m103, kb_m102, kb_m101, kb_6, kb_7, kb_8, kb_9, kb_10, kb_12, kb_16, kb_19, kb_20, kb_31, kb_32, kb_40, kb_42, kb_44, kb_47, kb_48, kb_49, kb_57, kb_63, kb_96, kb_99, kb_100, kb_103, kb_111, kb_112, kb_114, kb_116, kb_119, kb_126, kb_127, kc_m1, kc_0, kc_1, kc_2, kc_3, kc_4, kc_5, kc_6, kc_7, kc_8, kc_9, kc_10, kc_11, kc_12, kc_13, kc_14, kc_15, kc_16, kc_17, kc_18, kc_19, kc_20, kc_21, kc_22, kc_23, kc_24, kc_25, kc_26, kc_27, kc_28, kc_29, kc_103, kc_114, kc_116, kc_119, kl_0, kl_1, ks_200, ks_255, ks_288, i_Sh_next_0, i_Sh_next_1, i_Sh_next_4, i_Sh_next_6, i_Sh_next_9, i_Sh_next_10, i_Sh_next_11, i_Sh_next_12, i_Sh_next_13, i_Sh_next_16, i_Sh_next_17, i_Sh_next_18, i_Sh_next_21, i_Sh_next_22, i_Sh_next_25, i_Sh_next_26, i_Sh_next_29, i_Sh_next_30, i_Sh_next_31, i_Sh_next_32, hb_01, hb_02, hb_03, hb_04, hb_05, hb_06, hb_07, hb_10, hb_12, hb_13, hb_14, hb_15, hb_16, hb_17, hb_20, hb_21, hb_23, hb_24, hb_25, hb_26, hb_27, hb_30, hb_31, hb_32, hb_34, hb_35, hb_36, hb_37, hb_40, hb_41, hb_42, hb_43, hb_45, hb_46, hb_47, hb_50, hb_51, hb_52, hb_53, hb_54, hb_56, hb_57, hb_60, hb_61, hb_62, hb_63, hb_64, hb_65, hb_67, hb_70, hb_71, hb_72, hb_73, hb_74, hb_75, hb_76, x0, x1, c6, nI_1, nI_pred, ixN (i := np) (N := 6) (by omega) (by omega), clN (i := np) (by omega), x4 np c]
    exact h1 c
  · have e : np = 6 := by omega
    subst e
    refine run [] 30 ok_m_Sh_next (fun V hV => ?_)
    simp only [hV, sPush, sIld, sLld, sAld, sIst, sLst, sAst, sInc, sBI, sBL, sDI, sDL, sSL, sUI, sIL, sLI, sCmp, sDup, sDup2, sGo, sIf, sCm, sNul, sGet, sPut, sIal, sCal, sLal, sAal, sIas, sCas, sLas, sAas, sLen, sNew, sNar, sMna, sIns, sSw, swK, sIret, sLret, sAret, sVret, sSta, sSpe, sVir, sObj, sMax, sMin, sAcp, popN, catS, stdC, callA, gL, stI, stL, clr, cat1, cH, if_true, if_false, reduceIte, List.mem_cons, List.not_mem_nil, or_false, false_or, or_self, List.lookup_cons, List.lookup_nil, Option.toList_some, Option.toList_none, List.cons_append, List.nil_append, List.reverse_cons, List.reverse_nil, true_and, and_true, true_or, or_true, hset_s, hset_hset, List.getElem?_cons_zero, List.getElem?_cons_succ, List.set_cons_zero, List.set_cons_succ, List.length_cons, List.length_nil, beq_self_eq_true, Nat.reduceBEq, va_rf,  not_true_eq_false, not_false_eq_true, false_implies, true_implies, forall_const, ne_eq, eq_self, Nat.reduceAdd, Nat.reduceSub, Nat.reduceLeDiff, Nat.reduceLT, zlt_s, Nat.reduceEqDiff, Nat.zero_le, Nat.sub_zero, Nat.le_refl, imp_self, bI_0, nr_b, nr_b0, nr_b1, nr_i, nr_l, nr_a, nr_o, ft_i, ft_b1, ft_l, ft_a, ft_o, Classical.not_not, kb_m104, kb_m103, kb_m102, kb_m101, kb_6, kb_7, kb_8, kb_9, kb_10, kb_12, kb_16, kb_19, kb_20, kb_31, kb_32, kb_40, kb_42, kb_44, kb_47, kb_48, kb_49, kb_57, kb_63, kb_96, kb_99, kb_100, kb_103, kb_111, kb_112, kb_114, kb_116, kb_119, kb_126, kb_127, kc_m1, kc_0, kc_1, kc_2, kc_3, kc_4, kc_5, kc_6, kc_7, kc_8, kc_9, kc_10, kc_11, kc_12, kc_13, kc_14, kc_15, kc_16, kc_17, kc_18, kc_19, kc_20, kc_21, kc_22, kc_23, kc_24, kc_25, kc_26, kc_27, kc_28, kc_29, kc_103, kc_114, kc_116, kc_119, kl_0, kl_1, ks_200, ks_255, ks_288, i_Sh_next_0, i_Sh_next_1, i_Sh_next_4, i_Sh_next_6, i_Sh_next_9, i_Sh_next_10, i_Sh_next_11, i_Sh_next_12, i_Sh_next_13, i_Sh_next_16, i_Sh_next_17, i_Sh_next_18, i_Sh_next_21, i_Sh_next_22, i_Sh_next_25, i_Sh_next_26, i_Sh_next_29, i_Sh_next_30, i_Sh_next_31, i_Sh_next_32, x0, x1, show (nI 6 < 6) = False from by decide]
    exact h2 rfl
set_option maxRecDepth 20000 in
theorem s_Sh_addTrace (d s np nt t r : Nat) (hnt : nt ≤ 4) (g : Nat → Option Nat) (T R : Nat → Int32) (h : XH) (z : Nat) (Q : XQ) (hS : ShRaw h s np nt g T R) (h1 : nt < 4 → ∀ h', off s 4 h h' → ShRaw h' s np (nt + 1) g (upd T nt (nI t)) (upd R nt (nI r)) → Q (some (.int 1)) h' z) (h2 : nt = 4 → Q (some (.int 0)) h z) : CALL d m_Sh_addTrace [.ref s, .int (nI t), .int (nI r)] h z Q := by
  have hS' := hS
  obtain ⟨x0, x1, x2, x3, x4, x5⟩ := hS
  refine ⟨Nat.le_of_ble_eq_true rfl, ?_⟩
  show AR d m_Sh_addTrace 0 0 [some (.ref s), some (.int (nI t)), some (.int (nI r))] [] h z Q
  by_cases c : nt < 4
  · have c4 : nI nt < 4 := by
      have := nI_ltI (a := nt) (b := 4) (by omega) (by omega)
      exact this.mpr c
    refine run [] 40 ok_m_Sh_addTrace (fun V hV => ?_)
    simp only [hV, sPush, sIld, sLld, sAld, sIst, sLst, sAst, sInc, sBI, sBL, sDI, sDL, sSL, sUI, sIL, sLI, sCmp, sDup, sDup2, sGo, sIf, sCm, sNul, sGet, sPut, sIal, sCal, sLal, sAal, sIas, sCas, sLas, sAas, sLen, sNew, sNar, sMna, sIns, sSw, swK, sIret, sLret, sAret, sVret, sSta, sSpe, sVir, sObj, sMax, sMin, sAcp, popN, catS, stdC, callA, gL, stI, stL, clr, cat1, cH, if_true, if_false, reduceIte, List.mem_cons, List.not_mem_nil, or_false, false_or, or_self, List.lookup_cons, List.lookup_nil, Option.toList_some, Option.toList_none, List.cons_append, List.nil_append, List.reverse_cons, List.reverse_nil, true_and, and_true, true_or, or_true, hset_s, hset_hset, List.getElem?_cons_zero, List.getElem?_cons_succ, List.set_cons_zero, List.set_cons_succ, List.length_cons, List.length_nil, beq_self_eq_true, Nat.reduceBEq, va_rf,  not_true_eq_false, not_false_eq_true, false_implies, true_implies, forall_const, ne_eq, eq_self, Nat.reduceAdd, Nat.reduceSub, Nat.reduceLeDiff, Nat.reduceLT, zlt_s, Nat.reduceEqDiff, Nat.zero_le, Nat.sub_zero, Nat.le_refl, imp_self, bI_0, nr_b, nr_b0, nr_b1, nr_i, nr_l, nr_a, nr_o, ft_i, ft_b1, ft_l, ft_a, ft_o, Classical.not_not, kb_m104, kb_m103, kb_m102, kb_m101, kb_6, kb_7, kb_8, kb_9, kb_10, kb_12, kb_16, kb_19, kb_20, kb_31, kb_32, kb_40, kb_42, kb_44, kb_47, kb_48, kb_49, kb_57, kb_63, kb_96, kb_99, kb_100, kb_103, kb_111, kb_112, kb_114, kb_116, kb_119, kb_126, kb_127, kc_m1, kc_0, kc_1, kc_2, kc_3, kc_4, kc_5, kc_6, kc_7, kc_8, kc_9, kc_10, kc_11, kc_12, kc_13, kc_14, kc_15, kc_16, kc_17, kc_18, kc_19, kc_20, kc_21, kc_22, kc_23, kc_24, kc_25, kc_26, kc_27, kc_28, kc_29, kc_103, kc_114, kc_116, kc_119, kl_0, kl_1, ks_200, ks_255, ks_288, i_Sh_addTrace_0, i_Sh_addTrace_1, i_Sh_addTrace_4, i_Sh_addTrace_5, i_Sh_addTrace_8, i_Sh_addTrace_9, i_Sh_addTrace_10, i_Sh_addTrace_11, i_Sh_addTrace_14, i_Sh_addTrace_15, i_Sh_addTrace_18, i_Sh_addTrace_19, i_Sh_addTrace_20, i_Sh_addTrace_21, i_Sh_addTrace_24, i_Sh_addTrace_25, i_Sh_addTrace_28, i_Sh_addTrace_29, i_Sh_addTrace_30, i_Sh_addTrace_31, i_Sh_addTrace_32, i_Sh_addTrace_35, i_Sh_addTrace_36, i_Sh_addTrace_37, i_Sh_addTrace_40, i_Sh_addTrace_41, hb_01, hb_02, hb_03, hb_04, hb_05, hb_06, hb_07, hb_10, hb_12, hb_13, hb_14, hb_15, hb_16, hb_17, hb_20, hb_21, hb_23, hb_24, hb_25, hb_26, hb_27, hb_30, hb_31, hb_32, hb_34, hb_35, hb_36, hb_37, hb_40, hb_41, hb_42, hb_43, hb_45, hb_46, hb_47, hb_50, hb_51, hb_52, hb_53, hb_54, hb_56, hb_57, hb_60, hb_61, hb_62, hb_63, hb_64, hb_65, hb_67, hb_70, hb_71, hb_72, hb_73, hb_74, hb_75, hb_76, x0, x2, x3, c4, nI_1, ixN (i := nt) (N := 4) (by omega) (by omega), clN (i := nt) (by omega)]
    refine h1 c _ (((off_r s 4 h).set (by omega) (by omega) _ |>.set (by omega) (by omega) _).set (by omega) (by omega) _) (hS'.hd (((off_r s 4 h).set (by omega) (by omega) _ |>.set (by omega) (by omega) _).set (by omega) (by omega) _) ?_ ?_ ?_ ?_ x4)
    · rw [hset_s]
    · rw [hset_n _ _ (by omega), hset_n _ _ (by omega), hset_n _ _ (by omega)]
      exact x1
    · rw [hset_n _ _ (by omega), hset_n _ _ (by omega), hset_s]
    · rw [hset_n _ _ (by omega), hset_s]
  · have e : nt = 4 := by omega
    subst e
    refine run [] 30 ok_m_Sh_addTrace (fun V hV => ?_)
    simp only [hV, sPush, sIld, sLld, sAld, sIst, sLst, sAst, sInc, sBI, sBL, sDI, sDL, sSL, sUI, sIL, sLI, sCmp, sDup, sDup2, sGo, sIf, sCm, sNul, sGet, sPut, sIal, sCal, sLal, sAal, sIas, sCas, sLas, sAas, sLen, sNew, sNar, sMna, sIns, sSw, swK, sIret, sLret, sAret, sVret, sSta, sSpe, sVir, sObj, sMax, sMin, sAcp, popN, catS, stdC, callA, gL, stI, stL, clr, cat1, cH, if_true, if_false, reduceIte, List.mem_cons, List.not_mem_nil, or_false, false_or, or_self, List.lookup_cons, List.lookup_nil, Option.toList_some, Option.toList_none, List.cons_append, List.nil_append, List.reverse_cons, List.reverse_nil, true_and, and_true, true_or, or_true, hset_s, hset_hset, List.getElem?_cons_zero, List.getElem?_cons_succ, List.set_cons_zero, List.set_cons_succ, List.length_cons, List.length_nil, beq_self_eq_true, Nat.reduceBEq, va_rf,  not_true_eq_false, not_false_eq_true, false_implies, true_implies, forall_const, ne_eq, eq_self, Nat.reduceAdd, Nat.reduceSub, Nat.reduceLeDiff, Nat.reduceLT, zlt_s, Nat.reduceEqDiff, Nat.zero_le, Nat.sub_zero, Nat.le_refl, imp_self, bI_0, nr_b, nr_b0, nr_b1, nr_i, nr_l, nr_a, nr_o, ft_i, ft_b1, ft_l, ft_a, ft_o, Classical.not_not, kb_m104, kb_m103, kb_m102, kb_m101, kb_6, kb_7, kb_8, kb_9, kb_10, kb_12, kb_16, kb_19, kb_20, kb_31, kb_32, kb_40, kb_42, kb_44, kb_47, kb_48, kb_49, kb_57, kb_63, kb_96, kb_99, kb_100, kb_103, kb_111, kb_112, kb_114, kb_116, kb_119, kb_126, kb_127, kc_m1, kc_0, kc_1, kc_2, kc_3, kc_4, kc_5, kc_6, kc_7, kc_8, kc_9, kc_10, kc_11, kc_12, kc_13, kc_14, kc_15, kc_16, kc_17, kc_18, kc_19, kc_20, kc_21, kc_22, kc_23, kc_24, kc_25, kc_26, kc_27, kc_28, kc_29, kc_103, kc_114, kc_116, kc_119, kl_0, kl_1, ks_200, ks_255, ks_288, i_Sh_addTrace_0, i_Sh_addTrace_1, i_Sh_addTrace_4, i_Sh_addTrace_5, i_Sh_addTrace_8, i_Sh_addTrace_9, i_Sh_addTrace_10, i_Sh_addTrace_11, i_Sh_addTrace_14, i_Sh_addTrace_15, i_Sh_addTrace_18, i_Sh_addTrace_19, i_Sh_addTrace_20, i_Sh_addTrace_21, i_Sh_addTrace_24, i_Sh_addTrace_25, i_Sh_addTrace_28, i_Sh_addTrace_29, i_Sh_addTrace_30, i_Sh_addTrace_31, i_Sh_addTrace_32, i_Sh_addTrace_35, i_Sh_addTrace_36, i_Sh_addTrace_37, i_Sh_addTrace_40, i_Sh_addTrace_41, x0, show (nI 4 < 4) = False from by decide]
    exact h2 rfl
set_option maxRecDepth 20000 in
theorem l_Sh_pictures (d s : Nat) (S : SH) (h : XH) (z : Nat) (Q : XQ) (hS : ShAt h s S) (hQ : Q (some (.int (nI (sumN S.n S.sz)))) h z) : ∀ (m k : Nat), k + m = S.n → AR d m_Sh_pictures 0 4 [some (.ref s), some (.int (nI (sumN k S.sz))), some (.int (nI k))] [] h z Q := by
  obtain ⟨y0, y1, ⟨g1, T1, R1, ⟨x0, x1, x2, x3, x4, -⟩, yT⟩, yP⟩ := hS
  intro m
  induction m with
  | zero =>
    intro k hk
    have e : k = S.n := by omega
    subst e
    refine run [4] 30 ok_m_Sh_pictures (fun V hV => ?_)
    simp only [hV, sPush, sIld, sLld, sAld, sIst, sLst, sAst, sInc, sBI, sBL, sDI, sDL, sSL, sUI, sIL, sLI, sCmp, sDup, sDup2, sGo, sIf, sCm, sNul, sGet, sPut, sIal, sCal, sLal, sAal, sIas, sCas, sLas, sAas, sLen, sNew, sNar, sMna, sIns, sSw, swK, sIret, sLret, sAret, sVret, sSta, sSpe, sVir, sObj, sMax, sMin, sAcp, popN, catS, stdC, callA, gL, stI, stL, clr, cat1, cH, if_true, if_false, reduceIte, List.mem_cons, List.not_mem_nil, or_false, false_or, or_self, List.lookup_cons, List.lookup_nil, Option.toList_some, Option.toList_none, List.cons_append, List.nil_append, List.reverse_cons, List.reverse_nil, true_and, and_true, true_or, or_true, hset_s, hset_hset, List.getElem?_cons_zero, List.getElem?_cons_succ, List.set_cons_zero, List.set_cons_succ, List.length_cons, List.length_nil, beq_self_eq_true, Nat.reduceBEq, va_rf,  not_true_eq_false, not_false_eq_true, false_implies, true_implies, forall_const, ne_eq, eq_self, Nat.reduceAdd, Nat.reduceSub, Nat.reduceLeDiff, Nat.reduceLT, zlt_s, Nat.reduceEqDiff, Nat.zero_le, Nat.sub_zero, Nat.le_refl, imp_self, bI_0, nr_b, nr_b0, nr_b1, nr_i, nr_l, nr_a, nr_o, ft_i, ft_b1, ft_l, ft_a, ft_o, Classical.not_not, kb_m104, kb_m103, kb_m102, kb_m101, kb_6, kb_7, kb_8, kb_9, kb_10, kb_12, kb_16, kb_19, kb_20, kb_31, kb_32, kb_40, kb_42, kb_44, kb_47, kb_48, kb_49, kb_57, kb_63, kb_96, kb_99, kb_100, kb_103, kb_111, kb_112, kb_114, kb_116, kb_119, kb_126, kb_127, kc_m1, kc_0, kc_1, kc_2, kc_3, kc_4, kc_5, kc_6, kc_7, kc_8, kc_9, kc_10, kc_11, kc_12, kc_13, kc_14, kc_15, kc_16, kc_17, kc_18, kc_19, kc_20, kc_21, kc_22, kc_23, kc_24, kc_25, kc_26, kc_27, kc_28, kc_29, kc_103, kc_114, kc_116, kc_119, kl_0, kl_1, ks_200, ks_255, ks_288, i_Sh_pictures_0, i_Sh_pictures_1, i_Sh_pictures_2, i_Sh_pictures_3, i_Sh_pictures_4, i_Sh_pictures_5, i_Sh_pictures_6, i_Sh_pictures_9, i_Sh_pictures_12, i_Sh_pictures_13, i_Sh_pictures_14, i_Sh_pictures_17, i_Sh_pictures_18, i_Sh_pictures_19, i_Sh_pictures_22, i_Sh_pictures_23, i_Sh_pictures_24, i_Sh_pictures_27, i_Sh_pictures_30, i_Sh_pictures_31, x0, nI_leI (a := S.n) (b := S.n) (by omega) (by omega)]
    exact hQ
  | succ m ih =>
    intro k hk
    have g1' : ¬ nI S.n ≤ nI k := by
      rw [nI_leI (by omega) (by omega)]
      omega
    obtain ⟨F, B, W, P, ⟨e5, -⟩, -⟩ := (yP k (by omega)).2
    refine run [4] 30 ok_m_Sh_pictures (fun V hV => ?_)
    simp only [hV, sPush, sIld, sLld, sAld, sIst, sLst, sAst, sInc, sBI, sBL, sDI, sDL, sSL, sUI, sIL, sLI, sCmp, sDup, sDup2, sGo, sIf, sCm, sNul, sGet, sPut, sIal, sCal, sLal, sAal, sIas, sCas, sLas, sAas, sLen, sNew, sNar, sMna, sIns, sSw, swK, sIret, sLret, sAret, sVret, sSta, sSpe, sVir, sObj, sMax, sMin, sAcp, popN, catS, stdC, callA, gL, stI, stL, clr, cat1, cH, if_true, if_false, reduceIte, List.mem_cons, List.not_mem_nil, or_false, false_or, or_self, List.lookup_cons, List.lookup_nil, Option.toList_some, Option.toList_none, List.cons_append, List.nil_append, List.reverse_cons, List.reverse_nil, true_and, and_true, true_or, or_true, hset_s, hset_hset, List.getElem?_cons_zero, List.getElem?_cons_succ, List.set_cons_zero, List.set_cons_succ, List.length_cons, List.length_nil, beq_self_eq_true, Nat.reduceBEq, va_rf,  not_true_eq_false, not_false_eq_true, false_implies, true_implies, forall_const, ne_eq, eq_self, Nat.reduceAdd, Nat.reduceSub, Nat.reduceLeDiff, Nat.reduceLT, zlt_s, Nat.reduceEqDiff, Nat.zero_le, Nat.sub_zero, Nat.le_refl, imp_self, bI_0, nr_b, nr_b0, nr_b1, nr_i, nr_l, nr_a, nr_o, ft_i, ft_b1, ft_l, ft_a, ft_o, Classical.not_not, kb_m104, kb_m103, kb_m102, kb_m101, kb_6, kb_7, kb_8, kb_9, kb_10, kb_12, kb_16, kb_19, kb_20, kb_31, kb_32, kb_40, kb_42, kb_44, kb_47, kb_48, kb_49, kb_57, kb_63, kb_96, kb_99, kb_100, kb_103, kb_111, kb_112, kb_114, kb_116, kb_119, kb_126, kb_127, kc_m1, kc_0, kc_1, kc_2, kc_3, kc_4, kc_5, kc_6, kc_7, kc_8, kc_9, kc_10, kc_11, kc_12, kc_13, kc_14, kc_15, kc_16, kc_17, kc_18, kc_19, kc_20, kc_21, kc_22, kc_23, kc_24, kc_25, kc_26, kc_27, kc_28, kc_29, kc_103, kc_114, kc_116, kc_119, kl_0, kl_1, ks_200, ks_255, ks_288, i_Sh_pictures_0, i_Sh_pictures_1, i_Sh_pictures_2, i_Sh_pictures_3, i_Sh_pictures_4, i_Sh_pictures_5, i_Sh_pictures_6, i_Sh_pictures_9, i_Sh_pictures_12, i_Sh_pictures_13, i_Sh_pictures_14, i_Sh_pictures_17, i_Sh_pictures_18, i_Sh_pictures_19, i_Sh_pictures_22, i_Sh_pictures_23, i_Sh_pictures_24, i_Sh_pictures_27, i_Sh_pictures_30, i_Sh_pictures_31, g1', x0, x1, e5, x4 k (by omega), ixN (i := k) (N := 6) (by omega) (by omega), clN (i := k) (by omega), nI_1, nI_add]
    exact ih (k + 1) (by omega)
set_option maxRecDepth 20000 in
theorem s_Sh_pictures (d s : Nat) (S : SH) (h : XH) (z : Nat) (Q : XQ) (hS : ShAt h s S) (hQ : Q (some (.int (nI (sumN S.n S.sz)))) h z) : CALL d m_Sh_pictures [.ref s] h z Q := by
  refine ⟨Nat.le_of_ble_eq_true rfl, ?_⟩
  show AR d m_Sh_pictures 0 0 [some (.ref s), none, none] [] h z Q
  refine run [4] 30 ok_m_Sh_pictures (fun V hV => ?_)
  simp only [hV, sPush, sIld, sLld, sAld, sIst, sLst, sAst, sInc, sBI, sBL, sDI, sDL, sSL, sUI, sIL, sLI, sCmp, sDup, sDup2, sGo, sIf, sCm, sNul, sGet, sPut, sIal, sCal, sLal, sAal, sIas, sCas, sLas, sAas, sLen, sNew, sNar, sMna, sIns, sSw, swK, sIret, sLret, sAret, sVret, sSta, sSpe, sVir, sObj, sMax, sMin, sAcp, popN, catS, stdC, callA, gL, stI, stL, clr, cat1, cH, if_true, if_false, reduceIte, List.mem_cons, List.not_mem_nil, or_false, false_or, or_self, List.lookup_cons, List.lookup_nil, Option.toList_some, Option.toList_none, List.cons_append, List.nil_append, List.reverse_cons, List.reverse_nil, true_and, and_true, true_or, or_true, hset_s, hset_hset, List.getElem?_cons_zero, List.getElem?_cons_succ, List.set_cons_zero, List.set_cons_succ, List.length_cons, List.length_nil, beq_self_eq_true, Nat.reduceBEq, va_rf,  not_true_eq_false, not_false_eq_true, false_implies, true_implies, forall_const, ne_eq, eq_self, Nat.reduceAdd, Nat.reduceSub, Nat.reduceLeDiff, Nat.reduceLT, zlt_s, Nat.reduceEqDiff, Nat.zero_le, Nat.sub_zero, Nat.le_refl, imp_self, bI_0, nr_b, nr_b0, nr_b1, nr_i, nr_l, nr_a, nr_o, ft_i, ft_b1, ft_l, ft_a, ft_o, Classical.not_not, kb_m104, kb_m103, kb_m102, kb_m101, kb_6, kb_7, kb_8, kb_9, kb_10, kb_12, kb_16, kb_19, kb_20, kb_31, kb_32, kb_40, kb_42, kb_44, kb_47, kb_48, kb_49, kb_57, kb_63, kb_96, kb_99, kb_100, kb_103, kb_111, kb_112, kb_114, kb_116, kb_119, kb_126, kb_127, kc_m1, kc_0, kc_1, kc_2, kc_3, kc_4, kc_5, kc_6, kc_7, kc_8, kc_9, kc_10, kc_11, kc_12, kc_13, kc_14, kc_15, kc_16, kc_17, kc_18, kc_19, kc_20, kc_21, kc_22, kc_23, kc_24, kc_25, kc_26, kc_27, kc_28, kc_29, kc_103, kc_114, kc_116, kc_119, kl_0, kl_1, ks_200, ks_255, ks_288, i_Sh_pictures_0, i_Sh_pictures_1, i_Sh_pictures_2, i_Sh_pictures_3, i_Sh_pictures_4, i_Sh_pictures_5, i_Sh_pictures_6, i_Sh_pictures_9, i_Sh_pictures_12, i_Sh_pictures_13, i_Sh_pictures_14, i_Sh_pictures_17, i_Sh_pictures_18, i_Sh_pictures_19, i_Sh_pictures_22, i_Sh_pictures_23, i_Sh_pictures_24, i_Sh_pictures_27, i_Sh_pictures_30, i_Sh_pictures_31]
  exact l_Sh_pictures d s S h z Q hS hQ S.n 0 (by omega)
def mkF (S : SH) (p : Nat) : Nat := sumN (S.sz p) (fun k => pop 8 (S.b p k) + pop 8 (S.w p k))
set_option maxRecDepth 20000 in
theorem l_Sh_marks2 (d s p : Nat) (S : SH) (hp : p < S.n) (h : XH) (z : Nat) (Q : XQ) (hS : ShAt h s S) (c : Nat) (hQ : ∀ v3, AR (d + 2) m_Sh_marks 0 4 [some (.ref s), some (.int (nI (c + mkF S p))), some (.int (nI (p + 1))), v3] [] h z Q) : ∀ (m k : Nat), k + m = S.sz p → AR (d + 2) m_Sh_marks 0 14 [some (.ref s), some (.int (nI (c + sumN k (fun k => pop 8 (S.b p k) + pop 8 (S.w p k))))), some (.int (nI p)), some (.int (nI k))] [] h z Q := by
  obtain ⟨y0, y1, ⟨g1, T1, R1, ⟨x0, x1, x2, x3, x4, -⟩, yT⟩, yP⟩ := hS
  obtain ⟨F, B, W, P, ⟨e5, -⟩, ⟨hn, -⟩, -⟩ := (yP p hp).2
  intro m
  induction m with
  | zero =>
    intro k hk
    have e : k = S.sz p := by omega
    subst e
    refine run [4] 30 ok_m_Sh_marks (fun V hV => ?_)
    simp only [hV, sPush, sIld, sLld, sAld, sIst, sLst, sAst, sInc, sBI, sBL, sDI, sDL, sSL, sUI, sIL, sLI, sCmp, sDup, sDup2, sGo, sIf, sCm, sNul, sGet, sPut, sIal, sCal, sLal, sAal, sIas, sCas, sLas, sAas, sLen, sNew, sNar, sMna, sIns, sSw, swK, sIret, sLret, sAret, sVret, sSta, sSpe, sVir, sObj, sMax, sMin, sAcp, popN, catS, stdC, callA, gL, stI, stL, clr, cat1, cH, if_true, if_false, reduceIte, List.mem_cons, List.not_mem_nil, or_false, false_or, or_self, List.lookup_cons, List.lookup_nil, Option.toList_some, Option.toList_none, List.cons_append, List.nil_append, List.reverse_cons, List.reverse_nil, true_and, and_true, true_or, or_true, hset_s, hset_hset, List.getElem?_cons_zero, List.getElem?_cons_succ, List.set_cons_zero, List.set_cons_succ, List.length_cons, List.length_nil, beq_self_eq_true, Nat.reduceBEq, va_rf,  not_true_eq_false, not_false_eq_true, false_implies, true_implies, forall_const, ne_eq, eq_self, Nat.reduceAdd, Nat.reduceSub, Nat.reduceLeDiff, Nat.reduceLT, zlt_s, Nat.reduceEqDiff, Nat.zero_le, Nat.sub_zero, Nat.le_refl, imp_self, bI_0, nr_b, nr_b0, nr_b1, nr_i, nr_l, nr_a, nr_o, ft_i, ft_b1, ft_l, ft_a, ft_o, Classical.not_not, kb_m104, kb_m103, kb_m102, kb_m101, kb_6, kb_7, kb_8, kb_9, kb_10, kb_12, kb_16, kb_19, kb_20, kb_31, kb_32, kb_40, kb_42, kb_44, kb_47, kb_48, kb_49, kb_57, kb_63, kb_96, kb_99, kb_100, kb_103, kb_111, kb_112, kb_114, kb_116, kb_119, kb_126, kb_127, kc_m1, kc_0, kc_1, kc_2, kc_3, kc_4, kc_5, kc_6, kc_7, kc_8, kc_9, kc_10, kc_11, kc_12, kc_13, kc_14, kc_15, kc_16, kc_17, kc_18, kc_19, kc_20, kc_21, kc_22, kc_23, kc_24, kc_25, kc_26, kc_27, kc_28, kc_29, kc_103, kc_114, kc_116, kc_119, kl_0, kl_1, ks_200, ks_255, ks_288, i_Sh_marks_0, i_Sh_marks_1, i_Sh_marks_2, i_Sh_marks_3, i_Sh_marks_4, i_Sh_marks_5, i_Sh_marks_6, i_Sh_marks_9, i_Sh_marks_12, i_Sh_marks_13, i_Sh_marks_14, i_Sh_marks_15, i_Sh_marks_16, i_Sh_marks_19, i_Sh_marks_20, i_Sh_marks_21, i_Sh_marks_24, i_Sh_marks_27, i_Sh_marks_28, i_Sh_marks_29, i_Sh_marks_32, i_Sh_marks_33, i_Sh_marks_34, i_Sh_marks_35, i_Sh_marks_38, i_Sh_marks_39, i_Sh_marks_40, i_Sh_marks_43, i_Sh_marks_46, i_Sh_marks_49, i_Sh_marks_52, i_Sh_marks_53, x0, x1, e5, x4 p (by omega), ixN (i := p) (N := 6) (by omega) (by omega), clN (i := p) (by omega), nI_leI (a := S.sz p) (b := S.sz p) (by omega) (by omega), nI_1]
    exact hQ _
  | succ m ih =>
    intro k hk
    have g1' : ¬ nI (S.sz p) ≤ nI k := by
      rw [nI_leI (by omega) (by omega)]
      omega
    refine run [14, 4] 30 ok_m_Sh_marks (fun V hV => ?_)
    simp only [hV, sPush, sIld, sLld, sAld, sIst, sLst, sAst, sInc, sBI, sBL, sDI, sDL, sSL, sUI, sIL, sLI, sCmp, sDup, sDup2, sGo, sIf, sCm, sNul, sGet, sPut, sIal, sCal, sLal, sAal, sIas, sCas, sLas, sAas, sLen, sNew, sNar, sMna, sIns, sSw, swK, sIret, sLret, sAret, sVret, sSta, sSpe, sVir, sObj, sMax, sMin, sAcp, popN, catS, stdC, callA, gL, stI, stL, clr, cat1, cH, if_true, if_false, reduceIte, List.mem_cons, List.not_mem_nil, or_false, false_or, or_self, List.lookup_cons, List.lookup_nil, Option.toList_some, Option.toList_none, List.cons_append, List.nil_append, List.reverse_cons, List.reverse_nil, true_and, and_true, true_or, or_true, hset_s, hset_hset, List.getElem?_cons_zero, List.getElem?_cons_succ, List.set_cons_zero, List.set_cons_succ, List.length_cons, List.length_nil, beq_self_eq_true, Nat.reduceBEq, va_rf,  not_true_eq_false, not_false_eq_true, false_implies, true_implies, forall_const, ne_eq, eq_self, Nat.reduceAdd, Nat.reduceSub, Nat.reduceLeDiff, Nat.reduceLT, zlt_s, Nat.reduceEqDiff, Nat.zero_le, Nat.sub_zero, Nat.le_refl, imp_self, bI_0, nr_b, nr_b0, nr_b1, nr_i, nr_l, nr_a, nr_o, ft_i, ft_b1, ft_l, ft_a, ft_o, Classical.not_not, kb_m104, kb_m103, kb_m102, kb_m101, kb_6, kb_7, kb_8, kb_9, kb_10, kb_12, kb_16, kb_19, kb_20, kb_31, kb_32, kb_40, kb_42, kb_44, kb_47, kb_48, kb_49, kb_57, kb_63, kb_96, kb_99, kb_100, kb_103, kb_111, kb_112, kb_114, kb_116, kb_119, kb_126, kb_127, kc_m1, kc_0, kc_1, kc_2, kc_3, kc_4, kc_5, kc_6, kc_7, kc_8, kc_9, kc_10, kc_11, kc_12, kc_13, kc_14, kc_15, kc_16, kc_17, kc_18, kc_19, kc_20, kc_21, kc_22, kc_23, kc_24, kc_25, kc_26, kc_27, kc_28, kc_29, kc_103, kc_114, kc_116, kc_119, kl_0, kl_1, ks_200, ks_255, ks_288, i_Sh_marks_0, i_Sh_marks_1, i_Sh_marks_2, i_Sh_marks_3, i_Sh_marks_4, i_Sh_marks_5, i_Sh_marks_6, i_Sh_marks_9, i_Sh_marks_12, i_Sh_marks_13, i_Sh_marks_14, i_Sh_marks_15, i_Sh_marks_16, i_Sh_marks_19, i_Sh_marks_20, i_Sh_marks_21, i_Sh_marks_24, i_Sh_marks_27, i_Sh_marks_28, i_Sh_marks_29, i_Sh_marks_32, i_Sh_marks_33, i_Sh_marks_34, i_Sh_marks_35, i_Sh_marks_38, i_Sh_marks_39, i_Sh_marks_40, i_Sh_marks_43, i_Sh_marks_46, i_Sh_marks_49, i_Sh_marks_52, i_Sh_marks_53, g1', x0, x1, e5, x4 p (by omega), ixN (i := p) (N := 6) (by omega) (by omega), clN (i := p) (by omega)]
    refine s_Pr_marksOn _ _ _ _ _ _ k _ _ _ (yP p hp).2 (by omega) ?_
    refine run [14, 4] 30 ok_m_Sh_marks (fun V hV => ?_)
    simp only [hV, sPush, sIld, sLld, sAld, sIst, sLst, sAst, sInc, sBI, sBL, sDI, sDL, sSL, sUI, sIL, sLI, sCmp, sDup, sDup2, sGo, sIf, sCm, sNul, sGet, sPut, sIal, sCal, sLal, sAal, sIas, sCas, sLas, sAas, sLen, sNew, sNar, sMna, sIns, sSw, swK, sIret, sLret, sAret, sVret, sSta, sSpe, sVir, sObj, sMax, sMin, sAcp, popN, catS, stdC, callA, gL, stI, stL, clr, cat1, cH, if_true, if_false, reduceIte, List.mem_cons, List.not_mem_nil, or_false, false_or, or_self, List.lookup_cons, List.lookup_nil, Option.toList_some, Option.toList_none, List.cons_append, List.nil_append, List.reverse_cons, List.reverse_nil, true_and, and_true, true_or, or_true, hset_s, hset_hset, List.getElem?_cons_zero, List.getElem?_cons_succ, List.set_cons_zero, List.set_cons_succ, List.length_cons, List.length_nil, beq_self_eq_true, Nat.reduceBEq, va_rf,  not_true_eq_false, not_false_eq_true, false_implies, true_implies, forall_const, ne_eq, eq_self, Nat.reduceAdd, Nat.reduceSub, Nat.reduceLeDiff, Nat.reduceLT, zlt_s, Nat.reduceEqDiff, Nat.zero_le, Nat.sub_zero, Nat.le_refl, imp_self, bI_0, nr_b, nr_b0, nr_b1, nr_i, nr_l, nr_a, nr_o, ft_i, ft_b1, ft_l, ft_a, ft_o, Classical.not_not, kb_m104, kb_m103, kb_m102, kb_m101, kb_6, kb_7, kb_8, kb_9, kb_10, kb_12, kb_16, kb_19, kb_20, kb_31, kb_32, kb_40, kb_42, kb_44, kb_47, kb_48, kb_49, kb_57, kb_63, kb_96, kb_99, kb_100, kb_103, kb_111, kb_112, kb_114, kb_116, kb_119, kb_126, kb_127, kc_m1, kc_0, kc_1, kc_2, kc_3, kc_4, kc_5, kc_6, kc_7, kc_8, kc_9, kc_10, kc_11, kc_12, kc_13, kc_14, kc_15, kc_16, kc_17, kc_18, kc_19, kc_20, kc_21, kc_22, kc_23, kc_24, kc_25, kc_26, kc_27, kc_28, kc_29, kc_103, kc_114, kc_116, kc_119, kl_0, kl_1, ks_200, ks_255, ks_288, i_Sh_marks_0, i_Sh_marks_1, i_Sh_marks_2, i_Sh_marks_3, i_Sh_marks_4, i_Sh_marks_5, i_Sh_marks_6, i_Sh_marks_9, i_Sh_marks_12, i_Sh_marks_13, i_Sh_marks_14, i_Sh_marks_15, i_Sh_marks_16, i_Sh_marks_19, i_Sh_marks_20, i_Sh_marks_21, i_Sh_marks_24, i_Sh_marks_27, i_Sh_marks_28, i_Sh_marks_29, i_Sh_marks_32, i_Sh_marks_33, i_Sh_marks_34, i_Sh_marks_35, i_Sh_marks_38, i_Sh_marks_39, i_Sh_marks_40, i_Sh_marks_43, i_Sh_marks_46, i_Sh_marks_49, i_Sh_marks_52, i_Sh_marks_53, nI_1, nI_add, Nat.add_assoc]
    exact ih (k + 1) (by omega)
set_option maxRecDepth 20000 in
theorem l_Sh_marks (d s : Nat) (S : SH) (h : XH) (z : Nat) (Q : XQ) (hS : ShAt h s S) (hQ : Q (some (.int (nI (sumN S.n (mkF S))))) h z) : ∀ (m p : Nat) (v3 : Option Value), p + m = S.n → AR (d + 2) m_Sh_marks 0 4 [some (.ref s), some (.int (nI (sumN p (mkF S)))), some (.int (nI p)), v3] [] h z Q := by
  obtain ⟨y0, y1, ⟨g1, T1, R1, ⟨x0, x1, x2, x3, x4, -⟩, yT⟩, yP⟩ := id hS
  intro m
  induction m with
  | zero =>
    intro k v3 hk
    have e : k = S.n := by omega
    subst e
    refine run [4] 30 ok_m_Sh_marks (fun V hV => ?_)
    simp only [hV, sPush, sIld, sLld, sAld, sIst, sLst, sAst, sInc, sBI, sBL, sDI, sDL, sSL, sUI, sIL, sLI, sCmp, sDup, sDup2, sGo, sIf, sCm, sNul, sGet, sPut, sIal, sCal, sLal, sAal, sIas, sCas, sLas, sAas, sLen, sNew, sNar, sMna, sIns, sSw, swK, sIret, sLret, sAret, sVret, sSta, sSpe, sVir, sObj, sMax, sMin, sAcp, popN, catS, stdC, callA, gL, stI, stL, clr, cat1, cH, if_true, if_false, reduceIte, List.mem_cons, List.not_mem_nil, or_false, false_or, or_self, List.lookup_cons, List.lookup_nil, Option.toList_some, Option.toList_none, List.cons_append, List.nil_append, List.reverse_cons, List.reverse_nil, true_and, and_true, true_or, or_true, hset_s, hset_hset, List.getElem?_cons_zero, List.getElem?_cons_succ, List.set_cons_zero, List.set_cons_succ, List.length_cons, List.length_nil, beq_self_eq_true, Nat.reduceBEq, va_rf,  not_true_eq_false, not_false_eq_true, false_implies, true_implies, forall_const, ne_eq, eq_self, Nat.reduceAdd, Nat.reduceSub, Nat.reduceLeDiff, Nat.reduceLT, zlt_s, Nat.reduceEqDiff, Nat.zero_le, Nat.sub_zero, Nat.le_refl, imp_self, bI_0, nr_b, nr_b0, nr_b1, nr_i, nr_l, nr_a, nr_o, ft_i, ft_b1, ft_l, ft_a, ft_o, Classical.not_not, kb_m104, kb_m103, kb_m102, kb_m101, kb_6, kb_7, kb_8, kb_9, kb_10, kb_12, kb_16, kb_19, kb_20, kb_31, kb_32, kb_40, kb_42, kb_44, kb_47, kb_48, kb_49, kb_57, kb_63, kb_96, kb_99, kb_100, kb_103, kb_111, kb_112, kb_114, kb_116, kb_119, kb_126, kb_127, kc_m1, kc_0, kc_1, kc_2, kc_3, kc_4, kc_5, kc_6, kc_7, kc_8, kc_9, kc_10, kc_11, kc_12, kc_13, kc_14, kc_15, kc_16, kc_17, kc_18, kc_19, kc_20, kc_21, kc_22, kc_23, kc_24, kc_25, kc_26, kc_27, kc_28, kc_29, kc_103, kc_114, kc_116, kc_119, kl_0, kl_1, ks_200, ks_255, ks_288, i_Sh_marks_0, i_Sh_marks_1, i_Sh_marks_2, i_Sh_marks_3, i_Sh_marks_4, i_Sh_marks_5, i_Sh_marks_6, i_Sh_marks_9, i_Sh_marks_12, i_Sh_marks_13, i_Sh_marks_14, i_Sh_marks_15, i_Sh_marks_16, i_Sh_marks_19, i_Sh_marks_20, i_Sh_marks_21, i_Sh_marks_24, i_Sh_marks_27, i_Sh_marks_28, i_Sh_marks_29, i_Sh_marks_32, i_Sh_marks_33, i_Sh_marks_34, i_Sh_marks_35, i_Sh_marks_38, i_Sh_marks_39, i_Sh_marks_40, i_Sh_marks_43, i_Sh_marks_46, i_Sh_marks_49, i_Sh_marks_52, i_Sh_marks_53, x0, nI_leI (a := S.n) (b := S.n) (by omega) (by omega)]
    exact hQ
  | succ m ih =>
    intro k v3 hk
    have g1' : ¬ nI S.n ≤ nI k := by
      rw [nI_leI (by omega) (by omega)]
      omega
    refine run [4, 14] 30 ok_m_Sh_marks (fun V hV => ?_)
    simp only [hV, sPush, sIld, sLld, sAld, sIst, sLst, sAst, sInc, sBI, sBL, sDI, sDL, sSL, sUI, sIL, sLI, sCmp, sDup, sDup2, sGo, sIf, sCm, sNul, sGet, sPut, sIal, sCal, sLal, sAal, sIas, sCas, sLas, sAas, sLen, sNew, sNar, sMna, sIns, sSw, swK, sIret, sLret, sAret, sVret, sSta, sSpe, sVir, sObj, sMax, sMin, sAcp, popN, catS, stdC, callA, gL, stI, stL, clr, cat1, cH, if_true, if_false, reduceIte, List.mem_cons, List.not_mem_nil, or_false, false_or, or_self, List.lookup_cons, List.lookup_nil, Option.toList_some, Option.toList_none, List.cons_append, List.nil_append, List.reverse_cons, List.reverse_nil, true_and, and_true, true_or, or_true, hset_s, hset_hset, List.getElem?_cons_zero, List.getElem?_cons_succ, List.set_cons_zero, List.set_cons_succ, List.length_cons, List.length_nil, beq_self_eq_true, Nat.reduceBEq, va_rf,  not_true_eq_false, not_false_eq_true, false_implies, true_implies, forall_const, ne_eq, eq_self, Nat.reduceAdd, Nat.reduceSub, Nat.reduceLeDiff, Nat.reduceLT, zlt_s, Nat.reduceEqDiff, Nat.zero_le, Nat.sub_zero, Nat.le_refl, imp_self, bI_0, nr_b, nr_b0, nr_b1, nr_i, nr_l, nr_a, nr_o, ft_i, ft_b1, ft_l, ft_a, ft_o, Classical.not_not, kb_m104, kb_m103, kb_m102, kb_m101, kb_6, kb_7, kb_8, kb_9, kb_10, kb_12, kb_16, kb_19, kb_20, kb_31, kb_32, kb_40, kb_42, kb_44, kb_47, kb_48, kb_49, kb_57, kb_63, kb_96, kb_99, kb_100, kb_103, kb_111, kb_112, kb_114, kb_116, kb_119, kb_126, kb_127, kc_m1, kc_0, kc_1, kc_2, kc_3, kc_4, kc_5, kc_6, kc_7, kc_8, kc_9, kc_10, kc_11, kc_12, kc_13, kc_14, kc_15, kc_16, kc_17, kc_18, kc_19, kc_20, kc_21, kc_22, kc_23, kc_24, kc_25, kc_26, kc_27, kc_28, kc_29, kc_103, kc_114, kc_116, kc_119, kl_0, kl_1, ks_200, ks_255, ks_288, i_Sh_marks_0, i_Sh_marks_1, i_Sh_marks_2, i_Sh_marks_3, i_Sh_marks_4, i_Sh_marks_5, i_Sh_marks_6, i_Sh_marks_9, i_Sh_marks_12, i_Sh_marks_13, i_Sh_marks_14, i_Sh_marks_15, i_Sh_marks_16, i_Sh_marks_19, i_Sh_marks_20, i_Sh_marks_21, i_Sh_marks_24, i_Sh_marks_27, i_Sh_marks_28, i_Sh_marks_29, i_Sh_marks_32, i_Sh_marks_33, i_Sh_marks_34, i_Sh_marks_35, i_Sh_marks_38, i_Sh_marks_39, i_Sh_marks_40, i_Sh_marks_43, i_Sh_marks_46, i_Sh_marks_49, i_Sh_marks_52, i_Sh_marks_53, g1', x0]
    exact l_Sh_marks2 d s k S (by omega) h z Q hS _ (fun v => ih (k + 1) v (by omega)) (S.sz k) 0 (by omega)
set_option maxRecDepth 20000 in
theorem s_Sh_marks (d s : Nat) (S : SH) (h : XH) (z : Nat) (Q : XQ) (hS : ShAt h s S) (hQ : Q (some (.int (nI (sumN S.n (mkF S))))) h z) : CALL (d + 2) m_Sh_marks [.ref s] h z Q := by
  refine ⟨Nat.le_of_ble_eq_true rfl, ?_⟩
  show AR (d + 2) m_Sh_marks 0 0 [some (.ref s), none, none, none] [] h z Q
  refine run [4] 30 ok_m_Sh_marks (fun V hV => ?_)
  simp only [hV, sPush, sIld, sLld, sAld, sIst, sLst, sAst, sInc, sBI, sBL, sDI, sDL, sSL, sUI, sIL, sLI, sCmp, sDup, sDup2, sGo, sIf, sCm, sNul, sGet, sPut, sIal, sCal, sLal, sAal, sIas, sCas, sLas, sAas, sLen, sNew, sNar, sMna, sIns, sSw, swK, sIret, sLret, sAret, sVret, sSta, sSpe, sVir, sObj, sMax, sMin, sAcp, popN, catS, stdC, callA, gL, stI, stL, clr, cat1, cH, if_true, if_false, reduceIte, List.mem_cons, List.not_mem_nil, or_false, false_or, or_self, List.lookup_cons, List.lookup_nil, Option.toList_some, Option.toList_none, List.cons_append, List.nil_append, List.reverse_cons, List.reverse_nil, true_and, and_true, true_or, or_true, hset_s, hset_hset, List.getElem?_cons_zero, List.getElem?_cons_succ, List.set_cons_zero, List.set_cons_succ, List.length_cons, List.length_nil, beq_self_eq_true, Nat.reduceBEq, va_rf,  not_true_eq_false, not_false_eq_true, false_implies, true_implies, forall_const, ne_eq, eq_self, Nat.reduceAdd, Nat.reduceSub, Nat.reduceLeDiff, Nat.reduceLT, zlt_s, Nat.reduceEqDiff, Nat.zero_le, Nat.sub_zero, Nat.le_refl, imp_self, bI_0, nr_b, nr_b0, nr_b1, nr_i, nr_l, nr_a, nr_o, ft_i, ft_b1, ft_l, ft_a, ft_o, Classical.not_not, kb_m104, kb_m103, kb_m102, kb_m101, kb_6, kb_7, kb_8, kb_9, kb_10, kb_12, kb_16, kb_19, kb_20, kb_31, kb_32, kb_40, kb_42, kb_44, kb_47, kb_48, kb_49, kb_57, kb_63, kb_96, kb_99, kb_100, kb_103, kb_111, kb_112, kb_114, kb_116, kb_119, kb_126, kb_127, kc_m1, kc_0, kc_1, kc_2, kc_3, kc_4, kc_5, kc_6, kc_7, kc_8, kc_9, kc_10, kc_11, kc_12, kc_13, kc_14, kc_15, kc_16, kc_17, kc_18, kc_19, kc_20, kc_21, kc_22, kc_23, kc_24, kc_25, kc_26, kc_27, kc_28, kc_29, kc_103, kc_114, kc_116, kc_119, kl_0, kl_1, ks_200, ks_255, ks_288, i_Sh_marks_0, i_Sh_marks_1, i_Sh_marks_2, i_Sh_marks_3, i_Sh_marks_4, i_Sh_marks_5, i_Sh_marks_6, i_Sh_marks_9, i_Sh_marks_12, i_Sh_marks_13, i_Sh_marks_14, i_Sh_marks_15, i_Sh_marks_16, i_Sh_marks_19, i_Sh_marks_20, i_Sh_marks_21, i_Sh_marks_24, i_Sh_marks_27, i_Sh_marks_28, i_Sh_marks_29, i_Sh_marks_32, i_Sh_marks_33, i_Sh_marks_34, i_Sh_marks_35, i_Sh_marks_38, i_Sh_marks_39, i_Sh_marks_40, i_Sh_marks_43, i_Sh_marks_46, i_Sh_marks_49, i_Sh_marks_52, i_Sh_marks_53]
  exact l_Sh_marks d s S h z Q hS hQ S.n 0 none (by omega)
/-- what a trace asks -/
def trOK (l m : Option Nat) (r g : Nat) : Prop := ∀ x y, l = some x → m = some y → x % r = (y + g) % r
def trA (S : SH) (n : Nat) (b : Nat → Nat) (c g t : Nat) : Prop := trOK (lastB c (fun i => (b i).testBit (S.ts t))) (firstB (fun i => (b i).testBit (S.ts t)) c (n - c)) (S.tr t) g
set_option maxRecDepth 20000 in
theorem l_Sh_allow (d s a n c g : Nat) (S : SH) (f b w : Nat → Nat) (hc : c ≤ n) (hg : g ≤ 99) (h : XH) (z : Nat) (Q : XQ) (hS : ShAt h s S) (hP : PrAt h a n f b w) (hQ : Q (some (.int (bI (∀ t, t < S.nt → trA S n b c g t)))) h z) : ∀ (m t : Nat), t + m = S.nt → (∀ j, j < t → trA S n b c g j) → AR (d + 2) m_Sh_tracesAllow 0 3 [some (.ref s), some (.ref a), some (.int (nI c)), some (.int (nI g)), some (.int (nI t)), none, none, none] [] h z Q := by
  obtain ⟨y0, y1, ⟨g1, T1, R1, ⟨x0, x1, x2, x3, x4, -⟩, yT⟩, yP⟩ := id hS
  obtain ⟨F, B, W, P, ⟨e5, -⟩, ⟨hn, -⟩, -⟩ := id hP
  intro m
  induction m with
  | zero =>
    intro k hk hd
    have e : k = S.nt := by omega
    subst e
    refine run [3] 30 ok_m_Sh_tracesAllow (fun V hV => ?_)
    simp only [hV, sPush, sIld, sLld, sAld, sIst, sLst, sAst, sInc, sBI, sBL, sDI, sDL, sSL, sUI, sIL, sLI, sCmp, sDup, sDup2, sGo, sIf, sCm, sNul, sGet, sPut, sIal, sCal, sLal, sAal, sIas, sCas, sLas, sAas, sLen, sNew, sNar, sMna, sIns, sSw, swK, sIret, sLret, sAret, sVret, sSta, sSpe, sVir, sObj, sMax, sMin, sAcp, popN, catS, stdC, callA, gL, stI, stL, clr, cat1, cH, if_true, if_false, reduceIte, List.mem_cons, List.not_mem_nil, or_false, false_or, or_self, List.lookup_cons, List.lookup_nil, Option.toList_some, Option.toList_none, List.cons_append, List.nil_append, List.reverse_cons, List.reverse_nil, true_and, and_true, true_or, or_true, hset_s, hset_hset, List.getElem?_cons_zero, List.getElem?_cons_succ, List.set_cons_zero, List.set_cons_succ, List.length_cons, List.length_nil, beq_self_eq_true, Nat.reduceBEq, va_rf,  not_true_eq_false, not_false_eq_true, false_implies, true_implies, forall_const, ne_eq, eq_self, Nat.reduceAdd, Nat.reduceSub, Nat.reduceLeDiff, Nat.reduceLT, zlt_s, Nat.reduceEqDiff, Nat.zero_le, Nat.sub_zero, Nat.le_refl, imp_self, bI_0, nr_b, nr_b0, nr_b1, nr_i, nr_l, nr_a, nr_o, ft_i, ft_b1, ft_l, ft_a, ft_o, Classical.not_not, kb_m104, kb_m103, kb_m102, kb_m101, kb_6, kb_7, kb_8, kb_9, kb_10, kb_12, kb_16, kb_19, kb_20, kb_31, kb_32, kb_40, kb_42, kb_44, kb_47, kb_48, kb_49, kb_57, kb_63, kb_96, kb_99, kb_100, kb_103, kb_111, kb_112, kb_114, kb_116, kb_119, kb_126, kb_127, kc_m1, kc_0, kc_1, kc_2, kc_3, kc_4, kc_5, kc_6, kc_7, kc_8, kc_9, kc_10, kc_11, kc_12, kc_13, kc_14, kc_15, kc_16, kc_17, kc_18, kc_19, kc_20, kc_21, kc_22, kc_23, kc_24, kc_25, kc_26, kc_27, kc_28, kc_29, kc_103, kc_114, kc_116, kc_119, kl_0, kl_1, ks_200, ks_255, ks_288, i_Sh_tracesAllow_0, i_Sh_tracesAllow_1, i_Sh_tracesAllow_3, i_Sh_tracesAllow_5, i_Sh_tracesAllow_6, i_Sh_tracesAllow_9, i_Sh_tracesAllow_12, i_Sh_tracesAllow_13, i_Sh_tracesAllow_14, i_Sh_tracesAllow_15, i_Sh_tracesAllow_18, i_Sh_tracesAllow_20, i_Sh_tracesAllow_21, i_Sh_tracesAllow_24, i_Sh_tracesAllow_26, i_Sh_tracesAllow_27, i_Sh_tracesAllow_28, i_Sh_tracesAllow_29, i_Sh_tracesAllow_32, i_Sh_tracesAllow_34, i_Sh_tracesAllow_35, i_Sh_tracesAllow_38, i_Sh_tracesAllow_40, i_Sh_tracesAllow_41, i_Sh_tracesAllow_44, i_Sh_tracesAllow_46, i_Sh_tracesAllow_47, i_Sh_tracesAllow_49, i_Sh_tracesAllow_51, i_Sh_tracesAllow_52, i_Sh_tracesAllow_55, i_Sh_tracesAllow_57, i_Sh_tracesAllow_58, i_Sh_tracesAllow_61, i_Sh_tracesAllow_63, i_Sh_tracesAllow_66, i_Sh_tracesAllow_68, i_Sh_tracesAllow_70, i_Sh_tracesAllow_71, i_Sh_tracesAllow_73, i_Sh_tracesAllow_74, i_Sh_tracesAllow_75, i_Sh_tracesAllow_77, i_Sh_tracesAllow_78, i_Sh_tracesAllow_81, i_Sh_tracesAllow_82, i_Sh_tracesAllow_83, i_Sh_tracesAllow_86, i_Sh_tracesAllow_89, i_Sh_tracesAllow_90, x0, nI_leI (a := S.nt) (b := S.nt) (by omega) (by omega)]
    rwa [bI_t hd] at hQ
  | succ m ih =>
    intro k hk hd
    have g1' : ¬ nI S.nt ≤ nI k := by
      rw [nI_leI (by omega) (by omega)]
      omega
    obtain ⟨t1, t2, t3, t4, t5⟩ := yT k (by omega)
    have ix := ixN (i := k) (N := 4) (by omega) (by omega)
    have cx := clN (i := k) (by omega)
    have go : trA S n b c g k → ∀ v5 v6 v7, AR (d + 2) m_Sh_tracesAllow 0 3 [some (.ref s), some (.ref a), some (.int (nI c)), some (.int (nI g)), some (.int (nI (k + 1))), v5, v6, v7] [] h z Q := fun H v5 v6 v7 =>
      (ih (k + 1) (by omega) (fun j hj => by
        by_cases q : j = k
        · rw [q]; exact H
        · exact hd j (by omega))).weak _ ⟨rfl, by simp [leL]⟩
    refine run [3] 30 ok_m_Sh_tracesAllow (fun V hV => ?_)
    simp only [hV, sPush, sIld, sLld, sAld, sIst, sLst, sAst, sInc, sBI, sBL, sDI, sDL, sSL, sUI, sIL, sLI, sCmp, sDup, sDup2, sGo, sIf, sCm, sNul, sGet, sPut, sIal, sCal, sLal, sAal, sIas, sCas, sLas, sAas, sLen, sNew, sNar, sMna, sIns, sSw, swK, sIret, sLret, sAret, sVret, sSta, sSpe, sVir, sObj, sMax, sMin, sAcp, popN, catS, stdC, callA, gL, stI, stL, clr, cat1, cH, if_true, if_false, reduceIte, List.mem_cons, List.not_mem_nil, or_false, false_or, or_self, List.lookup_cons, List.lookup_nil, Option.toList_some, Option.toList_none, List.cons_append, List.nil_append, List.reverse_cons, List.reverse_nil, true_and, and_true, true_or, or_true, hset_s, hset_hset, List.getElem?_cons_zero, List.getElem?_cons_succ, List.set_cons_zero, List.set_cons_succ, List.length_cons, List.length_nil, beq_self_eq_true, Nat.reduceBEq, va_rf,  not_true_eq_false, not_false_eq_true, false_implies, true_implies, forall_const, ne_eq, eq_self, Nat.reduceAdd, Nat.reduceSub, Nat.reduceLeDiff, Nat.reduceLT, zlt_s, Nat.reduceEqDiff, Nat.zero_le, Nat.sub_zero, Nat.le_refl, imp_self, bI_0, nr_b, nr_b0, nr_b1, nr_i, nr_l, nr_a, nr_o, ft_i, ft_b1, ft_l, ft_a, ft_o, Classical.not_not, kb_m104, kb_m103, kb_m102, kb_m101, kb_6, kb_7, kb_8, kb_9, kb_10, kb_12, kb_16, kb_19, kb_20, kb_31, kb_32, kb_40, kb_42, kb_44, kb_47, kb_48, kb_49, kb_57, kb_63, kb_96, kb_99, kb_100, kb_103, kb_111, kb_112, kb_114, kb_116, kb_119, kb_126, kb_127, kc_m1, kc_0, kc_1, kc_2, kc_3, kc_4, kc_5, kc_6, kc_7, kc_8, kc_9, kc_10, kc_11, kc_12, kc_13, kc_14, kc_15, kc_16, kc_17, kc_18, kc_19, kc_20, kc_21, kc_22, kc_23, kc_24, kc_25, kc_26, kc_27, kc_28, kc_29, kc_103, kc_114, kc_116, kc_119, kl_0, kl_1, ks_200, ks_255, ks_288, i_Sh_tracesAllow_0, i_Sh_tracesAllow_1, i_Sh_tracesAllow_3, i_Sh_tracesAllow_5, i_Sh_tracesAllow_6, i_Sh_tracesAllow_9, i_Sh_tracesAllow_12, i_Sh_tracesAllow_13, i_Sh_tracesAllow_14, i_Sh_tracesAllow_15, i_Sh_tracesAllow_18, i_Sh_tracesAllow_20, i_Sh_tracesAllow_21, i_Sh_tracesAllow_24, i_Sh_tracesAllow_26, i_Sh_tracesAllow_27, i_Sh_tracesAllow_28, i_Sh_tracesAllow_29, i_Sh_tracesAllow_32, i_Sh_tracesAllow_34, i_Sh_tracesAllow_35, i_Sh_tracesAllow_38, i_Sh_tracesAllow_40, i_Sh_tracesAllow_41, i_Sh_tracesAllow_44, i_Sh_tracesAllow_46, i_Sh_tracesAllow_47, i_Sh_tracesAllow_49, i_Sh_tracesAllow_51, i_Sh_tracesAllow_52, i_Sh_tracesAllow_55, i_Sh_tracesAllow_57, i_Sh_tracesAllow_58, i_Sh_tracesAllow_61, i_Sh_tracesAllow_63, i_Sh_tracesAllow_66, i_Sh_tracesAllow_68, i_Sh_tracesAllow_70, i_Sh_tracesAllow_71, i_Sh_tracesAllow_73, i_Sh_tracesAllow_74, i_Sh_tracesAllow_75, i_Sh_tracesAllow_77, i_Sh_tracesAllow_78, i_Sh_tracesAllow_81, i_Sh_tracesAllow_82, i_Sh_tracesAllow_83, i_Sh_tracesAllow_86, i_Sh_tracesAllow_89, i_Sh_tracesAllow_90, g1', x0, x2, t1, e5, ix, cx]
    refine s_Pr_lastAhead _ _ _ _ _ _ c _ _ _ _ hP hc t3 ?_
    refine run [3] 30 ok_m_Sh_tracesAllow (fun V hV => ?_)
    simp only [hV, sPush, sIld, sLld, sAld, sIst, sLst, sAst, sInc, sBI, sBL, sDI, sDL, sSL, sUI, sIL, sLI, sCmp, sDup, sDup2, sGo, sIf, sCm, sNul, sGet, sPut, sIal, sCal, sLal, sAal, sIas, sCas, sLas, sAas, sLen, sNew, sNar, sMna, sIns, sSw, swK, sIret, sLret, sAret, sVret, sSta, sSpe, sVir, sObj, sMax, sMin, sAcp, popN, catS, stdC, callA, gL, stI, stL, clr, cat1, cH, if_true, if_false, reduceIte, List.mem_cons, List.not_mem_nil, or_false, false_or, or_self, List.lookup_cons, List.lookup_nil, Option.toList_some, Option.toList_none, List.cons_append, List.nil_append, List.reverse_cons, List.reverse_nil, true_and, and_true, true_or, or_true, hset_s, hset_hset, List.getElem?_cons_zero, List.getElem?_cons_succ, List.set_cons_zero, List.set_cons_succ, List.length_cons, List.length_nil, beq_self_eq_true, Nat.reduceBEq, va_rf,  not_true_eq_false, not_false_eq_true, false_implies, true_implies, forall_const, ne_eq, eq_self, Nat.reduceAdd, Nat.reduceSub, Nat.reduceLeDiff, Nat.reduceLT, zlt_s, Nat.reduceEqDiff, Nat.zero_le, Nat.sub_zero, Nat.le_refl, imp_self, bI_0, nr_b, nr_b0, nr_b1, nr_i, nr_l, nr_a, nr_o, ft_i, ft_b1, ft_l, ft_a, ft_o, Classical.not_not, kb_m104, kb_m103, kb_m102, kb_m101, kb_6, kb_7, kb_8, kb_9, kb_10, kb_12, kb_16, kb_19, kb_20, kb_31, kb_32, kb_40, kb_42, kb_44, kb_47, kb_48, kb_49, kb_57, kb_63, kb_96, kb_99, kb_100, kb_103, kb_111, kb_112, kb_114, kb_116, kb_119, kb_126, kb_127, kc_m1, kc_0, kc_1, kc_2, kc_3, kc_4, kc_5, kc_6, kc_7, kc_8, kc_9, kc_10, kc_11, kc_12, kc_13, kc_14, kc_15, kc_16, kc_17, kc_18, kc_19, kc_20, kc_21, kc_22, kc_23, kc_24, kc_25, kc_26, kc_27, kc_28, kc_29, kc_103, kc_114, kc_116, kc_119, kl_0, kl_1, ks_200, ks_255, ks_288, i_Sh_tracesAllow_0, i_Sh_tracesAllow_1, i_Sh_tracesAllow_3, i_Sh_tracesAllow_5, i_Sh_tracesAllow_6, i_Sh_tracesAllow_9, i_Sh_tracesAllow_12, i_Sh_tracesAllow_13, i_Sh_tracesAllow_14, i_Sh_tracesAllow_15, i_Sh_tracesAllow_18, i_Sh_tracesAllow_20, i_Sh_tracesAllow_21, i_Sh_tracesAllow_24, i_Sh_tracesAllow_26, i_Sh_tracesAllow_27, i_Sh_tracesAllow_28, i_Sh_tracesAllow_29, i_Sh_tracesAllow_32, i_Sh_tracesAllow_34, i_Sh_tracesAllow_35, i_Sh_tracesAllow_38, i_Sh_tracesAllow_40, i_Sh_tracesAllow_41, i_Sh_tracesAllow_44, i_Sh_tracesAllow_46, i_Sh_tracesAllow_47, i_Sh_tracesAllow_49, i_Sh_tracesAllow_51, i_Sh_tracesAllow_52, i_Sh_tracesAllow_55, i_Sh_tracesAllow_57, i_Sh_tracesAllow_58, i_Sh_tracesAllow_61, i_Sh_tracesAllow_63, i_Sh_tracesAllow_66, i_Sh_tracesAllow_68, i_Sh_tracesAllow_70, i_Sh_tracesAllow_71, i_Sh_tracesAllow_73, i_Sh_tracesAllow_74, i_Sh_tracesAllow_75, i_Sh_tracesAllow_77, i_Sh_tracesAllow_78, i_Sh_tracesAllow_81, i_Sh_tracesAllow_82, i_Sh_tracesAllow_83, i_Sh_tracesAllow_86, i_Sh_tracesAllow_89, i_Sh_tracesAllow_90, x0, x2, t1, e5, ix, cx]
    refine s_Pr_firstFrom _ _ _ _ _ _ c _ _ _ _ hP hc t3 ?_
    rcases hl : lastB c (fun i => (b i).testBit (S.ts k)) with _ | x
    · refine run [3] 30 ok_m_Sh_tracesAllow (fun V hV => ?_)
      simp only [hV, sPush, sIld, sLld, sAld, sIst, sLst, sAst, sInc, sBI, sBL, sDI, sDL, sSL, sUI, sIL, sLI, sCmp, sDup, sDup2, sGo, sIf, sCm, sNul, sGet, sPut, sIal, sCal, sLal, sAal, sIas, sCas, sLas, sAas, sLen, sNew, sNar, sMna, sIns, sSw, swK, sIret, sLret, sAret, sVret, sSta, sSpe, sVir, sObj, sMax, sMin, sAcp, popN, catS, stdC, callA, gL, stI, stL, clr, cat1, cH, if_true, if_false, reduceIte, List.mem_cons, List.not_mem_nil, or_false, false_or, or_self, List.lookup_cons, List.lookup_nil, Option.toList_some, Option.toList_none, List.cons_append, List.nil_append, List.reverse_cons, List.reverse_nil, true_and, and_true, true_or, or_true, hset_s, hset_hset, List.getElem?_cons_zero, List.getElem?_cons_succ, List.set_cons_zero, List.set_cons_succ, List.length_cons, List.length_nil, beq_self_eq_true, Nat.reduceBEq, va_rf,  not_true_eq_false, not_false_eq_true, false_implies, true_implies, forall_const, ne_eq, eq_self, Nat.reduceAdd, Nat.reduceSub, Nat.reduceLeDiff, Nat.reduceLT, zlt_s, Nat.reduceEqDiff, Nat.zero_le, Nat.sub_zero, Nat.le_refl, imp_self, bI_0, nr_b, nr_b0, nr_b1, nr_i, nr_l, nr_a, nr_o, ft_i, ft_b1, ft_l, ft_a, ft_o, Classical.not_not, kb_m104, kb_m103, kb_m102, kb_m101, kb_6, kb_7, kb_8, kb_9, kb_10, kb_12, kb_16, kb_19, kb_20, kb_31, kb_32, kb_40, kb_42, kb_44, kb_47, kb_48, kb_49, kb_57, kb_63, kb_96, kb_99, kb_100, kb_103, kb_111, kb_112, kb_114, kb_116, kb_119, kb_126, kb_127, kc_m1, kc_0, kc_1, kc_2, kc_3, kc_4, kc_5, kc_6, kc_7, kc_8, kc_9, kc_10, kc_11, kc_12, kc_13, kc_14, kc_15, kc_16, kc_17, kc_18, kc_19, kc_20, kc_21, kc_22, kc_23, kc_24, kc_25, kc_26, kc_27, kc_28, kc_29, kc_103, kc_114, kc_116, kc_119, kl_0, kl_1, ks_200, ks_255, ks_288, i_Sh_tracesAllow_0, i_Sh_tracesAllow_1, i_Sh_tracesAllow_3, i_Sh_tracesAllow_5, i_Sh_tracesAllow_6, i_Sh_tracesAllow_9, i_Sh_tracesAllow_12, i_Sh_tracesAllow_13, i_Sh_tracesAllow_14, i_Sh_tracesAllow_15, i_Sh_tracesAllow_18, i_Sh_tracesAllow_20, i_Sh_tracesAllow_21, i_Sh_tracesAllow_24, i_Sh_tracesAllow_26, i_Sh_tracesAllow_27, i_Sh_tracesAllow_28, i_Sh_tracesAllow_29, i_Sh_tracesAllow_32, i_Sh_tracesAllow_34, i_Sh_tracesAllow_35, i_Sh_tracesAllow_38, i_Sh_tracesAllow_40, i_Sh_tracesAllow_41, i_Sh_tracesAllow_44, i_Sh_tracesAllow_46, i_Sh_tracesAllow_47, i_Sh_tracesAllow_49, i_Sh_tracesAllow_51, i_Sh_tracesAllow_52, i_Sh_tracesAllow_55, i_Sh_tracesAllow_57, i_Sh_tracesAllow_58, i_Sh_tracesAllow_61, i_Sh_tracesAllow_63, i_Sh_tracesAllow_66, i_Sh_tracesAllow_68, i_Sh_tracesAllow_70, i_Sh_tracesAllow_71, i_Sh_tracesAllow_73, i_Sh_tracesAllow_74, i_Sh_tracesAllow_75, i_Sh_tracesAllow_77, i_Sh_tracesAllow_78, i_Sh_tracesAllow_81, i_Sh_tracesAllow_82, i_Sh_tracesAllow_83, i_Sh_tracesAllow_86, i_Sh_tracesAllow_89, i_Sh_tracesAllow_90, x0, x3, t2, ix, cx, oI, nI_1]
      exact go (fun x y e => by rw [hl] at e; cases e) _ _ _
    rcases hf : firstB (fun i => (b i).testBit (S.ts k)) c (n - c) with _ | y
    · refine run [3] 30 ok_m_Sh_tracesAllow (fun V hV => ?_)
      simp only [hV, sPush, sIld, sLld, sAld, sIst, sLst, sAst, sInc, sBI, sBL, sDI, sDL, sSL, sUI, sIL, sLI, sCmp, sDup, sDup2, sGo, sIf, sCm, sNul, sGet, sPut, sIal, sCal, sLal, sAal, sIas, sCas, sLas, sAas, sLen, sNew, sNar, sMna, sIns, sSw, swK, sIret, sLret, sAret, sVret, sSta, sSpe, sVir, sObj, sMax, sMin, sAcp, popN, catS, stdC, callA, gL, stI, stL, clr, cat1, cH, if_true, if_false, reduceIte, List.mem_cons, List.not_mem_nil, or_false, false_or, or_self, List.lookup_cons, List.lookup_nil, Option.toList_some, Option.toList_none, List.cons_append, List.nil_append, List.reverse_cons, List.reverse_nil, true_and, and_true, true_or, or_true, hset_s, hset_hset, List.getElem?_cons_zero, List.getElem?_cons_succ, List.set_cons_zero, List.set_cons_succ, List.length_cons, List.length_nil, beq_self_eq_true, Nat.reduceBEq, va_rf,  not_true_eq_false, not_false_eq_true, false_implies, true_implies, forall_const, ne_eq, eq_self, Nat.reduceAdd, Nat.reduceSub, Nat.reduceLeDiff, Nat.reduceLT, zlt_s, Nat.reduceEqDiff, Nat.zero_le, Nat.sub_zero, Nat.le_refl, imp_self, bI_0, nr_b, nr_b0, nr_b1, nr_i, nr_l, nr_a, nr_o, ft_i, ft_b1, ft_l, ft_a, ft_o, Classical.not_not, kb_m104, kb_m103, kb_m102, kb_m101, kb_6, kb_7, kb_8, kb_9, kb_10, kb_12, kb_16, kb_19, kb_20, kb_31, kb_32, kb_40, kb_42, kb_44, kb_47, kb_48, kb_49, kb_57, kb_63, kb_96, kb_99, kb_100, kb_103, kb_111, kb_112, kb_114, kb_116, kb_119, kb_126, kb_127, kc_m1, kc_0, kc_1, kc_2, kc_3, kc_4, kc_5, kc_6, kc_7, kc_8, kc_9, kc_10, kc_11, kc_12, kc_13, kc_14, kc_15, kc_16, kc_17, kc_18, kc_19, kc_20, kc_21, kc_22, kc_23, kc_24, kc_25, kc_26, kc_27, kc_28, kc_29, kc_103, kc_114, kc_116, kc_119, kl_0, kl_1, ks_200, ks_255, ks_288, i_Sh_tracesAllow_0, i_Sh_tracesAllow_1, i_Sh_tracesAllow_3, i_Sh_tracesAllow_5, i_Sh_tracesAllow_6, i_Sh_tracesAllow_9, i_Sh_tracesAllow_12, i_Sh_tracesAllow_13, i_Sh_tracesAllow_14, i_Sh_tracesAllow_15, i_Sh_tracesAllow_18, i_Sh_tracesAllow_20, i_Sh_tracesAllow_21, i_Sh_tracesAllow_24, i_Sh_tracesAllow_26, i_Sh_tracesAllow_27, i_Sh_tracesAllow_28, i_Sh_tracesAllow_29, i_Sh_tracesAllow_32, i_Sh_tracesAllow_34, i_Sh_tracesAllow_35, i_Sh_tracesAllow_38, i_Sh_tracesAllow_40, i_Sh_tracesAllow_41, i_Sh_tracesAllow_44, i_Sh_tracesAllow_46, i_Sh_tracesAllow_47, i_Sh_tracesAllow_49, i_Sh_tracesAllow_51, i_Sh_tracesAllow_52, i_Sh_tracesAllow_55, i_Sh_tracesAllow_57, i_Sh_tracesAllow_58, i_Sh_tracesAllow_61, i_Sh_tracesAllow_63, i_Sh_tracesAllow_66, i_Sh_tracesAllow_68, i_Sh_tracesAllow_70, i_Sh_tracesAllow_71, i_Sh_tracesAllow_73, i_Sh_tracesAllow_74, i_Sh_tracesAllow_75, i_Sh_tracesAllow_77, i_Sh_tracesAllow_78, i_Sh_tracesAllow_81, i_Sh_tracesAllow_82, i_Sh_tracesAllow_83, i_Sh_tracesAllow_86, i_Sh_tracesAllow_89, i_Sh_tracesAllow_90, x0, x3, t2, ix, cx, oI, nI_ne (a := x) (by have := lastB_lt hl; omega), nI_1]
      exact go (fun x y e e' => by rw [hf] at e'; cases e') _ _ _
    have hx := lastB_lt hl
    have hy := firstB_lt hf
    refine run [3] 40 ok_m_Sh_tracesAllow (fun V hV => ?_)
    simp only [hV, sPush, sIld, sLld, sAld, sIst, sLst, sAst, sInc, sBI, sBL, sDI, sDL, sSL, sUI, sIL, sLI, sCmp, sDup, sDup2, sGo, sIf, sCm, sNul, sGet, sPut, sIal, sCal, sLal, sAal, sIas, sCas, sLas, sAas, sLen, sNew, sNar, sMna, sIns, sSw, swK, sIret, sLret, sAret, sVret, sSta, sSpe, sVir, sObj, sMax, sMin, sAcp, popN, catS, stdC, callA, gL, stI, stL, clr, cat1, cH, if_true, if_false, reduceIte, List.mem_cons, List.not_mem_nil, or_false, false_or, or_self, List.lookup_cons, List.lookup_nil, Option.toList_some, Option.toList_none, List.cons_append, List.nil_append, List.reverse_cons, List.reverse_nil, true_and, and_true, true_or, or_true, hset_s, hset_hset, List.getElem?_cons_zero, List.getElem?_cons_succ, List.set_cons_zero, List.set_cons_succ, List.length_cons, List.length_nil, beq_self_eq_true, Nat.reduceBEq, va_rf,  not_true_eq_false, not_false_eq_true, false_implies, true_implies, forall_const, ne_eq, eq_self, Nat.reduceAdd, Nat.reduceSub, Nat.reduceLeDiff, Nat.reduceLT, zlt_s, Nat.reduceEqDiff, Nat.zero_le, Nat.sub_zero, Nat.le_refl, imp_self, bI_0, nr_b, nr_b0, nr_b1, nr_i, nr_l, nr_a, nr_o, ft_i, ft_b1, ft_l, ft_a, ft_o, Classical.not_not, kb_m104, kb_m103, kb_m102, kb_m101, kb_6, kb_7, kb_8, kb_9, kb_10, kb_12, kb_16, kb_19, kb_20, kb_31, kb_32, kb_40, kb_42, kb_44, kb_47, kb_48, kb_49, kb_57, kb_63, kb_96, kb_99, kb_100, kb_103, kb_111, kb_112, kb_114, kb_116, kb_119, kb_126, kb_127, kc_m1, kc_0, kc_1, kc_2, kc_3, kc_4, kc_5, kc_6, kc_7, kc_8, kc_9, kc_10, kc_11, kc_12, kc_13, kc_14, kc_15, kc_16, kc_17, kc_18, kc_19, kc_20, kc_21, kc_22, kc_23, kc_24, kc_25, kc_26, kc_27, kc_28, kc_29, kc_103, kc_114, kc_116, kc_119, kl_0, kl_1, ks_200, ks_255, ks_288, i_Sh_tracesAllow_0, i_Sh_tracesAllow_1, i_Sh_tracesAllow_3, i_Sh_tracesAllow_5, i_Sh_tracesAllow_6, i_Sh_tracesAllow_9, i_Sh_tracesAllow_12, i_Sh_tracesAllow_13, i_Sh_tracesAllow_14, i_Sh_tracesAllow_15, i_Sh_tracesAllow_18, i_Sh_tracesAllow_20, i_Sh_tracesAllow_21, i_Sh_tracesAllow_24, i_Sh_tracesAllow_26, i_Sh_tracesAllow_27, i_Sh_tracesAllow_28, i_Sh_tracesAllow_29, i_Sh_tracesAllow_32, i_Sh_tracesAllow_34, i_Sh_tracesAllow_35, i_Sh_tracesAllow_38, i_Sh_tracesAllow_40, i_Sh_tracesAllow_41, i_Sh_tracesAllow_44, i_Sh_tracesAllow_46, i_Sh_tracesAllow_47, i_Sh_tracesAllow_49, i_Sh_tracesAllow_51, i_Sh_tracesAllow_52, i_Sh_tracesAllow_55, i_Sh_tracesAllow_57, i_Sh_tracesAllow_58, i_Sh_tracesAllow_61, i_Sh_tracesAllow_63, i_Sh_tracesAllow_66, i_Sh_tracesAllow_68, i_Sh_tracesAllow_70, i_Sh_tracesAllow_71, i_Sh_tracesAllow_73, i_Sh_tracesAllow_74, i_Sh_tracesAllow_75, i_Sh_tracesAllow_77, i_Sh_tracesAllow_78, i_Sh_tracesAllow_81, i_Sh_tracesAllow_82, i_Sh_tracesAllow_83, i_Sh_tracesAllow_86, i_Sh_tracesAllow_89, i_Sh_tracesAllow_90, x0, x3, t2, ix, cx, oI, nI_ne (a := x) (by omega), nI_ne (a := y) (by omega), nI_1, nI_add, nI_nle0 (n := S.tr k) (by omega) (by omega), nI_ne0 (n := S.tr k) (by omega) (by omega), nI_rem (a := x) (b := S.tr k) (by omega) (by omega), nI_rem (a := y + g) (b := S.tr k) (by omega) (by omega), nI_inj (a := x % S.tr k) (b := (y + g) % S.tr k) (Nat.lt_of_le_of_lt (Nat.mod_le _ _) (by omega)) (Nat.lt_of_le_of_lt (Nat.mod_le _ _) (by omega))]
    refine ⟨fun c' => ?_, fun c' => ?_⟩
    · refine go (fun x' y' e e' => ?_) _ _ _
      rw [hl] at e
      rw [hf] at e'
      cases e
      cases e'
      exact c'
    · rwa [bI_f (fun H => c' (H k (by omega) x y hl hf))] at hQ
set_option maxRecDepth 20000 in
theorem s_Sh_allow (d s a n c g : Nat) (S : SH) (f b w : Nat → Nat) (hc : c ≤ n) (hg : g ≤ 99) (h : XH) (z : Nat) (Q : XQ) (hS : ShAt h s S) (hP : PrAt h a n f b w) (hQ : Q (some (.int (bI (∀ t, t < S.nt → trA S n b c g t)))) h z) : CALL (d + 2) m_Sh_tracesAllow [.ref s, .ref a, .int (nI c), .int (nI g)] h z Q := by
  refine ⟨Nat.le_of_ble_eq_true rfl, ?_⟩
  show AR (d + 2) m_Sh_tracesAllow 0 0 [some (.ref s), some (.ref a), some (.int (nI c)), some (.int (nI g)), none, none, none, none] [] h z Q
  refine run [3] 30 ok_m_Sh_tracesAllow (fun V hV => ?_)
  simp only [hV, sPush, sIld, sLld, sAld, sIst, sLst, sAst, sInc, sBI, sBL, sDI, sDL, sSL, sUI, sIL, sLI, sCmp, sDup, sDup2, sGo, sIf, sCm, sNul, sGet, sPut, sIal, sCal, sLal, sAal, sIas, sCas, sLas, sAas, sLen, sNew, sNar, sMna, sIns, sSw, swK, sIret, sLret, sAret, sVret, sSta, sSpe, sVir, sObj, sMax, sMin, sAcp, popN, catS, stdC, callA, gL, stI, stL, clr, cat1, cH, if_true, if_false, reduceIte, List.mem_cons, List.not_mem_nil, or_false, false_or, or_self, List.lookup_cons, List.lookup_nil, Option.toList_some, Option.toList_none, List.cons_append, List.nil_append, List.reverse_cons, List.reverse_nil, true_and, and_true, true_or, or_true, hset_s, hset_hset, List.getElem?_cons_zero, List.getElem?_cons_succ, List.set_cons_zero, List.set_cons_succ, List.length_cons, List.length_nil, beq_self_eq_true, Nat.reduceBEq, va_rf,  not_true_eq_false, not_false_eq_true, false_implies, true_implies, forall_const, ne_eq, eq_self, Nat.reduceAdd, Nat.reduceSub, Nat.reduceLeDiff, Nat.reduceLT, zlt_s, Nat.reduceEqDiff, Nat.zero_le, Nat.sub_zero, Nat.le_refl, imp_self, bI_0, nr_b, nr_b0, nr_b1, nr_i, nr_l, nr_a, nr_o, ft_i, ft_b1, ft_l, ft_a, ft_o, Classical.not_not, kb_m104, kb_m103, kb_m102, kb_m101, kb_6, kb_7, kb_8, kb_9, kb_10, kb_12, kb_16, kb_19, kb_20, kb_31, kb_32, kb_40, kb_42, kb_44, kb_47, kb_48, kb_49, kb_57, kb_63, kb_96, kb_99, kb_100, kb_103, kb_111, kb_112, kb_114, kb_116, kb_119, kb_126, kb_127, kc_m1, kc_0, kc_1, kc_2, kc_3, kc_4, kc_5, kc_6, kc_7, kc_8, kc_9, kc_10, kc_11, kc_12, kc_13, kc_14, kc_15, kc_16, kc_17, kc_18, kc_19, kc_20, kc_21, kc_22, kc_23, kc_24, kc_25, kc_26, kc_27, kc_28, kc_29, kc_103, kc_114, kc_116, kc_119, kl_0, kl_1, ks_200, ks_255, ks_288, i_Sh_tracesAllow_0, i_Sh_tracesAllow_1, i_Sh_tracesAllow_3, i_Sh_tracesAllow_5, i_Sh_tracesAllow_6, i_Sh_tracesAllow_9, i_Sh_tracesAllow_12, i_Sh_tracesAllow_13, i_Sh_tracesAllow_14, i_Sh_tracesAllow_15, i_Sh_tracesAllow_18, i_Sh_tracesAllow_20, i_Sh_tracesAllow_21, i_Sh_tracesAllow_24, i_Sh_tracesAllow_26, i_Sh_tracesAllow_27, i_Sh_tracesAllow_28, i_Sh_tracesAllow_29, i_Sh_tracesAllow_32, i_Sh_tracesAllow_34, i_Sh_tracesAllow_35, i_Sh_tracesAllow_38, i_Sh_tracesAllow_40, i_Sh_tracesAllow_41, i_Sh_tracesAllow_44, i_Sh_tracesAllow_46, i_Sh_tracesAllow_47, i_Sh_tracesAllow_49, i_Sh_tracesAllow_51, i_Sh_tracesAllow_52, i_Sh_tracesAllow_55, i_Sh_tracesAllow_57, i_Sh_tracesAllow_58, i_Sh_tracesAllow_61, i_Sh_tracesAllow_63, i_Sh_tracesAllow_66, i_Sh_tracesAllow_68, i_Sh_tracesAllow_70, i_Sh_tracesAllow_71, i_Sh_tracesAllow_73, i_Sh_tracesAllow_74, i_Sh_tracesAllow_75, i_Sh_tracesAllow_77, i_Sh_tracesAllow_78, i_Sh_tracesAllow_81, i_Sh_tracesAllow_82, i_Sh_tracesAllow_83, i_Sh_tracesAllow_86, i_Sh_tracesAllow_89, i_Sh_tracesAllow_90]
  exact l_Sh_allow d s a n c g S f b w hc hg h z Q hS hP hQ S.nt 0 (by omega) (fun j hj => by omega)
/-! what a sum of prints leaves -/
def b32 (x : Int32) (i : Nat) : Bool := x.toBitVec.getLsbD i
theorem b32_or (x y : Int32) (i : Nat) : b32 (x ||| y) i = (b32 x i || b32 y i) := by
  show (x ||| y).toBitVec.getLsbD i = _
  rw [Int32.toBitVec_or, BitVec.getLsbD_or]
  rfl
theorem b32_and (x y : Int32) (i : Nat) : b32 (x &&& y) i = (b32 x i && b32 y i) := by
  show (x &&& y).toBitVec.getLsbD i = _
  rw [Int32.toBitVec_and, BitVec.getLsbD_and]
  rfl
theorem b32_not (x : Int32) {i : Nat} (h : i < 32) : b32 (x ^^^ (-1)) i = !b32 x i := by
  show (x ^^^ (-1)).toBitVec.getLsbD i = _
  rw [Int32.toBitVec_xor, BitVec.getLsbD_xor]
  have : (-1 : Int32).toBitVec = BitVec.allOnes 32 := by decide
  rw [this, BitVec.getLsbD_allOnes]
  simp [h, b32]
theorem b32_0 (i : Nat) : b32 0 i = false := by
  show (0#32).getLsbD i = false
  simp
theorem b32_n {v : Nat} (h : v < 2 ^ 32) (i : Nat) : b32 (nI v) i = v.testBit i := by
  show (BitVec.ofNat 32 v).getLsbD i = _
  rw [BitVec.getLsbD_ofNat]
  by_cases c : i < 32
  · simp [c]
  · have : v < 2 ^ i := Nat.lt_of_lt_of_le h (Nat.pow_le_pow_right (by omega) (by omega))
    simp [c, Nat.testBit_lt_two_pow this]
theorem and_n {v : Nat} (hv : v < 256) (r : Int32) : ∃ u, u < 256 ∧ nI v &&& r = nI u ∧ ∀ i, u.testBit i = (v.testBit i && b32 r i) := by
  refine ⟨v &&& r.toBitVec.toNat, Nat.lt_of_le_of_lt Nat.and_le_left hv, ?_, fun i => ?_⟩
  · apply Int32.toBitVec_inj.mp
    rw [Int32.toBitVec_and]
    show BitVec.ofNat 32 v &&& r.toBitVec = BitVec.ofNat 32 _
    apply BitVec.eq_of_toNat_eq
    simp only [BitVec.toNat_and, BitVec.toNat_ofNat]
    rw [Nat.mod_eq_of_lt (Nat.lt_trans hv (by decide))]
    rw [Nat.mod_eq_of_lt]
    exact Nat.lt_of_le_of_lt Nat.and_le_left (Nat.lt_trans hv (by decide))
  · rw [Nat.testBit_and]
    rfl
/-- how many of the first k prints, but one, have a frame with no mark on a side -/
def clP (S : SH) (p fr t q : Nat) : Bool := decide (q ≠ p) && match plc (S.sz q) (S.f q) fr with
  | some l => !(S.b q l ||| S.w q l).testBit t
  | none => false
theorem nxt_lt {f : Nat → Nat} {g : Nat} : ∀ {m k x : Nat}, nxt f g k m = some x → x < k + m := by
  intro m
  induction m with
  | zero => intro k x h; simp [nxt] at h
  | succ m ih =>
    intro k x h
    unfold nxt at h
    split at h
    · simp at h; omega
    · have := ih h; omega
theorem plc_lt {n : Nat} {f : Nat → Nat} {g x : Nat} (h : plc n f g = some x) : x < n := by
  have := nxt_lt h
  omega
theorem cnt_s (n : Nat) (p : Nat → Bool) : cnt (n + 1) p = cnt n p + (if p n then 1 else 0) := rfl
/-- the marked sides of a picture that the others do not clean -/
def lfP (S : SH) (p i : Nat) : Nat := cnt 8 (fun t => (S.b p i ||| S.w p i).testBit t && decide (cnt S.n (clP S p (S.f p i) t) < 2))
def lfA (S : SH) (p : Nat) : Nat := sumN (S.sz p) (lfP S p)
