/-! THE MODEL: whole -/
theorem wgJ_le {S : SH} {n c : Nat} (hc : c ≤ 99) : ∀ m, m ≤ n → (∀ g p v, (wgJ S n c m).1 g p = some v → v ≤ 115 * m) ∧ ∀ g, (wgJ S n c m).2 = some g → n - m ≤ g ∧ g < n := by
  intro m
  induction m with
  | zero => intro _; exact ⟨fun g p v h => (by cases h), fun g h => (by cases h)⟩
  | succ m ih =>
    intro hm
    obtain ⟨i1, i2⟩ := ih (by omega)
    constructor
    · intro g p v h
      have h' : (if g = n - (m + 1) then rowJ S c (n - (m + 1)) (wgJ S n c m).1 (wgJ S n c m).2 else (wgJ S n c m).1 g) p = some v := h
      by_cases e : g = n - (m + 1)
      · rw [if_pos e, rowJ_mk] at h'
        rcases hk : mkO S p (n - (m + 1)) with _ | k
        · rw [hk] at h'
          cases h'
        · rw [hk] at h'
          have kb := mkO_le hk
          have e2 : k + rsJ S c (wgJ S n c m).1 (wgJ S n c m).2 p = v := by
            have : some (k + rsJ S c (wgJ S n c m).1 (wgJ S n c m).2 p) = some v := h'
            exact Option.some.inj this
          have rb : rsJ S c (wgJ S n c m).1 (wgJ S n c m).2 p ≤ 115 * m + 99 := by
            unfold rsJ
            split
            · omega
            · rename_i g hg
              unfold csO
              split
              · omega
              · rename_i y hy
                obtain ⟨-, w, hw⟩ := chp_some hy
                have := i1 g y w hw
                have := adO_le (some p) y c
                rw [hw]
                show w + adO (some p) y c ≤ _
                omega
          omega
      · rw [if_neg e] at h'
        have := i1 g p v h'
        omega
    · intro g h
      have h' : (if hadF (rowJ S c (n - (m + 1)) (wgJ S n c m).1 (wgJ S n c m).2) S.n then some (n - (m + 1)) else (wgJ S n c m).2) = some g := h
      split at h'
      · cases h'
        omega
      · have := i2 g h'
        omega
theorem wgJ_st {S : SH} {n c m g : Nat} (h : g ≠ n - (m + 1)) : (wgJ S n c (m + 1)).1 g = (wgJ S n c m).1 g := by
  show (if g = n - (m + 1) then _ else (wgJ S n c m).1 g) = _
  rw [if_neg h]
theorem hadF_i {R : Nat → Option Nat} : ∀ {n : Nat}, hadF R n = true ↔ ∃ p, p < n ∧ R p ≠ none := by
  intro n
  induction n with
  | zero => exact ⟨fun h => (by cases h), fun ⟨p, h, _⟩ => absurd h (Nat.not_lt_zero _)⟩
  | succ n ih =>
    show (hadF R n || (R n).isSome) = true ↔ _
    rw [Bool.or_eq_true, ih]
    constructor
    · rintro (⟨p, h1, h2⟩ | h)
      · exact ⟨p, by omega, h2⟩
      · exact ⟨n, by omega, fun e => by rw [e] at h; cases h⟩
    · rintro ⟨p, h1, h2⟩
      by_cases e : p = n
      · right
        subst e
        cases hr : R p with
        | none => exact absurd hr h2
        | some v => rfl
      · exact .inl ⟨p, by omega, h2⟩
/-- the first frame that some print has -/
theorem wgJ_bh {S : SH} {n c : Nat} : ∀ m, m ≤ n → ((wgJ S n c m).2 = none → ∀ f, n - m ≤ f → f < n → ∀ p, p < S.n → (wgJ S n c m).1 f p = none) ∧ ∀ g, (wgJ S n c m).2 = some g → n - m ≤ g ∧ g < n ∧ (∃ p, p < S.n ∧ (wgJ S n c m).1 g p ≠ none) ∧ ∀ f, n - m ≤ f → f < g → ∀ p, p < S.n → (wgJ S n c m).1 f p = none := by
  intro m
  induction m with
  | zero => intro _; exact ⟨fun _ f h1 h2 => (by omega), fun g h => (by cases h)⟩
  | succ m ih =>
    intro hm
    obtain ⟨i1, i2⟩ := ih (by omega)
    have e1 : (wgJ S n c (m + 1)).1 (n - (m + 1)) = rowJ S c (n - (m + 1)) (wgJ S n c m).1 (wgJ S n c m).2 := by
      show (if n - (m + 1) = n - (m + 1) then _ else _) = _
      rw [if_pos rfl]
    have e2 : (wgJ S n c (m + 1)).2 = if hadF (rowJ S c (n - (m + 1)) (wgJ S n c m).1 (wgJ S n c m).2) S.n then some (n - (m + 1)) else (wgJ S n c m).2 := rfl
    rw [← e1] at e2
    by_cases hh : hadF ((wgJ S n c (m + 1)).1 (n - (m + 1))) S.n = true
    · rw [if_pos hh] at e2
      rw [e2]
      refine ⟨fun h => (by cases h), fun g h => ?_⟩
      have eg : n - (m + 1) = g := Option.some.inj h
      subst eg
      exact ⟨Nat.le_refl _, by omega, hadF_i.mp hh, fun f h1 h2 => absurd h1 (by omega)⟩
    · rw [if_neg hh] at e2
      have no : ∀ p, p < S.n → (wgJ S n c (m + 1)).1 (n - (m + 1)) p = none := fun p hp => by
        cases hr : (wgJ S n c (m + 1)).1 (n - (m + 1)) p with
        | none => rfl
        | some v => exact absurd (hadF_i.mpr ⟨p, hp, by rw [hr]; exact fun q => by cases q⟩) hh
      rw [e2]
      constructor
      · intro h f h1 h2 p hp
        by_cases e : f = n - (m + 1)
        · rw [e]
          exact no p hp
        · rw [wgJ_st e]
          exact i1 h f (by omega) h2 p hp
      · intro g h
        obtain ⟨j1, j2, ⟨p, hp, j3⟩, j4⟩ := i2 g h
        refine ⟨by omega, j2, ⟨p, hp, by rw [wgJ_st (by omega)]; exact j3⟩, fun f h1 h2 p hp => ?_⟩
        by_cases e : f = n - (m + 1)
        · rw [e]
          exact no p hp
        · rw [wgJ_st e]
          exact j4 f (by omega) h2 p hp
theorem chp_none {O : Nat → Option Nat} {ah : Option Nat} {c : Nat} : ∀ {n : Nat}, (∀ p, p < n → O p = none) → chp O ah c n = none := by
  intro n
  induction n with
  | zero => intro _; rfl
  | succ n ih =>
    intro h
    show (match O n with | none => chp O ah c n | some v => _) = none
    rw [h n (by omega)]
    exact ih (fun p hp => h p (by omega))
theorem chp_had {O : Nat → Option Nat} {ah : Option Nat} {c : Nat} : ∀ {n : Nat}, (∃ p, p < n ∧ O p ≠ none) → chp O ah c n ≠ none := by
  intro n
  induction n with
  | zero => rintro ⟨p, h, _⟩; exact absurd h (Nat.not_lt_zero _)
  | succ n ih =>
    rintro ⟨p, h1, h2⟩
    show (match O n with | none => chp O ah c n | some v => match chp O ah c n with | none => some n | some g => if v + adO ah n c < (O g).getD 0 + adO ah g c then some n else some g) ≠ none
    rcases hn : O n with _ | v
    · refine ih ⟨p, ?_, h2⟩
      by_cases e : p = n
      · rw [e] at h2
        exact absurd hn h2
      · omega
    · rcases hg : chp O ah c n with _ | g
      · exact fun q => by cases q
      · show (if v + adO ah n c < (O g).getD 0 + adO ah g c then some n else some g) ≠ none
        split
        · exact fun q => by cases q
        · exact fun q => by cases q
/-- what the first frame costs with all behind it -/
def totJ (O : Nat → Nat → Option Nat) (c np : Nat) (bh : Option Nat) : Nat := match bh with
  | none => 0
  | some g => csO (O g) none c (chp (O g) none c np)
theorem toJ_tot {S : SH} {n c : Nat} : toJ (wgJ S n c n).1 c S.n n = totJ (wgJ S n c n).1 c S.n (wgJ S n c n).2 := by
  obtain ⟨b1, b2⟩ := wgJ_bh (S := S) (c := c) n (Nat.le_refl n)
  generalize (wgJ S n c n).1 = O at *
  generalize (wgJ S n c n).2 = bh at *
  have pre : ∀ f, f ≤ n → (∀ j, j < f → ∀ p, p < S.n → O j p = none) → ahJ O c S.n f = none ∧ toJ O c S.n f = 0 := by
    intro f
    induction f with
    | zero => intro _ _; exact ⟨rfl, rfl⟩
    | succ f ih =>
      intro hf hn
      obtain ⟨i1, i2⟩ := ih (by omega) (fun j hj => hn j (by omega))
      have cn : chp (O f) (ahJ O c S.n f) c S.n = none := chp_none (hn f (by omega))
      constructor
      · show (match chp (O f) (ahJ O c S.n f) c S.n with | none => ahJ O c S.n f | some p => some p) = none
        rw [cn]
        exact i1
      · show (match coJ O c S.n f with | none => toJ O c S.n f | some p => _) = 0
        rw [show coJ O c S.n f = none from cn]
        exact i2
  cases bh with
  | none =>
    exact (pre n (Nat.le_refl _) (fun j hj p hp => b1 rfl j (by omega) hj p hp)).2
  | some g =>
    obtain ⟨g1, g2, g3, g4⟩ := b2 g rfl
    obtain ⟨a1, a2⟩ := pre g (by omega) (fun j hj p hp => g4 j (by omega) hj p hp)
    have hc := chp_had (ah := none) (c := c) g3
    show _ = csO (O g) none c (chp (O g) none c S.n)
    rcases hx : chp (O g) none c S.n with _ | y
    · exact absurd hx hc
    · have co : coJ O c S.n g = some y := by
        show chp (O g) (ahJ O c S.n g) c S.n = _
        rw [a1]
        exact hx
      have s1 : toJ O c S.n (g + 1) = (O g y).getD 0 := by
        show (match coJ O c S.n g with | none => toJ O c S.n g | some p => if ahJ O c S.n g = none then (O g p).getD 0 else toJ O c S.n g) = _
        rw [co]
        show (if ahJ O c S.n g = none then (O g y).getD 0 else toJ O c S.n g) = _
        rw [if_pos a1]
      have s2 : ahJ O c S.n (g + 1) = some y := by
        show (match chp (O g) (ahJ O c S.n g) c S.n with | none => ahJ O c S.n g | some p => some p) = _
        rw [show chp (O g) (ahJ O c S.n g) c S.n = some y from co]
      have post : ∀ k, g + 1 + k ≤ n → ahJ O c S.n (g + 1 + k) ≠ none ∧ toJ O c S.n (g + 1 + k) = (O g y).getD 0 := by
        intro k
        induction k with
        | zero => intro _; exact ⟨(by rw [Nat.add_zero, s2]; exact (fun q => by cases q)), s1⟩
        | succ k ih =>
          intro hk
          obtain ⟨i1, i2⟩ := ih (by omega)
          constructor
          · show (match chp (O (g + 1 + k)) (ahJ O c S.n (g + 1 + k)) c S.n with | none => ahJ O c S.n (g + 1 + k) | some p => some p) ≠ none
            cases chp (O (g + 1 + k)) (ahJ O c S.n (g + 1 + k)) c S.n with
            | none => exact i1
            | some p => exact fun q => by cases q
          · show (match coJ O c S.n (g + 1 + k) with | none => toJ O c S.n (g + 1 + k) | some p => if ahJ O c S.n (g + 1 + k) = none then (O (g + 1 + k) p).getD 0 else toJ O c S.n (g + 1 + k)) = _
            cases coJ O c S.n (g + 1 + k) with
            | none => exact i2
            | some p =>
              show (if ahJ O c S.n (g + 1 + k) = none then (O (g + 1 + k) p).getD 0 else toJ O c S.n (g + 1 + k)) = _
              rw [if_neg i1]
              exact i2
      have := (post (n - (g + 1)) (by omega)).2
      rw [show g + 1 + (n - (g + 1)) = n by omega] at this
      rw [this]
      rfl
theorem MoCo.whl {h h' : XH} {Y : Nat} {c : Nat → Int32} {u : Int64} {R R' : Nat → Nat → Int32} {W : Nat → Int64} {x : FS} (m : MoCo h Y c u R W x) (r : MoRaw h' Y c u R' W) (k : ∀ j, j ≠ 14 → j ≠ 15 → R' j = R j) : MoCo h' Y c u R' W x := ⟨r, m.2.c (fun _ _ => rfl) (fun j hj => k j (by
  intro e; subst e; exact absurd hj (by decide)) (by
  intro e; subst e; exact absurd hj (by decide)))⟩
set_option maxRecDepth 20000 in
theorem l_Mo_lw2 (d Y n cost f : Nat) (x : FS) (O : Nat → Nat → Option Nat) (bh : Option Nat) {c : Nat → Int32} {u : Int64} {R : Nat → Nat → Int32} {W : Nat → Int64} (hO : OKx x) (hc : cost ≤ 99) (hn : n ≤ 48) (hf : f < n) (h0 : XH) (z : Nat) (Q : XQ) (hM : MoCo h0 Y c u R W x) (hOv : ∀ g p v, O g p = some v → v ≤ 9000) (hbh : ∀ g, bh = some g → f < g ∧ g < n) (hR14 : ∀ g, bh = some g → ∀ p, p < x.S.n → R 14 (6 * g + p) = nI ((O g p).getD 1000000)) (hQ : ∀ h' R', off Y 21 h0 h' → MoRaw h' Y c u R' W → (∀ j, j ≠ 14 → R' j = R j) → (∀ j, j < 6 * f ∨ 6 * f + 6 ≤ j → R' 14 j = R 14 j) → (∀ p, p < x.S.n → R' 14 (6 * f + p) = nI ((rowJ x.S cost f O bh p).getD 1000000)) → AR (d + 2) m_Mo_layWhole 0 7 [some (.ref Y), some (.int (nI n)), some (.int (nI cost)), some (.int (oI (if hadF (rowJ x.S cost f O bh) x.S.n then some f else bh))), some (.int (nI f - 1)), none, none, none] [] h' z Q) : ∀ (m p : Nat) (h : XH) (R' : Nat → Nat → Int32) (hd : Int32), p + m = x.S.n → off Y 21 h0 h → MoRaw h Y c u R' W → (∀ j, j ≠ 14 → R' j = R j) → (∀ j, j < 6 * f ∨ 6 * f + 6 ≤ j → R' 14 j = R 14 j) → (∀ p', p' < p → R' 14 (6 * f + p') = nI ((rowJ x.S cost f O bh p').getD 1000000)) → hd = bI (hadF (rowJ x.S cost f O bh) p = true) → AR (d + 2) m_Mo_layWhole 0 18 [some (.ref Y), some (.int (nI n)), some (.int (nI cost)), some (.int (oI bh)), some (.int (nI f)), some (.int hd), some (.int (nI p)), none] [] h z Q := by
  have h6 := hO.2.2.1.1
  have c12 : c 12 = nI x.S.n := hM.2.2.2.1.1
  intro m
  induction m with
  | zero =>
    intro p h R' hd hp ho hR hk hl hv eh
    have e0 := hR.1
    have e : p = x.S.n := by omega
    subst e
    have q := hQ h R' ho hR hk hl hv
    by_cases b : hadF (rowJ x.S cost f O bh) x.S.n = true
    · rw [bI_t b] at eh
      rw [if_pos b] at q
      subst eh
      refine run [7, 18] 30 ok_m_Mo_layWhole (fun V hV => ?_)
      simp only [hV, sPush, sIld, sLld, sAld, sIst, sLst, sAst, sInc, sBI, sBL, sDI, sDL, sSL, sUI, sIL, sLI, sCmp, sDup, sDup2, sGo, sIf, sCm, sNul, sGet, sPut, sIal, sCal, sLal, sAal, sIas, sCas, sLas, sAas, sLen, sNew, sNar, sMna, sIns, sSw, swK, sIret, sLret, sAret, sVret, sSta, sSpe, sVir, sObj, sMax, sMin, sAcp, popN, catS, stdC, callA, gL, stI, stL, clr, cat1, cH, if_true, if_false, reduceIte, List.mem_cons, List.not_mem_nil, or_false, false_or, or_self, List.lookup_cons, List.lookup_nil, Option.toList_some, Option.toList_none, List.cons_append, List.nil_append, List.reverse_cons, List.reverse_nil, true_and, and_true, true_or, or_true, hset_s, hset_hset, List.getElem?_cons_zero, List.getElem?_cons_succ, List.set_cons_zero, List.set_cons_succ, List.length_cons, List.length_nil, beq_self_eq_true, Nat.reduceBEq, va_rf,  not_true_eq_false, not_false_eq_true, false_implies, true_implies, forall_const, ne_eq, eq_self, Nat.reduceAdd, Nat.reduceSub, Nat.reduceLeDiff, Nat.reduceLT, zlt_s, Nat.reduceEqDiff, Nat.zero_le, Nat.sub_zero, Nat.le_refl, imp_self, bI_0, nr_b, nr_b0, nr_b1, nr_i, nr_l, nr_a, nr_o, ft_i, ft_b1, ft_l, ft_a, ft_o, Classical.not_not, kb_m104, kb_m103, kb_m102, kb_m101, kb_6, kb_7, kb_8, kb_9, kb_10, kb_12, kb_16, kb_19, kb_20, kb_31, kb_32, kb_40, kb_42, kb_44, kb_47, kb_48, kb_49, kb_57, kb_63, kb_96, kb_99, kb_100, kb_103, kb_111, kb_112, kb_114, kb_116, kb_119, kb_126, kb_127, kc_m1, kc_0, kc_1, kc_2, kc_3, kc_4, kc_5, kc_6, kc_7, kc_8, kc_9, kc_10, kc_11, kc_12, kc_13, kc_14, kc_15, kc_16, kc_17, kc_18, kc_19, kc_20, kc_21, kc_22, kc_23, kc_24, kc_25, kc_26, kc_27, kc_28, kc_29, kc_103, kc_114, kc_116, kc_119, kl_0, kl_1, ks_200, ks_255, ks_288, i_Mo_layWhole_0, i_Mo_layWhole_1, i_Mo_layWhole_2, i_Mo_layWhole_3, i_Mo_layWhole_4, i_Mo_layWhole_5, i_Mo_layWhole_7, i_Mo_layWhole_9, i_Mo_layWhole_12, i_Mo_layWhole_13, i_Mo_layWhole_15, i_Mo_layWhole_16, i_Mo_layWhole_18, i_Mo_layWhole_20, i_Mo_layWhole_21, i_Mo_layWhole_24, i_Mo_layWhole_27, i_Mo_layWhole_28, i_Mo_layWhole_30, i_Mo_layWhole_32, i_Mo_layWhole_35, i_Mo_layWhole_37, i_Mo_layWhole_38, i_Mo_layWhole_41, i_Mo_layWhole_43, i_Mo_layWhole_45, i_Mo_layWhole_46, i_Mo_layWhole_48, i_Mo_layWhole_49, i_Mo_layWhole_51, i_Mo_layWhole_53, i_Mo_layWhole_56, i_Mo_layWhole_58, i_Mo_layWhole_61, i_Mo_layWhole_63, i_Mo_layWhole_64, i_Mo_layWhole_65, i_Mo_layWhole_68, i_Mo_layWhole_69, i_Mo_layWhole_72, i_Mo_layWhole_73, i_Mo_layWhole_74, i_Mo_layWhole_76, i_Mo_layWhole_77, i_Mo_layWhole_80, i_Mo_layWhole_81, i_Mo_layWhole_82, i_Mo_layWhole_84, i_Mo_layWhole_87, i_Mo_layWhole_89, i_Mo_layWhole_91, i_Mo_layWhole_94, i_Mo_layWhole_95, i_Mo_layWhole_98, i_Mo_layWhole_99, i_Mo_layWhole_101, i_Mo_layWhole_104, i_Mo_layWhole_107, i_Mo_layWhole_109, i_Mo_layWhole_112, i_Mo_layWhole_114, i_Mo_layWhole_117, i_Mo_layWhole_118, i_Mo_layWhole_119, i_Mo_layWhole_122, i_Mo_layWhole_125, i_Mo_layWhole_126, i_Mo_layWhole_127, i_Mo_layWhole_130, i_Mo_layWhole_131, i_Mo_layWhole_134, i_Mo_layWhole_135, i_Mo_layWhole_136, i_Mo_layWhole_137, i_Mo_layWhole_138, i_Mo_layWhole_141, i_Mo_layWhole_143, i_Mo_layWhole_144, i_Mo_layWhole_146, i_Mo_layWhole_147, i_Mo_layWhole_149, i_Mo_layWhole_151, i_Mo_layWhole_152, i_Mo_layWhole_155, i_Mo_layWhole_156, i_Mo_layWhole_158, i_Mo_layWhole_160, i_Mo_layWhole_161, i_Mo_layWhole_164, i_Mo_layWhole_166, i_Mo_layWhole_167, i_Mo_layWhole_170, i_Mo_layWhole_172, i_Mo_layWhole_174, i_Mo_layWhole_175, i_Mo_layWhole_177, i_Mo_layWhole_178, i_Mo_layWhole_181, i_Mo_layWhole_183, i_Mo_layWhole_186, i_Mo_layWhole_188, i_Mo_layWhole_190, i_Mo_layWhole_193, i_Mo_layWhole_196, i_Mo_layWhole_198, ml_0, ml_1, ml_2, ml_3, ml_4, ml_5, ml_6, ml_7, ml_8, ml_9, ml_10, ml_11, ml_12, ml_13, ml_14, ml_15, ml_16, ml_17, ml_18, ml_19, ml_20, ml_21, ml_22, ml_23, ml_24, ml_25, ml_26, ml_27, ml_28, ml_29, ml_30, ml_31, ml_32, ml_33, ms_1, ms_2, ms_3, ms_4, ms_5, ms_6, ms_7, ms_9, ms_12, ms_18, ms_20, ms_26, ms_27, ms_33, ml_n, sc_r, hk_ij, hk_i0, hk_0j, Nat.reduceEqDiff, e0, c12, i10, nle_t (a := x.S.n) (b := x.S.n) (by omega) (by omega) (by omega), pre_m1]
      exact q.weak _ (by simp [leL]; rfl)
    · rw [bI_f b] at eh
      rw [if_neg b] at q
      subst eh
      refine run [7, 18] 30 ok_m_Mo_layWhole (fun V hV => ?_)
      simp only [hV, sPush, sIld, sLld, sAld, sIst, sLst, sAst, sInc, sBI, sBL, sDI, sDL, sSL, sUI, sIL, sLI, sCmp, sDup, sDup2, sGo, sIf, sCm, sNul, sGet, sPut, sIal, sCal, sLal, sAal, sIas, sCas, sLas, sAas, sLen, sNew, sNar, sMna, sIns, sSw, swK, sIret, sLret, sAret, sVret, sSta, sSpe, sVir, sObj, sMax, sMin, sAcp, popN, catS, stdC, callA, gL, stI, stL, clr, cat1, cH, if_true, if_false, reduceIte, List.mem_cons, List.not_mem_nil, or_false, false_or, or_self, List.lookup_cons, List.lookup_nil, Option.toList_some, Option.toList_none, List.cons_append, List.nil_append, List.reverse_cons, List.reverse_nil, true_and, and_true, true_or, or_true, hset_s, hset_hset, List.getElem?_cons_zero, List.getElem?_cons_succ, List.set_cons_zero, List.set_cons_succ, List.length_cons, List.length_nil, beq_self_eq_true, Nat.reduceBEq, va_rf,  not_true_eq_false, not_false_eq_true, false_implies, true_implies, forall_const, ne_eq, eq_self, Nat.reduceAdd, Nat.reduceSub, Nat.reduceLeDiff, Nat.reduceLT, zlt_s, Nat.reduceEqDiff, Nat.zero_le, Nat.sub_zero, Nat.le_refl, imp_self, bI_0, nr_b, nr_b0, nr_b1, nr_i, nr_l, nr_a, nr_o, ft_i, ft_b1, ft_l, ft_a, ft_o, Classical.not_not, kb_m104, kb_m103, kb_m102, kb_m101, kb_6, kb_7, kb_8, kb_9, kb_10, kb_12, kb_16, kb_19, kb_20, kb_31, kb_32, kb_40, kb_42, kb_44, kb_47, kb_48, kb_49, kb_57, kb_63, kb_96, kb_99, kb_100, kb_103, kb_111, kb_112, kb_114, kb_116, kb_119, kb_126, kb_127, kc_m1, kc_0, kc_1, kc_2, kc_3, kc_4, kc_5, kc_6, kc_7, kc_8, kc_9, kc_10, kc_11, kc_12, kc_13, kc_14, kc_15, kc_16, kc_17, kc_18, kc_19, kc_20, kc_21, kc_22, kc_23, kc_24, kc_25, kc_26, kc_27, kc_28, kc_29, kc_103, kc_114, kc_116, kc_119, kl_0, kl_1, ks_200, ks_255, ks_288, i_Mo_layWhole_0, i_Mo_layWhole_1, i_Mo_layWhole_2, i_Mo_layWhole_3, i_Mo_layWhole_4, i_Mo_layWhole_5, i_Mo_layWhole_7, i_Mo_layWhole_9, i_Mo_layWhole_12, i_Mo_layWhole_13, i_Mo_layWhole_15, i_Mo_layWhole_16, i_Mo_layWhole_18, i_Mo_layWhole_20, i_Mo_layWhole_21, i_Mo_layWhole_24, i_Mo_layWhole_27, i_Mo_layWhole_28, i_Mo_layWhole_30, i_Mo_layWhole_32, i_Mo_layWhole_35, i_Mo_layWhole_37, i_Mo_layWhole_38, i_Mo_layWhole_41, i_Mo_layWhole_43, i_Mo_layWhole_45, i_Mo_layWhole_46, i_Mo_layWhole_48, i_Mo_layWhole_49, i_Mo_layWhole_51, i_Mo_layWhole_53, i_Mo_layWhole_56, i_Mo_layWhole_58, i_Mo_layWhole_61, i_Mo_layWhole_63, i_Mo_layWhole_64, i_Mo_layWhole_65, i_Mo_layWhole_68, i_Mo_layWhole_69, i_Mo_layWhole_72, i_Mo_layWhole_73, i_Mo_layWhole_74, i_Mo_layWhole_76, i_Mo_layWhole_77, i_Mo_layWhole_80, i_Mo_layWhole_81, i_Mo_layWhole_82, i_Mo_layWhole_84, i_Mo_layWhole_87, i_Mo_layWhole_89, i_Mo_layWhole_91, i_Mo_layWhole_94, i_Mo_layWhole_95, i_Mo_layWhole_98, i_Mo_layWhole_99, i_Mo_layWhole_101, i_Mo_layWhole_104, i_Mo_layWhole_107, i_Mo_layWhole_109, i_Mo_layWhole_112, i_Mo_layWhole_114, i_Mo_layWhole_117, i_Mo_layWhole_118, i_Mo_layWhole_119, i_Mo_layWhole_122, i_Mo_layWhole_125, i_Mo_layWhole_126, i_Mo_layWhole_127, i_Mo_layWhole_130, i_Mo_layWhole_131, i_Mo_layWhole_134, i_Mo_layWhole_135, i_Mo_layWhole_136, i_Mo_layWhole_137, i_Mo_layWhole_138, i_Mo_layWhole_141, i_Mo_layWhole_143, i_Mo_layWhole_144, i_Mo_layWhole_146, i_Mo_layWhole_147, i_Mo_layWhole_149, i_Mo_layWhole_151, i_Mo_layWhole_152, i_Mo_layWhole_155, i_Mo_layWhole_156, i_Mo_layWhole_158, i_Mo_layWhole_160, i_Mo_layWhole_161, i_Mo_layWhole_164, i_Mo_layWhole_166, i_Mo_layWhole_167, i_Mo_layWhole_170, i_Mo_layWhole_172, i_Mo_layWhole_174, i_Mo_layWhole_175, i_Mo_layWhole_177, i_Mo_layWhole_178, i_Mo_layWhole_181, i_Mo_layWhole_183, i_Mo_layWhole_186, i_Mo_layWhole_188, i_Mo_layWhole_190, i_Mo_layWhole_193, i_Mo_layWhole_196, i_Mo_layWhole_198, ml_0, ml_1, ml_2, ml_3, ml_4, ml_5, ml_6, ml_7, ml_8, ml_9, ml_10, ml_11, ml_12, ml_13, ml_14, ml_15, ml_16, ml_17, ml_18, ml_19, ml_20, ml_21, ml_22, ml_23, ml_24, ml_25, ml_26, ml_27, ml_28, ml_29, ml_30, ml_31, ml_32, ml_33, ms_1, ms_2, ms_3, ms_4, ms_5, ms_6, ms_7, ms_9, ms_12, ms_18, ms_20, ms_26, ms_27, ms_33, ml_n, sc_r, hk_ij, hk_i0, hk_0j, Nat.reduceEqDiff, e0, c12, nle_t (a := x.S.n) (b := x.S.n) (by omega) (by omega) (by omega), pre_m1]
      exact q.weak _ (by simp [leL])
  | succ m ih =>
    intro p h R' hd hp ho hR hk hl hv eh
    have e0 := hR.1
    have ee := hR.r14
    have hM' : MoCo h Y c u R' W x := hM.whl hR (fun j h1 _ => hk j h1)
    have ix := ixN (i := 6 * f + p) (N := 288) (by omega) (by omega)
    have cx := clN (i := 6 * f + p) (by omega)
    have g1 := nle_f (a := x.S.n) (b := p) (by omega) (by omega) (by omega)
    have rk := rowJ_mk x.S cost f O bh p
    have hs : hadF (rowJ x.S cost f O bh) (p + 1) = (hadF (rowJ x.S cost f O bh) p || (rowJ x.S cost f O bh p).isSome) := rfl
    have nx := fun (w hd' : Int32) (hw : w = nI ((rowJ x.S cost f O bh p).getD 1000000)) (hh : hd' = bI (hadF (rowJ x.S cost f O bh) (p + 1) = true)) => ih (p + 1) (hset h (Y + 14) (.inl (0, 288, .inl (upd (R' 14) (6 * f + p) w)))) (upR R' 14 (upd (R' 14) (6 * f + p) w)) hd' (by omega) (ho.set (by omega) (by omega) _) (hR.R 14 288 (by omega) (by omega) (by omega) rfl _) (fun j hj => by rw [upR_n _ _ hj]; exact hk j hj) (fun j hj => by rw [upR_s, upd_n _ _ (by omega)]; exact hl j hj) (fun p' hp' => by
      rw [upR_s]
      by_cases e : p' = p
      · rw [e, upd_s, hw]
      · rw [upd_n _ _ (by omega)]
        exact hv p' (by omega)) hh
    refine run [7, 18] 40 ok_m_Mo_layWhole (fun V hV => ?_)
    simp only [hV, sPush, sIld, sLld, sAld, sIst, sLst, sAst, sInc, sBI, sBL, sDI, sDL, sSL, sUI, sIL, sLI, sCmp, sDup, sDup2, sGo, sIf, sCm, sNul, sGet, sPut, sIal, sCal, sLal, sAal, sIas, sCas, sLas, sAas, sLen, sNew, sNar, sMna, sIns, sSw, swK, sIret, sLret, sAret, sVret, sSta, sSpe, sVir, sObj, sMax, sMin, sAcp, popN, catS, stdC, callA, gL, stI, stL, clr, cat1, cH, if_true, if_false, reduceIte, List.mem_cons, List.not_mem_nil, or_false, false_or, or_self, List.lookup_cons, List.lookup_nil, Option.toList_some, Option.toList_none, List.cons_append, List.nil_append, List.reverse_cons, List.reverse_nil, true_and, and_true, true_or, or_true, hset_s, hset_hset, List.getElem?_cons_zero, List.getElem?_cons_succ, List.set_cons_zero, List.set_cons_succ, List.length_cons, List.length_nil, beq_self_eq_true, Nat.reduceBEq, va_rf,  not_true_eq_false, not_false_eq_true, false_implies, true_implies, forall_const, ne_eq, eq_self, Nat.reduceAdd, Nat.reduceSub, Nat.reduceLeDiff, Nat.reduceLT, zlt_s, Nat.reduceEqDiff, Nat.zero_le, Nat.sub_zero, Nat.le_refl, imp_self, bI_0, nr_b, nr_b0, nr_b1, nr_i, nr_l, nr_a, nr_o, ft_i, ft_b1, ft_l, ft_a, ft_o, Classical.not_not, kb_m104, kb_m103, kb_m102, kb_m101, kb_6, kb_7, kb_8, kb_9, kb_10, kb_12, kb_16, kb_19, kb_20, kb_31, kb_32, kb_40, kb_42, kb_44, kb_47, kb_48, kb_49, kb_57, kb_63, kb_96, kb_99, kb_100, kb_103, kb_111, kb_112, kb_114, kb_116, kb_119, kb_126, kb_127, kc_m1, kc_0, kc_1, kc_2, kc_3, kc_4, kc_5, kc_6, kc_7, kc_8, kc_9, kc_10, kc_11, kc_12, kc_13, kc_14, kc_15, kc_16, kc_17, kc_18, kc_19, kc_20, kc_21, kc_22, kc_23, kc_24, kc_25, kc_26, kc_27, kc_28, kc_29, kc_103, kc_114, kc_116, kc_119, kl_0, kl_1, ks_200, ks_255, ks_288, i_Mo_layWhole_0, i_Mo_layWhole_1, i_Mo_layWhole_2, i_Mo_layWhole_3, i_Mo_layWhole_4, i_Mo_layWhole_5, i_Mo_layWhole_7, i_Mo_layWhole_9, i_Mo_layWhole_12, i_Mo_layWhole_13, i_Mo_layWhole_15, i_Mo_layWhole_16, i_Mo_layWhole_18, i_Mo_layWhole_20, i_Mo_layWhole_21, i_Mo_layWhole_24, i_Mo_layWhole_27, i_Mo_layWhole_28, i_Mo_layWhole_30, i_Mo_layWhole_32, i_Mo_layWhole_35, i_Mo_layWhole_37, i_Mo_layWhole_38, i_Mo_layWhole_41, i_Mo_layWhole_43, i_Mo_layWhole_45, i_Mo_layWhole_46, i_Mo_layWhole_48, i_Mo_layWhole_49, i_Mo_layWhole_51, i_Mo_layWhole_53, i_Mo_layWhole_56, i_Mo_layWhole_58, i_Mo_layWhole_61, i_Mo_layWhole_63, i_Mo_layWhole_64, i_Mo_layWhole_65, i_Mo_layWhole_68, i_Mo_layWhole_69, i_Mo_layWhole_72, i_Mo_layWhole_73, i_Mo_layWhole_74, i_Mo_layWhole_76, i_Mo_layWhole_77, i_Mo_layWhole_80, i_Mo_layWhole_81, i_Mo_layWhole_82, i_Mo_layWhole_84, i_Mo_layWhole_87, i_Mo_layWhole_89, i_Mo_layWhole_91, i_Mo_layWhole_94, i_Mo_layWhole_95, i_Mo_layWhole_98, i_Mo_layWhole_99, i_Mo_layWhole_101, i_Mo_layWhole_104, i_Mo_layWhole_107, i_Mo_layWhole_109, i_Mo_layWhole_112, i_Mo_layWhole_114, i_Mo_layWhole_117, i_Mo_layWhole_118, i_Mo_layWhole_119, i_Mo_layWhole_122, i_Mo_layWhole_125, i_Mo_layWhole_126, i_Mo_layWhole_127, i_Mo_layWhole_130, i_Mo_layWhole_131, i_Mo_layWhole_134, i_Mo_layWhole_135, i_Mo_layWhole_136, i_Mo_layWhole_137, i_Mo_layWhole_138, i_Mo_layWhole_141, i_Mo_layWhole_143, i_Mo_layWhole_144, i_Mo_layWhole_146, i_Mo_layWhole_147, i_Mo_layWhole_149, i_Mo_layWhole_151, i_Mo_layWhole_152, i_Mo_layWhole_155, i_Mo_layWhole_156, i_Mo_layWhole_158, i_Mo_layWhole_160, i_Mo_layWhole_161, i_Mo_layWhole_164, i_Mo_layWhole_166, i_Mo_layWhole_167, i_Mo_layWhole_170, i_Mo_layWhole_172, i_Mo_layWhole_174, i_Mo_layWhole_175, i_Mo_layWhole_177, i_Mo_layWhole_178, i_Mo_layWhole_181, i_Mo_layWhole_183, i_Mo_layWhole_186, i_Mo_layWhole_188, i_Mo_layWhole_190, i_Mo_layWhole_193, i_Mo_layWhole_196, i_Mo_layWhole_198, ml_0, ml_1, ml_2, ml_3, ml_4, ml_5, ml_6, ml_7, ml_8, ml_9, ml_10, ml_11, ml_12, ml_13, ml_14, ml_15, ml_16, ml_17, ml_18, ml_19, ml_20, ml_21, ml_22, ml_23, ml_24, ml_25, ml_26, ml_27, ml_28, ml_29, ml_30, ml_31, ml_32, ml_33, ms_1, ms_2, ms_3, ms_4, ms_5, ms_6, ms_7, ms_9, ms_12, ms_18, ms_20, ms_26, ms_27, ms_33, ml_n, sc_r, hk_ij, hk_i0, hk_0j, Nat.reduceEqDiff, e0, c12, g1]
    refine s_Mo_marksOf _ Y p f x _ _ _ hO hM' (by omega) (by omega) ?_
    rcases hm : mkO x.S p f with _ | v
    · have rn : rowJ x.S cost f O bh p = none := by rw [rk, hm]; rfl
      have hs' : hadF (rowJ x.S cost f O bh) (p + 1) = hadF (rowJ x.S cost f O bh) p := by rw [hs, rn]; exact Bool.or_false _
      have n0 := nx 1000000 hd (by rw [rn]; rfl) (by rw [hs']; exact eh)
      have gv : nI ((none : Option Nat).getD 1000000) = 1000000 := rfl
      by_cases b : hadF (rowJ x.S cost f O bh) p = true
      · rw [bI_t b] at eh
        subst eh
        refine run [7, 18] 60 ok_m_Mo_layWhole (fun V hV => ?_)
        simp only [hV, sPush, sIld, sLld, sAld, sIst, sLst, sAst, sInc, sBI, sBL, sDI, sDL, sSL, sUI, sIL, sLI, sCmp, sDup, sDup2, sGo, sIf, sCm, sNul, sGet, sPut, sIal, sCal, sLal, sAal, sIas, sCas, sLas, sAas, sLen, sNew, sNar, sMna, sIns, sSw, swK, sIret, sLret, sAret, sVret, sSta, sSpe, sVir, sObj, sMax, sMin, sAcp, popN, catS, stdC, callA, gL, stI, stL, clr, cat1, cH, if_true, if_false, reduceIte, List.mem_cons, List.not_mem_nil, or_false, false_or, or_self, List.lookup_cons, List.lookup_nil, Option.toList_some, Option.toList_none, List.cons_append, List.nil_append, List.reverse_cons, List.reverse_nil, true_and, and_true, true_or, or_true, hset_s, hset_hset, List.getElem?_cons_zero, List.getElem?_cons_succ, List.set_cons_zero, List.set_cons_succ, List.length_cons, List.length_nil, beq_self_eq_true, Nat.reduceBEq, va_rf,  not_true_eq_false, not_false_eq_true, false_implies, true_implies, forall_const, ne_eq, eq_self, Nat.reduceAdd, Nat.reduceSub, Nat.reduceLeDiff, Nat.reduceLT, zlt_s, Nat.reduceEqDiff, Nat.zero_le, Nat.sub_zero, Nat.le_refl, imp_self, bI_0, nr_b, nr_b0, nr_b1, nr_i, nr_l, nr_a, nr_o, ft_i, ft_b1, ft_l, ft_a, ft_o, Classical.not_not, kb_m104, kb_m103, kb_m102, kb_m101, kb_6, kb_7, kb_8, kb_9, kb_10, kb_12, kb_16, kb_19, kb_20, kb_31, kb_32, kb_40, kb_42, kb_44, kb_47, kb_48, kb_49, kb_57, kb_63, kb_96, kb_99, kb_100, kb_103, kb_111, kb_112, kb_114, kb_116, kb_119, kb_126, kb_127, kc_m1, kc_0, kc_1, kc_2, kc_3, kc_4, kc_5, kc_6, kc_7, kc_8, kc_9, kc_10, kc_11, kc_12, kc_13, kc_14, kc_15, kc_16, kc_17, kc_18, kc_19, kc_20, kc_21, kc_22, kc_23, kc_24, kc_25, kc_26, kc_27, kc_28, kc_29, kc_103, kc_114, kc_116, kc_119, kl_0, kl_1, ks_200, ks_255, ks_288, i_Mo_layWhole_0, i_Mo_layWhole_1, i_Mo_layWhole_2, i_Mo_layWhole_3, i_Mo_layWhole_4, i_Mo_layWhole_5, i_Mo_layWhole_7, i_Mo_layWhole_9, i_Mo_layWhole_12, i_Mo_layWhole_13, i_Mo_layWhole_15, i_Mo_layWhole_16, i_Mo_layWhole_18, i_Mo_layWhole_20, i_Mo_layWhole_21, i_Mo_layWhole_24, i_Mo_layWhole_27, i_Mo_layWhole_28, i_Mo_layWhole_30, i_Mo_layWhole_32, i_Mo_layWhole_35, i_Mo_layWhole_37, i_Mo_layWhole_38, i_Mo_layWhole_41, i_Mo_layWhole_43, i_Mo_layWhole_45, i_Mo_layWhole_46, i_Mo_layWhole_48, i_Mo_layWhole_49, i_Mo_layWhole_51, i_Mo_layWhole_53, i_Mo_layWhole_56, i_Mo_layWhole_58, i_Mo_layWhole_61, i_Mo_layWhole_63, i_Mo_layWhole_64, i_Mo_layWhole_65, i_Mo_layWhole_68, i_Mo_layWhole_69, i_Mo_layWhole_72, i_Mo_layWhole_73, i_Mo_layWhole_74, i_Mo_layWhole_76, i_Mo_layWhole_77, i_Mo_layWhole_80, i_Mo_layWhole_81, i_Mo_layWhole_82, i_Mo_layWhole_84, i_Mo_layWhole_87, i_Mo_layWhole_89, i_Mo_layWhole_91, i_Mo_layWhole_94, i_Mo_layWhole_95, i_Mo_layWhole_98, i_Mo_layWhole_99, i_Mo_layWhole_101, i_Mo_layWhole_104, i_Mo_layWhole_107, i_Mo_layWhole_109, i_Mo_layWhole_112, i_Mo_layWhole_114, i_Mo_layWhole_117, i_Mo_layWhole_118, i_Mo_layWhole_119, i_Mo_layWhole_122, i_Mo_layWhole_125, i_Mo_layWhole_126, i_Mo_layWhole_127, i_Mo_layWhole_130, i_Mo_layWhole_131, i_Mo_layWhole_134, i_Mo_layWhole_135, i_Mo_layWhole_136, i_Mo_layWhole_137, i_Mo_layWhole_138, i_Mo_layWhole_141, i_Mo_layWhole_143, i_Mo_layWhole_144, i_Mo_layWhole_146, i_Mo_layWhole_147, i_Mo_layWhole_149, i_Mo_layWhole_151, i_Mo_layWhole_152, i_Mo_layWhole_155, i_Mo_layWhole_156, i_Mo_layWhole_158, i_Mo_layWhole_160, i_Mo_layWhole_161, i_Mo_layWhole_164, i_Mo_layWhole_166, i_Mo_layWhole_167, i_Mo_layWhole_170, i_Mo_layWhole_172, i_Mo_layWhole_174, i_Mo_layWhole_175, i_Mo_layWhole_177, i_Mo_layWhole_178, i_Mo_layWhole_181, i_Mo_layWhole_183, i_Mo_layWhole_186, i_Mo_layWhole_188, i_Mo_layWhole_190, i_Mo_layWhole_193, i_Mo_layWhole_196, i_Mo_layWhole_198, ml_0, ml_1, ml_2, ml_3, ml_4, ml_5, ml_6, ml_7, ml_8, ml_9, ml_10, ml_11, ml_12, ml_13, ml_14, ml_15, ml_16, ml_17, ml_18, ml_19, ml_20, ml_21, ml_22, ml_23, ml_24, ml_25, ml_26, ml_27, ml_28, ml_29, ml_30, ml_31, ml_32, ml_33, ms_1, ms_2, ms_3, ms_4, ms_5, ms_6, ms_7, ms_9, ms_12, ms_18, ms_20, ms_26, ms_27, ms_33, ml_n, sc_r, hk_ij, hk_i0, hk_0j, Nat.reduceEqDiff, gv, e0, ee, j6, ix, cx, i10, nI_1]
        exact n0.weak _ (by simp [leL])
      · rw [bI_f b] at eh
        subst eh
        refine run [7, 18] 60 ok_m_Mo_layWhole (fun V hV => ?_)
        simp only [hV, sPush, sIld, sLld, sAld, sIst, sLst, sAst, sInc, sBI, sBL, sDI, sDL, sSL, sUI, sIL, sLI, sCmp, sDup, sDup2, sGo, sIf, sCm, sNul, sGet, sPut, sIal, sCal, sLal, sAal, sIas, sCas, sLas, sAas, sLen, sNew, sNar, sMna, sIns, sSw, swK, sIret, sLret, sAret, sVret, sSta, sSpe, sVir, sObj, sMax, sMin, sAcp, popN, catS, stdC, callA, gL, stI, stL, clr, cat1, cH, if_true, if_false, reduceIte, List.mem_cons, List.not_mem_nil, or_false, false_or, or_self, List.lookup_cons, List.lookup_nil, Option.toList_some, Option.toList_none, List.cons_append, List.nil_append, List.reverse_cons, List.reverse_nil, true_and, and_true, true_or, or_true, hset_s, hset_hset, List.getElem?_cons_zero, List.getElem?_cons_succ, List.set_cons_zero, List.set_cons_succ, List.length_cons, List.length_nil, beq_self_eq_true, Nat.reduceBEq, va_rf,  not_true_eq_false, not_false_eq_true, false_implies, true_implies, forall_const, ne_eq, eq_self, Nat.reduceAdd, Nat.reduceSub, Nat.reduceLeDiff, Nat.reduceLT, zlt_s, Nat.reduceEqDiff, Nat.zero_le, Nat.sub_zero, Nat.le_refl, imp_self, bI_0, nr_b, nr_b0, nr_b1, nr_i, nr_l, nr_a, nr_o, ft_i, ft_b1, ft_l, ft_a, ft_o, Classical.not_not, kb_m104, kb_m103, kb_m102, kb_m101, kb_6, kb_7, kb_8, kb_9, kb_10, kb_12, kb_16, kb_19, kb_20, kb_31, kb_32, kb_40, kb_42, kb_44, kb_47, kb_48, kb_49, kb_57, kb_63, kb_96, kb_99, kb_100, kb_103, kb_111, kb_112, kb_114, kb_116, kb_119, kb_126, kb_127, kc_m1, kc_0, kc_1, kc_2, kc_3, kc_4, kc_5, kc_6, kc_7, kc_8, kc_9, kc_10, kc_11, kc_12, kc_13, kc_14, kc_15, kc_16, kc_17, kc_18, kc_19, kc_20, kc_21, kc_22, kc_23, kc_24, kc_25, kc_26, kc_27, kc_28, kc_29, kc_103, kc_114, kc_116, kc_119, kl_0, kl_1, ks_200, ks_255, ks_288, i_Mo_layWhole_0, i_Mo_layWhole_1, i_Mo_layWhole_2, i_Mo_layWhole_3, i_Mo_layWhole_4, i_Mo_layWhole_5, i_Mo_layWhole_7, i_Mo_layWhole_9, i_Mo_layWhole_12, i_Mo_layWhole_13, i_Mo_layWhole_15, i_Mo_layWhole_16, i_Mo_layWhole_18, i_Mo_layWhole_20, i_Mo_layWhole_21, i_Mo_layWhole_24, i_Mo_layWhole_27, i_Mo_layWhole_28, i_Mo_layWhole_30, i_Mo_layWhole_32, i_Mo_layWhole_35, i_Mo_layWhole_37, i_Mo_layWhole_38, i_Mo_layWhole_41, i_Mo_layWhole_43, i_Mo_layWhole_45, i_Mo_layWhole_46, i_Mo_layWhole_48, i_Mo_layWhole_49, i_Mo_layWhole_51, i_Mo_layWhole_53, i_Mo_layWhole_56, i_Mo_layWhole_58, i_Mo_layWhole_61, i_Mo_layWhole_63, i_Mo_layWhole_64, i_Mo_layWhole_65, i_Mo_layWhole_68, i_Mo_layWhole_69, i_Mo_layWhole_72, i_Mo_layWhole_73, i_Mo_layWhole_74, i_Mo_layWhole_76, i_Mo_layWhole_77, i_Mo_layWhole_80, i_Mo_layWhole_81, i_Mo_layWhole_82, i_Mo_layWhole_84, i_Mo_layWhole_87, i_Mo_layWhole_89, i_Mo_layWhole_91, i_Mo_layWhole_94, i_Mo_layWhole_95, i_Mo_layWhole_98, i_Mo_layWhole_99, i_Mo_layWhole_101, i_Mo_layWhole_104, i_Mo_layWhole_107, i_Mo_layWhole_109, i_Mo_layWhole_112, i_Mo_layWhole_114, i_Mo_layWhole_117, i_Mo_layWhole_118, i_Mo_layWhole_119, i_Mo_layWhole_122, i_Mo_layWhole_125, i_Mo_layWhole_126, i_Mo_layWhole_127, i_Mo_layWhole_130, i_Mo_layWhole_131, i_Mo_layWhole_134, i_Mo_layWhole_135, i_Mo_layWhole_136, i_Mo_layWhole_137, i_Mo_layWhole_138, i_Mo_layWhole_141, i_Mo_layWhole_143, i_Mo_layWhole_144, i_Mo_layWhole_146, i_Mo_layWhole_147, i_Mo_layWhole_149, i_Mo_layWhole_151, i_Mo_layWhole_152, i_Mo_layWhole_155, i_Mo_layWhole_156, i_Mo_layWhole_158, i_Mo_layWhole_160, i_Mo_layWhole_161, i_Mo_layWhole_164, i_Mo_layWhole_166, i_Mo_layWhole_167, i_Mo_layWhole_170, i_Mo_layWhole_172, i_Mo_layWhole_174, i_Mo_layWhole_175, i_Mo_layWhole_177, i_Mo_layWhole_178, i_Mo_layWhole_181, i_Mo_layWhole_183, i_Mo_layWhole_186, i_Mo_layWhole_188, i_Mo_layWhole_190, i_Mo_layWhole_193, i_Mo_layWhole_196, i_Mo_layWhole_198, ml_0, ml_1, ml_2, ml_3, ml_4, ml_5, ml_6, ml_7, ml_8, ml_9, ml_10, ml_11, ml_12, ml_13, ml_14, ml_15, ml_16, ml_17, ml_18, ml_19, ml_20, ml_21, ml_22, ml_23, ml_24, ml_25, ml_26, ml_27, ml_28, ml_29, ml_30, ml_31, ml_32, ml_33, ms_1, ms_2, ms_3, ms_4, ms_5, ms_6, ms_7, ms_9, ms_12, ms_18, ms_20, ms_26, ms_27, ms_33, ml_n, sc_r, hk_ij, hk_i0, hk_0j, Nat.reduceEqDiff, gv, e0, ee, j6, ix, cx, show ((1000000 : Int32) ≤ 1000000) = True from by decide, nI_1]
        exact n0.weak _ (by simp [leL])
    · have vb := mkO_le hm
      have rs : rowJ x.S cost f O bh p = some (v + rsJ x.S cost O bh p) := by rw [rk, hm]; rfl
      have hs' : hadF (rowJ x.S cost f O bh) (p + 1) = true := by rw [hs, rs]; exact Bool.or_true _
      have n0 := nx (nI (v + rsJ x.S cost O bh p)) 1 (by rw [rs]; rfl) (by rw [hs', bI_t rfl])
      have gv : nI ((some v).getD 1000000) = nI v := rfl
      have gn : (nI v = 1000000) = False := by
        have : (nI v = 1000000) = (v = 1000000) := nI_lit (k := 1000000) (by omega) (by omega)
        rw [this]
        exact eq_false (by omega)
      have gF : ((1000000 : Int32) ≤ nI v) = False := nle_f (a := 1000000) (b := v) (by omega) (by omega) (by omega)
      have hd01 : hd = 0 ∨ hd = 1 := by
        rw [eh]
        by_cases b : hadF (rowJ x.S cost f O bh) p = true
        · exact .inr (bI_t b)
        · exact .inl (bI_f b)
      rcases hb : bh with _ | g
      · have r0 : rsJ x.S cost O none p = 0 := rfl
        rw [hb, r0, Nat.add_zero] at n0
        have z0 : (nI v + 0 : Int32) = nI v := nI_add v 0
        rcases hd01 with e | e
        · subst e
          refine run [7, 18] 60 ok_m_Mo_layWhole (fun V hV => ?_)
          simp only [hV, sPush, sIld, sLld, sAld, sIst, sLst, sAst, sInc, sBI, sBL, sDI, sDL, sSL, sUI, sIL, sLI, sCmp, sDup, sDup2, sGo, sIf, sCm, sNul, sGet, sPut, sIal, sCal, sLal, sAal, sIas, sCas, sLas, sAas, sLen, sNew, sNar, sMna, sIns, sSw, swK, sIret, sLret, sAret, sVret, sSta, sSpe, sVir, sObj, sMax, sMin, sAcp, popN, catS, stdC, callA, gL, stI, stL, clr, cat1, cH, if_true, if_false, reduceIte, List.mem_cons, List.not_mem_nil, or_false, false_or, or_self, List.lookup_cons, List.lookup_nil, Option.toList_some, Option.toList_none, List.cons_append, List.nil_append, List.reverse_cons, List.reverse_nil, true_and, and_true, true_or, or_true, hset_s, hset_hset, List.getElem?_cons_zero, List.getElem?_cons_succ, List.set_cons_zero, List.set_cons_succ, List.length_cons, List.length_nil, beq_self_eq_true, Nat.reduceBEq, va_rf,  not_true_eq_false, not_false_eq_true, false_implies, true_implies, forall_const, ne_eq, eq_self, Nat.reduceAdd, Nat.reduceSub, Nat.reduceLeDiff, Nat.reduceLT, zlt_s, Nat.reduceEqDiff, Nat.zero_le, Nat.sub_zero, Nat.le_refl, imp_self, bI_0, nr_b, nr_b0, nr_b1, nr_i, nr_l, nr_a, nr_o, ft_i, ft_b1, ft_l, ft_a, ft_o, Classical.not_not, kb_m104, kb_m103, kb_m102, kb_m101, kb_6, kb_7, kb_8, kb_9, kb_10, kb_12, kb_16, kb_19, kb_20, kb_31, kb_32, kb_40, kb_42, kb_44, kb_47, kb_48, kb_49, kb_57, kb_63, kb_96, kb_99, kb_100, kb_103, kb_111, kb_112, kb_114, kb_116, kb_119, kb_126, kb_127, kc_m1, kc_0, kc_1, kc_2, kc_3, kc_4, kc_5, kc_6, kc_7, kc_8, kc_9, kc_10, kc_11, kc_12, kc_13, kc_14, kc_15, kc_16, kc_17, kc_18, kc_19, kc_20, kc_21, kc_22, kc_23, kc_24, kc_25, kc_26, kc_27, kc_28, kc_29, kc_103, kc_114, kc_116, kc_119, kl_0, kl_1, ks_200, ks_255, ks_288, i_Mo_layWhole_0, i_Mo_layWhole_1, i_Mo_layWhole_2, i_Mo_layWhole_3, i_Mo_layWhole_4, i_Mo_layWhole_5, i_Mo_layWhole_7, i_Mo_layWhole_9, i_Mo_layWhole_12, i_Mo_layWhole_13, i_Mo_layWhole_15, i_Mo_layWhole_16, i_Mo_layWhole_18, i_Mo_layWhole_20, i_Mo_layWhole_21, i_Mo_layWhole_24, i_Mo_layWhole_27, i_Mo_layWhole_28, i_Mo_layWhole_30, i_Mo_layWhole_32, i_Mo_layWhole_35, i_Mo_layWhole_37, i_Mo_layWhole_38, i_Mo_layWhole_41, i_Mo_layWhole_43, i_Mo_layWhole_45, i_Mo_layWhole_46, i_Mo_layWhole_48, i_Mo_layWhole_49, i_Mo_layWhole_51, i_Mo_layWhole_53, i_Mo_layWhole_56, i_Mo_layWhole_58, i_Mo_layWhole_61, i_Mo_layWhole_63, i_Mo_layWhole_64, i_Mo_layWhole_65, i_Mo_layWhole_68, i_Mo_layWhole_69, i_Mo_layWhole_72, i_Mo_layWhole_73, i_Mo_layWhole_74, i_Mo_layWhole_76, i_Mo_layWhole_77, i_Mo_layWhole_80, i_Mo_layWhole_81, i_Mo_layWhole_82, i_Mo_layWhole_84, i_Mo_layWhole_87, i_Mo_layWhole_89, i_Mo_layWhole_91, i_Mo_layWhole_94, i_Mo_layWhole_95, i_Mo_layWhole_98, i_Mo_layWhole_99, i_Mo_layWhole_101, i_Mo_layWhole_104, i_Mo_layWhole_107, i_Mo_layWhole_109, i_Mo_layWhole_112, i_Mo_layWhole_114, i_Mo_layWhole_117, i_Mo_layWhole_118, i_Mo_layWhole_119, i_Mo_layWhole_122, i_Mo_layWhole_125, i_Mo_layWhole_126, i_Mo_layWhole_127, i_Mo_layWhole_130, i_Mo_layWhole_131, i_Mo_layWhole_134, i_Mo_layWhole_135, i_Mo_layWhole_136, i_Mo_layWhole_137, i_Mo_layWhole_138, i_Mo_layWhole_141, i_Mo_layWhole_143, i_Mo_layWhole_144, i_Mo_layWhole_146, i_Mo_layWhole_147, i_Mo_layWhole_149, i_Mo_layWhole_151, i_Mo_layWhole_152, i_Mo_layWhole_155, i_Mo_layWhole_156, i_Mo_layWhole_158, i_Mo_layWhole_160, i_Mo_layWhole_161, i_Mo_layWhole_164, i_Mo_layWhole_166, i_Mo_layWhole_167, i_Mo_layWhole_170, i_Mo_layWhole_172, i_Mo_layWhole_174, i_Mo_layWhole_175, i_Mo_layWhole_177, i_Mo_layWhole_178, i_Mo_layWhole_181, i_Mo_layWhole_183, i_Mo_layWhole_186, i_Mo_layWhole_188, i_Mo_layWhole_190, i_Mo_layWhole_193, i_Mo_layWhole_196, i_Mo_layWhole_198, ml_0, ml_1, ml_2, ml_3, ml_4, ml_5, ml_6, ml_7, ml_8, ml_9, ml_10, ml_11, ml_12, ml_13, ml_14, ml_15, ml_16, ml_17, ml_18, ml_19, ml_20, ml_21, ml_22, ml_23, ml_24, ml_25, ml_26, ml_27, ml_28, ml_29, ml_30, ml_31, ml_32, ml_33, ms_1, ms_2, ms_3, ms_4, ms_5, ms_6, ms_7, ms_9, ms_12, ms_18, ms_20, ms_26, ms_27, ms_33, ml_n, sc_r, hk_ij, hk_i0, hk_0j, Nat.reduceEqDiff, gv, gn, gF, e0, ee, j6, ix, cx, oI_n, z0, nI_1]
          exact n0.weak _ (by simp [leL]; rfl)
        · subst e
          refine run [7, 18] 60 ok_m_Mo_layWhole (fun V hV => ?_)
          simp only [hV, sPush, sIld, sLld, sAld, sIst, sLst, sAst, sInc, sBI, sBL, sDI, sDL, sSL, sUI, sIL, sLI, sCmp, sDup, sDup2, sGo, sIf, sCm, sNul, sGet, sPut, sIal, sCal, sLal, sAal, sIas, sCas, sLas, sAas, sLen, sNew, sNar, sMna, sIns, sSw, swK, sIret, sLret, sAret, sVret, sSta, sSpe, sVir, sObj, sMax, sMin, sAcp, popN, catS, stdC, callA, gL, stI, stL, clr, cat1, cH, if_true, if_false, reduceIte, List.mem_cons, List.not_mem_nil, or_false, false_or, or_self, List.lookup_cons, List.lookup_nil, Option.toList_some, Option.toList_none, List.cons_append, List.nil_append, List.reverse_cons, List.reverse_nil, true_and, and_true, true_or, or_true, hset_s, hset_hset, List.getElem?_cons_zero, List.getElem?_cons_succ, List.set_cons_zero, List.set_cons_succ, List.length_cons, List.length_nil, beq_self_eq_true, Nat.reduceBEq, va_rf,  not_true_eq_false, not_false_eq_true, false_implies, true_implies, forall_const, ne_eq, eq_self, Nat.reduceAdd, Nat.reduceSub, Nat.reduceLeDiff, Nat.reduceLT, zlt_s, Nat.reduceEqDiff, Nat.zero_le, Nat.sub_zero, Nat.le_refl, imp_self, bI_0, nr_b, nr_b0, nr_b1, nr_i, nr_l, nr_a, nr_o, ft_i, ft_b1, ft_l, ft_a, ft_o, Classical.not_not, kb_m104, kb_m103, kb_m102, kb_m101, kb_6, kb_7, kb_8, kb_9, kb_10, kb_12, kb_16, kb_19, kb_20, kb_31, kb_32, kb_40, kb_42, kb_44, kb_47, kb_48, kb_49, kb_57, kb_63, kb_96, kb_99, kb_100, kb_103, kb_111, kb_112, kb_114, kb_116, kb_119, kb_126, kb_127, kc_m1, kc_0, kc_1, kc_2, kc_3, kc_4, kc_5, kc_6, kc_7, kc_8, kc_9, kc_10, kc_11, kc_12, kc_13, kc_14, kc_15, kc_16, kc_17, kc_18, kc_19, kc_20, kc_21, kc_22, kc_23, kc_24, kc_25, kc_26, kc_27, kc_28, kc_29, kc_103, kc_114, kc_116, kc_119, kl_0, kl_1, ks_200, ks_255, ks_288, i_Mo_layWhole_0, i_Mo_layWhole_1, i_Mo_layWhole_2, i_Mo_layWhole_3, i_Mo_layWhole_4, i_Mo_layWhole_5, i_Mo_layWhole_7, i_Mo_layWhole_9, i_Mo_layWhole_12, i_Mo_layWhole_13, i_Mo_layWhole_15, i_Mo_layWhole_16, i_Mo_layWhole_18, i_Mo_layWhole_20, i_Mo_layWhole_21, i_Mo_layWhole_24, i_Mo_layWhole_27, i_Mo_layWhole_28, i_Mo_layWhole_30, i_Mo_layWhole_32, i_Mo_layWhole_35, i_Mo_layWhole_37, i_Mo_layWhole_38, i_Mo_layWhole_41, i_Mo_layWhole_43, i_Mo_layWhole_45, i_Mo_layWhole_46, i_Mo_layWhole_48, i_Mo_layWhole_49, i_Mo_layWhole_51, i_Mo_layWhole_53, i_Mo_layWhole_56, i_Mo_layWhole_58, i_Mo_layWhole_61, i_Mo_layWhole_63, i_Mo_layWhole_64, i_Mo_layWhole_65, i_Mo_layWhole_68, i_Mo_layWhole_69, i_Mo_layWhole_72, i_Mo_layWhole_73, i_Mo_layWhole_74, i_Mo_layWhole_76, i_Mo_layWhole_77, i_Mo_layWhole_80, i_Mo_layWhole_81, i_Mo_layWhole_82, i_Mo_layWhole_84, i_Mo_layWhole_87, i_Mo_layWhole_89, i_Mo_layWhole_91, i_Mo_layWhole_94, i_Mo_layWhole_95, i_Mo_layWhole_98, i_Mo_layWhole_99, i_Mo_layWhole_101, i_Mo_layWhole_104, i_Mo_layWhole_107, i_Mo_layWhole_109, i_Mo_layWhole_112, i_Mo_layWhole_114, i_Mo_layWhole_117, i_Mo_layWhole_118, i_Mo_layWhole_119, i_Mo_layWhole_122, i_Mo_layWhole_125, i_Mo_layWhole_126, i_Mo_layWhole_127, i_Mo_layWhole_130, i_Mo_layWhole_131, i_Mo_layWhole_134, i_Mo_layWhole_135, i_Mo_layWhole_136, i_Mo_layWhole_137, i_Mo_layWhole_138, i_Mo_layWhole_141, i_Mo_layWhole_143, i_Mo_layWhole_144, i_Mo_layWhole_146, i_Mo_layWhole_147, i_Mo_layWhole_149, i_Mo_layWhole_151, i_Mo_layWhole_152, i_Mo_layWhole_155, i_Mo_layWhole_156, i_Mo_layWhole_158, i_Mo_layWhole_160, i_Mo_layWhole_161, i_Mo_layWhole_164, i_Mo_layWhole_166, i_Mo_layWhole_167, i_Mo_layWhole_170, i_Mo_layWhole_172, i_Mo_layWhole_174, i_Mo_layWhole_175, i_Mo_layWhole_177, i_Mo_layWhole_178, i_Mo_layWhole_181, i_Mo_layWhole_183, i_Mo_layWhole_186, i_Mo_layWhole_188, i_Mo_layWhole_190, i_Mo_layWhole_193, i_Mo_layWhole_196, i_Mo_layWhole_198, ml_0, ml_1, ml_2, ml_3, ml_4, ml_5, ml_6, ml_7, ml_8, ml_9, ml_10, ml_11, ml_12, ml_13, ml_14, ml_15, ml_16, ml_17, ml_18, ml_19, ml_20, ml_21, ml_22, ml_23, ml_24, ml_25, ml_26, ml_27, ml_28, ml_29, ml_30, ml_31, ml_32, ml_33, ms_1, ms_2, ms_3, ms_4, ms_5, ms_6, ms_7, ms_9, ms_12, ms_18, ms_20, ms_26, ms_27, ms_33, ml_n, sc_r, hk_ij, hk_i0, hk_0j, Nat.reduceEqDiff, gv, gn, gF, e0, ee, j6, ix, cx, oI_n, z0, nI_1, i10]
          exact n0.weak _ (by simp [leL]; rfl)
      · obtain ⟨g1', g2⟩ := hbh g hb
        have r0 : rsJ x.S cost O (some g) p = csO (O g) (some p) cost (chp (O g) (some p) cost x.S.n) := rfl
        rw [hb, r0] at n0
        have rw14 : rwO x.S.n g (O g) (R' 14) := fun p' hp' => ⟨by rw [hl _ (by omega)]; exact hR14 g hb p' hp', fun v hv => by have := hOv g p' v hv; omega⟩
        refine run [7, 18] 60 ok_m_Mo_layWhole (fun V hV => ?_)
        simp only [hV, sPush, sIld, sLld, sAld, sIst, sLst, sAst, sInc, sBI, sBL, sDI, sDL, sSL, sUI, sIL, sLI, sCmp, sDup, sDup2, sGo, sIf, sCm, sNul, sGet, sPut, sIal, sCal, sLal, sAal, sIas, sCas, sLas, sAas, sLen, sNew, sNar, sMna, sIns, sSw, swK, sIret, sLret, sAret, sVret, sSta, sSpe, sVir, sObj, sMax, sMin, sAcp, popN, catS, stdC, callA, gL, stI, stL, clr, cat1, cH, if_true, if_false, reduceIte, List.mem_cons, List.not_mem_nil, or_false, false_or, or_self, List.lookup_cons, List.lookup_nil, Option.toList_some, Option.toList_none, List.cons_append, List.nil_append, List.reverse_cons, List.reverse_nil, true_and, and_true, true_or, or_true, hset_s, hset_hset, List.getElem?_cons_zero, List.getElem?_cons_succ, List.set_cons_zero, List.set_cons_succ, List.length_cons, List.length_nil, beq_self_eq_true, Nat.reduceBEq, va_rf,  not_true_eq_false, not_false_eq_true, false_implies, true_implies, forall_const, ne_eq, eq_self, Nat.reduceAdd, Nat.reduceSub, Nat.reduceLeDiff, Nat.reduceLT, zlt_s, Nat.reduceEqDiff, Nat.zero_le, Nat.sub_zero, Nat.le_refl, imp_self, bI_0, nr_b, nr_b0, nr_b1, nr_i, nr_l, nr_a, nr_o, ft_i, ft_b1, ft_l, ft_a, ft_o, Classical.not_not, kb_m104, kb_m103, kb_m102, kb_m101, kb_6, kb_7, kb_8, kb_9, kb_10, kb_12, kb_16, kb_19, kb_20, kb_31, kb_32, kb_40, kb_42, kb_44, kb_47, kb_48, kb_49, kb_57, kb_63, kb_96, kb_99, kb_100, kb_103, kb_111, kb_112, kb_114, kb_116, kb_119, kb_126, kb_127, kc_m1, kc_0, kc_1, kc_2, kc_3, kc_4, kc_5, kc_6, kc_7, kc_8, kc_9, kc_10, kc_11, kc_12, kc_13, kc_14, kc_15, kc_16, kc_17, kc_18, kc_19, kc_20, kc_21, kc_22, kc_23, kc_24, kc_25, kc_26, kc_27, kc_28, kc_29, kc_103, kc_114, kc_116, kc_119, kl_0, kl_1, ks_200, ks_255, ks_288, i_Mo_layWhole_0, i_Mo_layWhole_1, i_Mo_layWhole_2, i_Mo_layWhole_3, i_Mo_layWhole_4, i_Mo_layWhole_5, i_Mo_layWhole_7, i_Mo_layWhole_9, i_Mo_layWhole_12, i_Mo_layWhole_13, i_Mo_layWhole_15, i_Mo_layWhole_16, i_Mo_layWhole_18, i_Mo_layWhole_20, i_Mo_layWhole_21, i_Mo_layWhole_24, i_Mo_layWhole_27, i_Mo_layWhole_28, i_Mo_layWhole_30, i_Mo_layWhole_32, i_Mo_layWhole_35, i_Mo_layWhole_37, i_Mo_layWhole_38, i_Mo_layWhole_41, i_Mo_layWhole_43, i_Mo_layWhole_45, i_Mo_layWhole_46, i_Mo_layWhole_48, i_Mo_layWhole_49, i_Mo_layWhole_51, i_Mo_layWhole_53, i_Mo_layWhole_56, i_Mo_layWhole_58, i_Mo_layWhole_61, i_Mo_layWhole_63, i_Mo_layWhole_64, i_Mo_layWhole_65, i_Mo_layWhole_68, i_Mo_layWhole_69, i_Mo_layWhole_72, i_Mo_layWhole_73, i_Mo_layWhole_74, i_Mo_layWhole_76, i_Mo_layWhole_77, i_Mo_layWhole_80, i_Mo_layWhole_81, i_Mo_layWhole_82, i_Mo_layWhole_84, i_Mo_layWhole_87, i_Mo_layWhole_89, i_Mo_layWhole_91, i_Mo_layWhole_94, i_Mo_layWhole_95, i_Mo_layWhole_98, i_Mo_layWhole_99, i_Mo_layWhole_101, i_Mo_layWhole_104, i_Mo_layWhole_107, i_Mo_layWhole_109, i_Mo_layWhole_112, i_Mo_layWhole_114, i_Mo_layWhole_117, i_Mo_layWhole_118, i_Mo_layWhole_119, i_Mo_layWhole_122, i_Mo_layWhole_125, i_Mo_layWhole_126, i_Mo_layWhole_127, i_Mo_layWhole_130, i_Mo_layWhole_131, i_Mo_layWhole_134, i_Mo_layWhole_135, i_Mo_layWhole_136, i_Mo_layWhole_137, i_Mo_layWhole_138, i_Mo_layWhole_141, i_Mo_layWhole_143, i_Mo_layWhole_144, i_Mo_layWhole_146, i_Mo_layWhole_147, i_Mo_layWhole_149, i_Mo_layWhole_151, i_Mo_layWhole_152, i_Mo_layWhole_155, i_Mo_layWhole_156, i_Mo_layWhole_158, i_Mo_layWhole_160, i_Mo_layWhole_161, i_Mo_layWhole_164, i_Mo_layWhole_166, i_Mo_layWhole_167, i_Mo_layWhole_170, i_Mo_layWhole_172, i_Mo_layWhole_174, i_Mo_layWhole_175, i_Mo_layWhole_177, i_Mo_layWhole_178, i_Mo_layWhole_181, i_Mo_layWhole_183, i_Mo_layWhole_186, i_Mo_layWhole_188, i_Mo_layWhole_190, i_Mo_layWhole_193, i_Mo_layWhole_196, i_Mo_layWhole_198, ml_0, ml_1, ml_2, ml_3, ml_4, ml_5, ml_6, ml_7, ml_8, ml_9, ml_10, ml_11, ml_12, ml_13, ml_14, ml_15, ml_16, ml_17, ml_18, ml_19, ml_20, ml_21, ml_22, ml_23, ml_24, ml_25, ml_26, ml_27, ml_28, ml_29, ml_30, ml_31, ml_32, ml_33, ms_1, ms_2, ms_3, ms_4, ms_5, ms_6, ms_7, ms_9, ms_12, ms_18, ms_20, ms_26, ms_27, ms_33, ml_n, sc_r, hk_ij, hk_i0, hk_0j, Nat.reduceEqDiff, gv, gn, gF, e0, ee, j6, ix, cx, oI_s, nI_ne (a := g) (by omega)]
        refine s_Mo_costBehind _ Y g x.S.n cost (some p) (O g) h6 (by omega) hc c12 rw14 _ _ _ hR (fun y hy => by cases hy; omega) ?_
        rcases hd01 with e | e
        · subst e
          refine run [7, 18] 60 ok_m_Mo_layWhole (fun V hV => ?_)
          simp only [hV, sPush, sIld, sLld, sAld, sIst, sLst, sAst, sInc, sBI, sBL, sDI, sDL, sSL, sUI, sIL, sLI, sCmp, sDup, sDup2, sGo, sIf, sCm, sNul, sGet, sPut, sIal, sCal, sLal, sAal, sIas, sCas, sLas, sAas, sLen, sNew, sNar, sMna, sIns, sSw, swK, sIret, sLret, sAret, sVret, sSta, sSpe, sVir, sObj, sMax, sMin, sAcp, popN, catS, stdC, callA, gL, stI, stL, clr, cat1, cH, if_true, if_false, reduceIte, List.mem_cons, List.not_mem_nil, or_false, false_or, or_self, List.lookup_cons, List.lookup_nil, Option.toList_some, Option.toList_none, List.cons_append, List.nil_append, List.reverse_cons, List.reverse_nil, true_and, and_true, true_or, or_true, hset_s, hset_hset, List.getElem?_cons_zero, List.getElem?_cons_succ, List.set_cons_zero, List.set_cons_succ, List.length_cons, List.length_nil, beq_self_eq_true, Nat.reduceBEq, va_rf,  not_true_eq_false, not_false_eq_true, false_implies, true_implies, forall_const, ne_eq, eq_self, Nat.reduceAdd, Nat.reduceSub, Nat.reduceLeDiff, Nat.reduceLT, zlt_s, Nat.reduceEqDiff, Nat.zero_le, Nat.sub_zero, Nat.le_refl, imp_self, bI_0, nr_b, nr_b0, nr_b1, nr_i, nr_l, nr_a, nr_o, ft_i, ft_b1, ft_l, ft_a, ft_o, Classical.not_not, kb_m104, kb_m103, kb_m102, kb_m101, kb_6, kb_7, kb_8, kb_9, kb_10, kb_12, kb_16, kb_19, kb_20, kb_31, kb_32, kb_40, kb_42, kb_44, kb_47, kb_48, kb_49, kb_57, kb_63, kb_96, kb_99, kb_100, kb_103, kb_111, kb_112, kb_114, kb_116, kb_119, kb_126, kb_127, kc_m1, kc_0, kc_1, kc_2, kc_3, kc_4, kc_5, kc_6, kc_7, kc_8, kc_9, kc_10, kc_11, kc_12, kc_13, kc_14, kc_15, kc_16, kc_17, kc_18, kc_19, kc_20, kc_21, kc_22, kc_23, kc_24, kc_25, kc_26, kc_27, kc_28, kc_29, kc_103, kc_114, kc_116, kc_119, kl_0, kl_1, ks_200, ks_255, ks_288, i_Mo_layWhole_0, i_Mo_layWhole_1, i_Mo_layWhole_2, i_Mo_layWhole_3, i_Mo_layWhole_4, i_Mo_layWhole_5, i_Mo_layWhole_7, i_Mo_layWhole_9, i_Mo_layWhole_12, i_Mo_layWhole_13, i_Mo_layWhole_15, i_Mo_layWhole_16, i_Mo_layWhole_18, i_Mo_layWhole_20, i_Mo_layWhole_21, i_Mo_layWhole_24, i_Mo_layWhole_27, i_Mo_layWhole_28, i_Mo_layWhole_30, i_Mo_layWhole_32, i_Mo_layWhole_35, i_Mo_layWhole_37, i_Mo_layWhole_38, i_Mo_layWhole_41, i_Mo_layWhole_43, i_Mo_layWhole_45, i_Mo_layWhole_46, i_Mo_layWhole_48, i_Mo_layWhole_49, i_Mo_layWhole_51, i_Mo_layWhole_53, i_Mo_layWhole_56, i_Mo_layWhole_58, i_Mo_layWhole_61, i_Mo_layWhole_63, i_Mo_layWhole_64, i_Mo_layWhole_65, i_Mo_layWhole_68, i_Mo_layWhole_69, i_Mo_layWhole_72, i_Mo_layWhole_73, i_Mo_layWhole_74, i_Mo_layWhole_76, i_Mo_layWhole_77, i_Mo_layWhole_80, i_Mo_layWhole_81, i_Mo_layWhole_82, i_Mo_layWhole_84, i_Mo_layWhole_87, i_Mo_layWhole_89, i_Mo_layWhole_91, i_Mo_layWhole_94, i_Mo_layWhole_95, i_Mo_layWhole_98, i_Mo_layWhole_99, i_Mo_layWhole_101, i_Mo_layWhole_104, i_Mo_layWhole_107, i_Mo_layWhole_109, i_Mo_layWhole_112, i_Mo_layWhole_114, i_Mo_layWhole_117, i_Mo_layWhole_118, i_Mo_layWhole_119, i_Mo_layWhole_122, i_Mo_layWhole_125, i_Mo_layWhole_126, i_Mo_layWhole_127, i_Mo_layWhole_130, i_Mo_layWhole_131, i_Mo_layWhole_134, i_Mo_layWhole_135, i_Mo_layWhole_136, i_Mo_layWhole_137, i_Mo_layWhole_138, i_Mo_layWhole_141, i_Mo_layWhole_143, i_Mo_layWhole_144, i_Mo_layWhole_146, i_Mo_layWhole_147, i_Mo_layWhole_149, i_Mo_layWhole_151, i_Mo_layWhole_152, i_Mo_layWhole_155, i_Mo_layWhole_156, i_Mo_layWhole_158, i_Mo_layWhole_160, i_Mo_layWhole_161, i_Mo_layWhole_164, i_Mo_layWhole_166, i_Mo_layWhole_167, i_Mo_layWhole_170, i_Mo_layWhole_172, i_Mo_layWhole_174, i_Mo_layWhole_175, i_Mo_layWhole_177, i_Mo_layWhole_178, i_Mo_layWhole_181, i_Mo_layWhole_183, i_Mo_layWhole_186, i_Mo_layWhole_188, i_Mo_layWhole_190, i_Mo_layWhole_193, i_Mo_layWhole_196, i_Mo_layWhole_198, ml_0, ml_1, ml_2, ml_3, ml_4, ml_5, ml_6, ml_7, ml_8, ml_9, ml_10, ml_11, ml_12, ml_13, ml_14, ml_15, ml_16, ml_17, ml_18, ml_19, ml_20, ml_21, ml_22, ml_23, ml_24, ml_25, ml_26, ml_27, ml_28, ml_29, ml_30, ml_31, ml_32, ml_33, ms_1, ms_2, ms_3, ms_4, ms_5, ms_6, ms_7, ms_9, ms_12, ms_18, ms_20, ms_26, ms_27, ms_33, ml_n, sc_r, hk_ij, hk_i0, hk_0j, Nat.reduceEqDiff, gv, gn, gF, e0, ee, ix, cx, nI_add, nI_1]
          exact n0.weak _ (by simp [leL]; rfl)
        · subst e
          refine run [7, 18] 60 ok_m_Mo_layWhole (fun V hV => ?_)
          simp only [hV, sPush, sIld, sLld, sAld, sIst, sLst, sAst, sInc, sBI, sBL, sDI, sDL, sSL, sUI, sIL, sLI, sCmp, sDup, sDup2, sGo, sIf, sCm, sNul, sGet, sPut, sIal, sCal, sLal, sAal, sIas, sCas, sLas, sAas, sLen, sNew, sNar, sMna, sIns, sSw, swK, sIret, sLret, sAret, sVret, sSta, sSpe, sVir, sObj, sMax, sMin, sAcp, popN, catS, stdC, callA, gL, stI, stL, clr, cat1, cH, if_true, if_false, reduceIte, List.mem_cons, List.not_mem_nil, or_false, false_or, or_self, List.lookup_cons, List.lookup_nil, Option.toList_some, Option.toList_none, List.cons_append, List.nil_append, List.reverse_cons, List.reverse_nil, true_and, and_true, true_or, or_true, hset_s, hset_hset, List.getElem?_cons_zero, List.getElem?_cons_succ, List.set_cons_zero, List.set_cons_succ, List.length_cons, List.length_nil, beq_self_eq_true, Nat.reduceBEq, va_rf,  not_true_eq_false, not_false_eq_true, false_implies, true_implies, forall_const, ne_eq, eq_self, Nat.reduceAdd, Nat.reduceSub, Nat.reduceLeDiff, Nat.reduceLT, zlt_s, Nat.reduceEqDiff, Nat.zero_le, Nat.sub_zero, Nat.le_refl, imp_self, bI_0, nr_b, nr_b0, nr_b1, nr_i, nr_l, nr_a, nr_o, ft_i, ft_b1, ft_l, ft_a, ft_o, Classical.not_not, kb_m104, kb_m103, kb_m102, kb_m101, kb_6, kb_7, kb_8, kb_9, kb_10, kb_12, kb_16, kb_19, kb_20, kb_31, kb_32, kb_40, kb_42, kb_44, kb_47, kb_48, kb_49, kb_57, kb_63, kb_96, kb_99, kb_100, kb_103, kb_111, kb_112, kb_114, kb_116, kb_119, kb_126, kb_127, kc_m1, kc_0, kc_1, kc_2, kc_3, kc_4, kc_5, kc_6, kc_7, kc_8, kc_9, kc_10, kc_11, kc_12, kc_13, kc_14, kc_15, kc_16, kc_17, kc_18, kc_19, kc_20, kc_21, kc_22, kc_23, kc_24, kc_25, kc_26, kc_27, kc_28, kc_29, kc_103, kc_114, kc_116, kc_119, kl_0, kl_1, ks_200, ks_255, ks_288, i_Mo_layWhole_0, i_Mo_layWhole_1, i_Mo_layWhole_2, i_Mo_layWhole_3, i_Mo_layWhole_4, i_Mo_layWhole_5, i_Mo_layWhole_7, i_Mo_layWhole_9, i_Mo_layWhole_12, i_Mo_layWhole_13, i_Mo_layWhole_15, i_Mo_layWhole_16, i_Mo_layWhole_18, i_Mo_layWhole_20, i_Mo_layWhole_21, i_Mo_layWhole_24, i_Mo_layWhole_27, i_Mo_layWhole_28, i_Mo_layWhole_30, i_Mo_layWhole_32, i_Mo_layWhole_35, i_Mo_layWhole_37, i_Mo_layWhole_38, i_Mo_layWhole_41, i_Mo_layWhole_43, i_Mo_layWhole_45, i_Mo_layWhole_46, i_Mo_layWhole_48, i_Mo_layWhole_49, i_Mo_layWhole_51, i_Mo_layWhole_53, i_Mo_layWhole_56, i_Mo_layWhole_58, i_Mo_layWhole_61, i_Mo_layWhole_63, i_Mo_layWhole_64, i_Mo_layWhole_65, i_Mo_layWhole_68, i_Mo_layWhole_69, i_Mo_layWhole_72, i_Mo_layWhole_73, i_Mo_layWhole_74, i_Mo_layWhole_76, i_Mo_layWhole_77, i_Mo_layWhole_80, i_Mo_layWhole_81, i_Mo_layWhole_82, i_Mo_layWhole_84, i_Mo_layWhole_87, i_Mo_layWhole_89, i_Mo_layWhole_91, i_Mo_layWhole_94, i_Mo_layWhole_95, i_Mo_layWhole_98, i_Mo_layWhole_99, i_Mo_layWhole_101, i_Mo_layWhole_104, i_Mo_layWhole_107, i_Mo_layWhole_109, i_Mo_layWhole_112, i_Mo_layWhole_114, i_Mo_layWhole_117, i_Mo_layWhole_118, i_Mo_layWhole_119, i_Mo_layWhole_122, i_Mo_layWhole_125, i_Mo_layWhole_126, i_Mo_layWhole_127, i_Mo_layWhole_130, i_Mo_layWhole_131, i_Mo_layWhole_134, i_Mo_layWhole_135, i_Mo_layWhole_136, i_Mo_layWhole_137, i_Mo_layWhole_138, i_Mo_layWhole_141, i_Mo_layWhole_143, i_Mo_layWhole_144, i_Mo_layWhole_146, i_Mo_layWhole_147, i_Mo_layWhole_149, i_Mo_layWhole_151, i_Mo_layWhole_152, i_Mo_layWhole_155, i_Mo_layWhole_156, i_Mo_layWhole_158, i_Mo_layWhole_160, i_Mo_layWhole_161, i_Mo_layWhole_164, i_Mo_layWhole_166, i_Mo_layWhole_167, i_Mo_layWhole_170, i_Mo_layWhole_172, i_Mo_layWhole_174, i_Mo_layWhole_175, i_Mo_layWhole_177, i_Mo_layWhole_178, i_Mo_layWhole_181, i_Mo_layWhole_183, i_Mo_layWhole_186, i_Mo_layWhole_188, i_Mo_layWhole_190, i_Mo_layWhole_193, i_Mo_layWhole_196, i_Mo_layWhole_198, ml_0, ml_1, ml_2, ml_3, ml_4, ml_5, ml_6, ml_7, ml_8, ml_9, ml_10, ml_11, ml_12, ml_13, ml_14, ml_15, ml_16, ml_17, ml_18, ml_19, ml_20, ml_21, ml_22, ml_23, ml_24, ml_25, ml_26, ml_27, ml_28, ml_29, ml_30, ml_31, ml_32, ml_33, ms_1, ms_2, ms_3, ms_4, ms_5, ms_6, ms_7, ms_9, ms_12, ms_18, ms_20, ms_26, ms_27, ms_33, ml_n, sc_r, hk_ij, hk_i0, hk_0j, Nat.reduceEqDiff, gv, gn, gF, e0, ee, ix, cx, nI_add, nI_1, i10]
          exact n0.weak _ (by simp [leL]; rfl)
