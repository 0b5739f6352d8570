/-! THE LONG METHODS AND THE LAW: each instruction as a step -/
theorem lk_app {α : Type} {B : List (Nat × α)} {k : Nat} : ∀ {A : List (Nat × α)}, A.lookup k = none → (A ++ B).lookup k = B.lookup k
  | [], _ => rfl
  | (a, v) :: A, h => by
    rw [List.lookup_cons] at h
    show List.lookup k ((a, v) :: (A ++ B)) = _
    rw [List.lookup_cons]
    cases c : k == a with
    | true => rw [c] at h; cases h
    | false => rw [c] at h; exact lk_app h
theorem lk_none {α : Type} {k : Nat} (hi : Nat) (hk : hi ≤ k) : ∀ {A : List (Nat × α)}, A.all (fun q => decide (q.1 < hi)) = true → A.lookup k = none
  | [], _ => rfl
  | (a, v) :: A, h => by
    rw [List.all_cons, Bool.and_eq_true] at h
    have h1 : a < hi := of_decide_eq_true h.1
    rw [List.lookup_cons]
    have c : (k == a) = false := by
      rw [beq_eq_false_iff_ne]
      omega
    rw [c]
    exact lk_none hi hk h.2
theorem lk_head {α : Type} {B : List (Nat × α)} {k : Nat} {v : α} : ∀ {A : List (Nat × α)}, A.lookup k = some v → (A ++ B).lookup k = some v
  | [], h => by cases h
  | (a, w) :: A, h => by
    rw [List.lookup_cons] at h
    show List.lookup k ((a, w) :: (A ++ B)) = _
    rw [List.lookup_cons]
    cases c : k == a with
    | true => rw [c] at h; exact h
    | false => rw [c] at h; exact lk_head h
theorem opAt_of {M : MR} {pc : Nat} {i : Instr} {n : Nat} (h : (mT M).lookup pc = some (i, n)) : opAt M pc = tr M pc i := by
  unfold opAt
  rw [h]
theorem al_Law_machineText_0 : t_Law_machineText_0.all (fun q => decide (q.1 < 101)) = true := by decide +kernel
theorem al_Law_machineText_1 : t_Law_machineText_1.all (fun q => decide (q.1 < 210)) = true := by decide +kernel
theorem al_Law_machineText_2 : t_Law_machineText_2.all (fun q => decide (q.1 < 316)) = true := by decide +kernel
theorem al_Law_machineText_3 : t_Law_machineText_3.all (fun q => decide (q.1 < 421)) = true := by decide +kernel
theorem TL_Law_machineText_0 (pc : Nat) : t_Law_machineText.lookup pc = (t_Law_machineText_0 ++ (t_Law_machineText_1 ++ (t_Law_machineText_2 ++ (t_Law_machineText_3 ++ (t_Law_machineText_4))))).lookup pc := rfl
theorem TL_Law_machineText_1 (pc : Nat) (h : 101 ≤ pc) : t_Law_machineText.lookup pc = (t_Law_machineText_1 ++ (t_Law_machineText_2 ++ (t_Law_machineText_3 ++ (t_Law_machineText_4)))).lookup pc := (TL_Law_machineText_0 pc).trans (lk_app (lk_none 101 h al_Law_machineText_0))
theorem TL_Law_machineText_2 (pc : Nat) (h : 210 ≤ pc) : t_Law_machineText.lookup pc = (t_Law_machineText_2 ++ (t_Law_machineText_3 ++ (t_Law_machineText_4))).lookup pc := (TL_Law_machineText_1 pc (by omega)).trans (lk_app (lk_none 210 h al_Law_machineText_1))
theorem TL_Law_machineText_3 (pc : Nat) (h : 316 ≤ pc) : t_Law_machineText.lookup pc = (t_Law_machineText_3 ++ (t_Law_machineText_4)).lookup pc := (TL_Law_machineText_2 pc (by omega)).trans (lk_app (lk_none 316 h al_Law_machineText_2))
theorem TL_Law_machineText_4 (pc : Nat) (h : 421 ≤ pc) : t_Law_machineText.lookup pc = (t_Law_machineText_4).lookup pc := (TL_Law_machineText_3 pc (by omega)).trans (lk_app (lk_none 421 h al_Law_machineText_3))
theorem i_Law_machineText_0 : opAt m_Law_machineText 0 = sPush (.int (Int32.ofInt 0)) 1 := (opAt_of (M := m_Law_machineText) (i := .iconst 0) (n := 1) ((TL_Law_machineText_0 0).trans (lk_head rfl))).trans rfl
theorem i_Law_machineText_1 : opAt m_Law_machineText 1 = sIst 4 3 := (opAt_of (M := m_Law_machineText) (i := .istore 4) (n := 2) ((TL_Law_machineText_0 1).trans (lk_head rfl))).trans rfl
theorem i_Law_machineText_3 : opAt m_Law_machineText 3 = sAld 2 4 := (opAt_of (M := m_Law_machineText) (i := .aload_n 2) (n := 1) ((TL_Law_machineText_0 3).trans (lk_head rfl))).trans rfl
theorem i_Law_machineText_4 : opAt m_Law_machineText 4 = sPush (.int (Int8.ofInt 16).toInt32) 6 := (opAt_of (M := m_Law_machineText) (i := .bipush 16) (n := 2) ((TL_Law_machineText_0 4).trans (lk_head rfl))).trans rfl
theorem i_Law_machineText_6 : opAt m_Law_machineText 6 = sPush (.int (Int32.ofInt 1)) 7 := (opAt_of (M := m_Law_machineText) (i := .iconst 1) (n := 1) ((TL_Law_machineText_0 6).trans (lk_head rfl))).trans rfl
theorem i_Law_machineText_7 : opAt m_Law_machineText 7 = sAld 0 8 := (opAt_of (M := m_Law_machineText) (i := .aload_n 0) (n := 1) ((TL_Law_machineText_0 7).trans (lk_head rfl))).trans rfl
theorem i_Law_machineText_8 : opAt m_Law_machineText 8 = sIld 1 9 := (opAt_of (M := m_Law_machineText) (i := .iload_n 1) (n := 1) ((TL_Law_machineText_0 8).trans (lk_head rfl))).trans rfl
theorem i_Law_machineText_9 : opAt m_Law_machineText 9 = sSta m_Law_cell 0 2 12 := (opAt_of (M := m_Law_machineText) (i := .invokestatic 8) (n := 3) ((TL_Law_machineText_0 9).trans (lk_head rfl))).trans rfl
theorem i_Law_machineText_12 : opAt m_Law_machineText 12 = sPush (.int (Int32.ofInt 3)) 13 := (opAt_of (M := m_Law_machineText) (i := .iconst 3) (n := 1) ((TL_Law_machineText_0 12).trans (lk_head rfl))).trans rfl
theorem i_Law_machineText_13 : opAt m_Law_machineText 13 = sSta m_Law_at 0 2 16 := (opAt_of (M := m_Law_machineText) (i := .invokestatic 14) (n := 3) ((TL_Law_machineText_0 13).trans (lk_head rfl))).trans rfl
theorem i_Law_machineText_16 : opAt m_Law_machineText 16 = sBI (fun x y => x + y) 17 := (opAt_of (M := m_Law_machineText) (i := .iadd) (n := 1) ((TL_Law_machineText_0 16).trans (lk_head rfl))).trans rfl
theorem i_Law_machineText_17 : opAt m_Law_machineText 17 = sIas 18 := (opAt_of (M := m_Law_machineText) (i := .iastore) (n := 1) ((TL_Law_machineText_0 17).trans (lk_head rfl))).trans rfl
theorem i_Law_machineText_18 : opAt m_Law_machineText 18 = sPush (.int (Int32.ofInt 0)) 19 := (opAt_of (M := m_Law_machineText) (i := .iconst 0) (n := 1) ((TL_Law_machineText_0 18).trans (lk_head rfl))).trans rfl
theorem i_Law_machineText_19 : opAt m_Law_machineText 19 = sIst 5 21 := (opAt_of (M := m_Law_machineText) (i := .istore 5) (n := 2) ((TL_Law_machineText_0 19).trans (lk_head rfl))).trans rfl
theorem i_Law_machineText_21 : opAt m_Law_machineText 21 = sIld 5 23 := (opAt_of (M := m_Law_machineText) (i := .iload 5) (n := 2) ((TL_Law_machineText_0 21).trans (lk_head rfl))).trans rfl
theorem i_Law_machineText_23 : opAt m_Law_machineText 23 = sAld 2 24 := (opAt_of (M := m_Law_machineText) (i := .aload_n 2) (n := 1) ((TL_Law_machineText_0 23).trans (lk_head rfl))).trans rfl
theorem i_Law_machineText_24 : opAt m_Law_machineText 24 = sPush (.int (Int8.ofInt 16).toInt32) 26 := (opAt_of (M := m_Law_machineText) (i := .bipush 16) (n := 2) ((TL_Law_machineText_0 24).trans (lk_head rfl))).trans rfl
theorem i_Law_machineText_26 : opAt m_Law_machineText 26 = sIal 27 := (opAt_of (M := m_Law_machineText) (i := .iaload) (n := 1) ((TL_Law_machineText_0 26).trans (lk_head rfl))).trans rfl
theorem i_Law_machineText_27 : opAt m_Law_machineText 27 = sCm .ge 419 30 := (opAt_of (M := m_Law_machineText) (i := .if_icmp .ge 392) (n := 3) ((TL_Law_machineText_0 27).trans (lk_head rfl))).trans rfl
theorem i_Law_machineText_30 : opAt m_Law_machineText 30 = sAld 0 31 := (opAt_of (M := m_Law_machineText) (i := .aload_n 0) (n := 1) ((TL_Law_machineText_0 30).trans (lk_head rfl))).trans rfl
theorem i_Law_machineText_31 : opAt m_Law_machineText 31 = sIld 1 32 := (opAt_of (M := m_Law_machineText) (i := .iload_n 1) (n := 1) ((TL_Law_machineText_0 31).trans (lk_head rfl))).trans rfl
theorem i_Law_machineText_32 : opAt m_Law_machineText 32 = sPush (.int (Int32.ofInt 1)) 33 := (opAt_of (M := m_Law_machineText) (i := .iconst 1) (n := 1) ((TL_Law_machineText_0 32).trans (lk_head rfl))).trans rfl
theorem i_Law_machineText_33 : opAt m_Law_machineText 33 = sBI (fun x y => x + y) 34 := (opAt_of (M := m_Law_machineText) (i := .iadd) (n := 1) ((TL_Law_machineText_0 33).trans (lk_head rfl))).trans rfl
theorem i_Law_machineText_34 : opAt m_Law_machineText 34 = sIld 5 36 := (opAt_of (M := m_Law_machineText) (i := .iload 5) (n := 2) ((TL_Law_machineText_0 34).trans (lk_head rfl))).trans rfl
theorem i_Law_machineText_36 : opAt m_Law_machineText 36 = sBI (fun x y => x + y) 37 := (opAt_of (M := m_Law_machineText) (i := .iadd) (n := 1) ((TL_Law_machineText_0 36).trans (lk_head rfl))).trans rfl
theorem i_Law_machineText_37 : opAt m_Law_machineText 37 = sSta m_Law_cell 0 2 40 := (opAt_of (M := m_Law_machineText) (i := .invokestatic 8) (n := 3) ((TL_Law_machineText_0 37).trans (lk_head rfl))).trans rfl
theorem i_Law_machineText_40 : opAt m_Law_machineText 40 = sIst 6 42 := (opAt_of (M := m_Law_machineText) (i := .istore 6) (n := 2) ((TL_Law_machineText_0 40).trans (lk_head rfl))).trans rfl
theorem i_Law_machineText_42 : opAt m_Law_machineText 42 = sPush (.int (Int32.ofInt 4)) 43 := (opAt_of (M := m_Law_machineText) (i := .iconst 4) (n := 1) ((TL_Law_machineText_0 42).trans (lk_head rfl))).trans rfl
theorem i_Law_machineText_43 : opAt m_Law_machineText 43 = sIld 5 45 := (opAt_of (M := m_Law_machineText) (i := .iload 5) (n := 2) ((TL_Law_machineText_0 43).trans (lk_head rfl))).trans rfl
theorem i_Law_machineText_45 : opAt m_Law_machineText 45 = sBI (fun x y => x * y) 46 := (opAt_of (M := m_Law_machineText) (i := .imul) (n := 1) ((TL_Law_machineText_0 45).trans (lk_head rfl))).trans rfl
theorem i_Law_machineText_46 : opAt m_Law_machineText 46 = sIst 7 48 := (opAt_of (M := m_Law_machineText) (i := .istore 7) (n := 2) ((TL_Law_machineText_0 46).trans (lk_head rfl))).trans rfl
theorem i_Law_machineText_48 : opAt m_Law_machineText 48 = sIld 6 50 := (opAt_of (M := m_Law_machineText) (i := .iload 6) (n := 2) ((TL_Law_machineText_0 48).trans (lk_head rfl))).trans rfl
theorem i_Law_machineText_50 : opAt m_Law_machineText 50 = sPush (.int (Int8.ofInt 8).toInt32) 52 := (opAt_of (M := m_Law_machineText) (i := .bipush 8) (n := 2) ((TL_Law_machineText_0 50).trans (lk_head rfl))).trans rfl
theorem i_Law_machineText_52 : opAt m_Law_machineText 52 = sSta m_Law_at 0 2 55 := (opAt_of (M := m_Law_machineText) (i := .invokestatic 14) (n := 3) ((TL_Law_machineText_0 52).trans (lk_head rfl))).trans rfl
theorem i_Law_machineText_55 : opAt m_Law_machineText 55 = sIst 8 57 := (opAt_of (M := m_Law_machineText) (i := .istore 8) (n := 2) ((TL_Law_machineText_0 55).trans (lk_head rfl))).trans rfl
theorem i_Law_machineText_57 : opAt m_Law_machineText 57 = sAld 2 58 := (opAt_of (M := m_Law_machineText) (i := .aload_n 2) (n := 1) ((TL_Law_machineText_0 57).trans (lk_head rfl))).trans rfl
theorem i_Law_machineText_58 : opAt m_Law_machineText 58 = sIld 7 60 := (opAt_of (M := m_Law_machineText) (i := .iload 7) (n := 2) ((TL_Law_machineText_0 58).trans (lk_head rfl))).trans rfl
theorem i_Law_machineText_60 : opAt m_Law_machineText 60 = sIld 8 62 := (opAt_of (M := m_Law_machineText) (i := .iload 8) (n := 2) ((TL_Law_machineText_0 60).trans (lk_head rfl))).trans rfl
theorem i_Law_machineText_62 : opAt m_Law_machineText 62 = sIf .ne 69 65 := (opAt_of (M := m_Law_machineText) (i := .ifCond .ne 7) (n := 3) ((TL_Law_machineText_0 62).trans (lk_head rfl))).trans rfl
theorem i_Law_machineText_65 : opAt m_Law_machineText 65 = sPush (.int (Int32.ofInt 1)) 66 := (opAt_of (M := m_Law_machineText) (i := .iconst 1) (n := 1) ((TL_Law_machineText_0 65).trans (lk_head rfl))).trans rfl
theorem i_Law_machineText_66 : opAt m_Law_machineText 66 = sGo 91 := (opAt_of (M := m_Law_machineText) (i := .goto 25) (n := 3) ((TL_Law_machineText_0 66).trans (lk_head rfl))).trans rfl
theorem i_Law_machineText_69 : opAt m_Law_machineText 69 = sIld 8 71 := (opAt_of (M := m_Law_machineText) (i := .iload 8) (n := 2) ((TL_Law_machineText_0 69).trans (lk_head rfl))).trans rfl
theorem i_Law_machineText_71 : opAt m_Law_machineText 71 = sPush (.int (Int32.ofInt 4)) 72 := (opAt_of (M := m_Law_machineText) (i := .iconst 4) (n := 1) ((TL_Law_machineText_0 71).trans (lk_head rfl))).trans rfl
theorem i_Law_machineText_72 : opAt m_Law_machineText 72 = sCm .ge 79 75 := (opAt_of (M := m_Law_machineText) (i := .if_icmp .ge 7) (n := 3) ((TL_Law_machineText_0 72).trans (lk_head rfl))).trans rfl
theorem i_Law_machineText_75 : opAt m_Law_machineText 75 = sPush (.int (Int32.ofInt 2)) 76 := (opAt_of (M := m_Law_machineText) (i := .iconst 2) (n := 1) ((TL_Law_machineText_0 75).trans (lk_head rfl))).trans rfl
theorem i_Law_machineText_76 : opAt m_Law_machineText 76 = sGo 91 := (opAt_of (M := m_Law_machineText) (i := .goto 15) (n := 3) ((TL_Law_machineText_0 76).trans (lk_head rfl))).trans rfl
theorem i_Law_machineText_79 : opAt m_Law_machineText 79 = sIld 8 81 := (opAt_of (M := m_Law_machineText) (i := .iload 8) (n := 2) ((TL_Law_machineText_0 79).trans (lk_head rfl))).trans rfl
theorem i_Law_machineText_81 : opAt m_Law_machineText 81 = sPush (.int (Int8.ofInt 6).toInt32) 83 := (opAt_of (M := m_Law_machineText) (i := .bipush 6) (n := 2) ((TL_Law_machineText_0 81).trans (lk_head rfl))).trans rfl
theorem i_Law_machineText_83 : opAt m_Law_machineText 83 = sCm .ge 90 86 := (opAt_of (M := m_Law_machineText) (i := .if_icmp .ge 7) (n := 3) ((TL_Law_machineText_0 83).trans (lk_head rfl))).trans rfl
theorem i_Law_machineText_86 : opAt m_Law_machineText 86 = sPush (.int (Int32.ofInt 3)) 87 := (opAt_of (M := m_Law_machineText) (i := .iconst 3) (n := 1) ((TL_Law_machineText_0 86).trans (lk_head rfl))).trans rfl
theorem i_Law_machineText_87 : opAt m_Law_machineText 87 = sGo 91 := (opAt_of (M := m_Law_machineText) (i := .goto 4) (n := 3) ((TL_Law_machineText_0 87).trans (lk_head rfl))).trans rfl
theorem i_Law_machineText_90 : opAt m_Law_machineText 90 = sPush (.int (Int32.ofInt 4)) 91 := (opAt_of (M := m_Law_machineText) (i := .iconst 4) (n := 1) ((TL_Law_machineText_0 90).trans (lk_head rfl))).trans rfl
theorem i_Law_machineText_91 : opAt m_Law_machineText 91 = sIas 92 := (opAt_of (M := m_Law_machineText) (i := .iastore) (n := 1) ((TL_Law_machineText_0 91).trans (lk_head rfl))).trans rfl
theorem i_Law_machineText_92 : opAt m_Law_machineText 92 = sAld 2 93 := (opAt_of (M := m_Law_machineText) (i := .aload_n 2) (n := 1) ((TL_Law_machineText_0 92).trans (lk_head rfl))).trans rfl
theorem i_Law_machineText_93 : opAt m_Law_machineText 93 = sIld 7 95 := (opAt_of (M := m_Law_machineText) (i := .iload 7) (n := 2) ((TL_Law_machineText_0 93).trans (lk_head rfl))).trans rfl
theorem i_Law_machineText_95 : opAt m_Law_machineText 95 = sPush (.int (Int32.ofInt 1)) 96 := (opAt_of (M := m_Law_machineText) (i := .iconst 1) (n := 1) ((TL_Law_machineText_0 95).trans (lk_head rfl))).trans rfl
theorem i_Law_machineText_96 : opAt m_Law_machineText 96 = sBI (fun x y => x + y) 97 := (opAt_of (M := m_Law_machineText) (i := .iadd) (n := 1) ((TL_Law_machineText_0 96).trans (lk_head rfl))).trans rfl
theorem i_Law_machineText_97 : opAt m_Law_machineText 97 = sIld 6 99 := (opAt_of (M := m_Law_machineText) (i := .iload 6) (n := 2) ((TL_Law_machineText_0 97).trans (lk_head rfl))).trans rfl
theorem i_Law_machineText_99 : opAt m_Law_machineText 99 = sPush (.int (Int32.ofInt 3)) 100 := (opAt_of (M := m_Law_machineText) (i := .iconst 3) (n := 1) ((TL_Law_machineText_0 99).trans (lk_head rfl))).trans rfl
theorem i_Law_machineText_100 : opAt m_Law_machineText 100 = sBI (fun x y => x >>> (y &&& 31)) 101 := (opAt_of (M := m_Law_machineText) (i := .ishr) (n := 1) ((TL_Law_machineText_0 100).trans (lk_head rfl))).trans rfl
theorem i_Law_machineText_101 : opAt m_Law_machineText 101 = sIld 6 103 := (opAt_of (M := m_Law_machineText) (i := .iload 6) (n := 2) ((TL_Law_machineText_1 101 (by omega)).trans (lk_head rfl))).trans rfl
theorem i_Law_machineText_103 : opAt m_Law_machineText 103 = sPush (.int (Int8.ofInt 20).toInt32) 105 := (opAt_of (M := m_Law_machineText) (i := .bipush 20) (n := 2) ((TL_Law_machineText_1 103 (by omega)).trans (lk_head rfl))).trans rfl
theorem i_Law_machineText_105 : opAt m_Law_machineText 105 = sBI (fun x y => x >>> (y &&& 31)) 106 := (opAt_of (M := m_Law_machineText) (i := .ishr) (n := 1) ((TL_Law_machineText_1 105 (by omega)).trans (lk_head rfl))).trans rfl
theorem i_Law_machineText_106 : opAt m_Law_machineText 106 = sPush (.int (Int32.ofInt 2)) 107 := (opAt_of (M := m_Law_machineText) (i := .iconst 2) (n := 1) ((TL_Law_machineText_1 106 (by omega)).trans (lk_head rfl))).trans rfl
theorem i_Law_machineText_107 : opAt m_Law_machineText 107 = sSta m_Law_at 0 2 110 := (opAt_of (M := m_Law_machineText) (i := .invokestatic 14) (n := 3) ((TL_Law_machineText_1 107 (by omega)).trans (lk_head rfl))).trans rfl
theorem i_Law_machineText_110 : opAt m_Law_machineText 110 = sIf .ne 118 113 := (opAt_of (M := m_Law_machineText) (i := .ifCond .ne 8) (n := 3) ((TL_Law_machineText_1 110 (by omega)).trans (lk_head rfl))).trans rfl
theorem i_Law_machineText_113 : opAt m_Law_machineText 113 = sPush (.int (Int8.ofInt 8).toInt32) 115 := (opAt_of (M := m_Law_machineText) (i := .bipush 8) (n := 2) ((TL_Law_machineText_1 113 (by omega)).trans (lk_head rfl))).trans rfl
theorem i_Law_machineText_115 : opAt m_Law_machineText 115 = sGo 119 := (opAt_of (M := m_Law_machineText) (i := .goto 4) (n := 3) ((TL_Law_machineText_1 115 (by omega)).trans (lk_head rfl))).trans rfl
theorem i_Law_machineText_118 : opAt m_Law_machineText 118 = sPush (.int (Int32.ofInt 3)) 119 := (opAt_of (M := m_Law_machineText) (i := .iconst 3) (n := 1) ((TL_Law_machineText_1 118 (by omega)).trans (lk_head rfl))).trans rfl
theorem i_Law_machineText_119 : opAt m_Law_machineText 119 = sSta m_Law_at 0 2 122 := (opAt_of (M := m_Law_machineText) (i := .invokestatic 14) (n := 3) ((TL_Law_machineText_1 119 (by omega)).trans (lk_head rfl))).trans rfl
theorem i_Law_machineText_122 : opAt m_Law_machineText 122 = sIas 123 := (opAt_of (M := m_Law_machineText) (i := .iastore) (n := 1) ((TL_Law_machineText_1 122 (by omega)).trans (lk_head rfl))).trans rfl
theorem i_Law_machineText_123 : opAt m_Law_machineText 123 = sAld 2 124 := (opAt_of (M := m_Law_machineText) (i := .aload_n 2) (n := 1) ((TL_Law_machineText_1 123 (by omega)).trans (lk_head rfl))).trans rfl
theorem i_Law_machineText_124 : opAt m_Law_machineText 124 = sIld 7 126 := (opAt_of (M := m_Law_machineText) (i := .iload 7) (n := 2) ((TL_Law_machineText_1 124 (by omega)).trans (lk_head rfl))).trans rfl
theorem i_Law_machineText_126 : opAt m_Law_machineText 126 = sPush (.int (Int32.ofInt 2)) 127 := (opAt_of (M := m_Law_machineText) (i := .iconst 2) (n := 1) ((TL_Law_machineText_1 126 (by omega)).trans (lk_head rfl))).trans rfl
theorem i_Law_machineText_127 : opAt m_Law_machineText 127 = sBI (fun x y => x + y) 128 := (opAt_of (M := m_Law_machineText) (i := .iadd) (n := 1) ((TL_Law_machineText_1 127 (by omega)).trans (lk_head rfl))).trans rfl
theorem i_Law_machineText_128 : opAt m_Law_machineText 128 = sAld 2 129 := (opAt_of (M := m_Law_machineText) (i := .aload_n 2) (n := 1) ((TL_Law_machineText_1 128 (by omega)).trans (lk_head rfl))).trans rfl
theorem i_Law_machineText_129 : opAt m_Law_machineText 129 = sIld 7 131 := (opAt_of (M := m_Law_machineText) (i := .iload 7) (n := 2) ((TL_Law_machineText_1 129 (by omega)).trans (lk_head rfl))).trans rfl
theorem i_Law_machineText_131 : opAt m_Law_machineText 131 = sIal 132 := (opAt_of (M := m_Law_machineText) (i := .iaload) (n := 1) ((TL_Law_machineText_1 131 (by omega)).trans (lk_head rfl))).trans rfl
theorem i_Law_machineText_132 : opAt m_Law_machineText 132 = sPush (.int (Int32.ofInt 1)) 133 := (opAt_of (M := m_Law_machineText) (i := .iconst 1) (n := 1) ((TL_Law_machineText_1 132 (by omega)).trans (lk_head rfl))).trans rfl
theorem i_Law_machineText_133 : opAt m_Law_machineText 133 = sCm .ne 140 136 := (opAt_of (M := m_Law_machineText) (i := .if_icmp .ne 7) (n := 3) ((TL_Law_machineText_1 133 (by omega)).trans (lk_head rfl))).trans rfl
theorem i_Law_machineText_136 : opAt m_Law_machineText 136 = sPush (.int (Int32.ofInt (-1))) 137 := (opAt_of (M := m_Law_machineText) (i := .iconst (-1)) (n := 1) ((TL_Law_machineText_1 136 (by omega)).trans (lk_head rfl))).trans rfl
theorem i_Law_machineText_137 : opAt m_Law_machineText 137 = sGo 208 := (opAt_of (M := m_Law_machineText) (i := .goto 71) (n := 3) ((TL_Law_machineText_1 137 (by omega)).trans (lk_head rfl))).trans rfl
theorem i_Law_machineText_140 : opAt m_Law_machineText 140 = sAld 2 141 := (opAt_of (M := m_Law_machineText) (i := .aload_n 2) (n := 1) ((TL_Law_machineText_1 140 (by omega)).trans (lk_head rfl))).trans rfl
theorem i_Law_machineText_141 : opAt m_Law_machineText 141 = sIld 7 143 := (opAt_of (M := m_Law_machineText) (i := .iload 7) (n := 2) ((TL_Law_machineText_1 141 (by omega)).trans (lk_head rfl))).trans rfl
theorem i_Law_machineText_143 : opAt m_Law_machineText 143 = sIal 144 := (opAt_of (M := m_Law_machineText) (i := .iaload) (n := 1) ((TL_Law_machineText_1 143 (by omega)).trans (lk_head rfl))).trans rfl
theorem i_Law_machineText_144 : opAt m_Law_machineText 144 = sPush (.int (Int32.ofInt 4)) 145 := (opAt_of (M := m_Law_machineText) (i := .iconst 4) (n := 1) ((TL_Law_machineText_1 144 (by omega)).trans (lk_head rfl))).trans rfl
theorem i_Law_machineText_145 : opAt m_Law_machineText 145 = sCm .ne 180 148 := (opAt_of (M := m_Law_machineText) (i := .if_icmp .ne 35) (n := 3) ((TL_Law_machineText_1 145 (by omega)).trans (lk_head rfl))).trans rfl
theorem i_Law_machineText_148 : opAt m_Law_machineText 148 = sPush (.int (Int32.ofInt 1)) 149 := (opAt_of (M := m_Law_machineText) (i := .iconst 1) (n := 1) ((TL_Law_machineText_1 148 (by omega)).trans (lk_head rfl))).trans rfl
theorem i_Law_machineText_149 : opAt m_Law_machineText 149 = sIld 6 151 := (opAt_of (M := m_Law_machineText) (i := .iload 6) (n := 2) ((TL_Law_machineText_1 149 (by omega)).trans (lk_head rfl))).trans rfl
theorem i_Law_machineText_151 : opAt m_Law_machineText 151 = sPush (.int (Int8.ofInt 6).toInt32) 153 := (opAt_of (M := m_Law_machineText) (i := .bipush 6) (n := 2) ((TL_Law_machineText_1 151 (by omega)).trans (lk_head rfl))).trans rfl
theorem i_Law_machineText_153 : opAt m_Law_machineText 153 = sBI (fun x y => x >>> (y &&& 31)) 154 := (opAt_of (M := m_Law_machineText) (i := .ishr) (n := 1) ((TL_Law_machineText_1 153 (by omega)).trans (lk_head rfl))).trans rfl
theorem i_Law_machineText_154 : opAt m_Law_machineText 154 = sIld 6 156 := (opAt_of (M := m_Law_machineText) (i := .iload 6) (n := 2) ((TL_Law_machineText_1 154 (by omega)).trans (lk_head rfl))).trans rfl
theorem i_Law_machineText_156 : opAt m_Law_machineText 156 = sPush (.int (Int8.ofInt 21).toInt32) 158 := (opAt_of (M := m_Law_machineText) (i := .bipush 21) (n := 2) ((TL_Law_machineText_1 156 (by omega)).trans (lk_head rfl))).trans rfl
theorem i_Law_machineText_158 : opAt m_Law_machineText 158 = sBI (fun x y => x >>> (y &&& 31)) 159 := (opAt_of (M := m_Law_machineText) (i := .ishr) (n := 1) ((TL_Law_machineText_1 158 (by omega)).trans (lk_head rfl))).trans rfl
theorem i_Law_machineText_159 : opAt m_Law_machineText 159 = sPush (.int (Int32.ofInt 2)) 160 := (opAt_of (M := m_Law_machineText) (i := .iconst 2) (n := 1) ((TL_Law_machineText_1 159 (by omega)).trans (lk_head rfl))).trans rfl
theorem i_Law_machineText_160 : opAt m_Law_machineText 160 = sSta m_Law_at 0 2 163 := (opAt_of (M := m_Law_machineText) (i := .invokestatic 14) (n := 3) ((TL_Law_machineText_1 160 (by omega)).trans (lk_head rfl))).trans rfl
theorem i_Law_machineText_163 : opAt m_Law_machineText 163 = sIf .ne 171 166 := (opAt_of (M := m_Law_machineText) (i := .ifCond .ne 8) (n := 3) ((TL_Law_machineText_1 163 (by omega)).trans (lk_head rfl))).trans rfl
theorem i_Law_machineText_166 : opAt m_Law_machineText 166 = sPush (.int (Int8.ofInt 19).toInt32) 168 := (opAt_of (M := m_Law_machineText) (i := .bipush 19) (n := 2) ((TL_Law_machineText_1 166 (by omega)).trans (lk_head rfl))).trans rfl
theorem i_Law_machineText_168 : opAt m_Law_machineText 168 = sGo 173 := (opAt_of (M := m_Law_machineText) (i := .goto 5) (n := 3) ((TL_Law_machineText_1 168 (by omega)).trans (lk_head rfl))).trans rfl
theorem i_Law_machineText_171 : opAt m_Law_machineText 171 = sPush (.int (Int8.ofInt 6).toInt32) 173 := (opAt_of (M := m_Law_machineText) (i := .bipush 6) (n := 2) ((TL_Law_machineText_1 171 (by omega)).trans (lk_head rfl))).trans rfl
theorem i_Law_machineText_173 : opAt m_Law_machineText 173 = sSta m_Law_at 0 2 176 := (opAt_of (M := m_Law_machineText) (i := .invokestatic 14) (n := 3) ((TL_Law_machineText_1 173 (by omega)).trans (lk_head rfl))).trans rfl
theorem i_Law_machineText_176 : opAt m_Law_machineText 176 = sBI (fun x y => x + y) 177 := (opAt_of (M := m_Law_machineText) (i := .iadd) (n := 1) ((TL_Law_machineText_1 176 (by omega)).trans (lk_head rfl))).trans rfl
theorem i_Law_machineText_177 : opAt m_Law_machineText 177 = sGo 208 := (opAt_of (M := m_Law_machineText) (i := .goto 31) (n := 3) ((TL_Law_machineText_1 177 (by omega)).trans (lk_head rfl))).trans rfl
theorem i_Law_machineText_180 : opAt m_Law_machineText 180 = sPush (.int (Int32.ofInt 2)) 181 := (opAt_of (M := m_Law_machineText) (i := .iconst 2) (n := 1) ((TL_Law_machineText_1 180 (by omega)).trans (lk_head rfl))).trans rfl
theorem i_Law_machineText_181 : opAt m_Law_machineText 181 = sIld 6 183 := (opAt_of (M := m_Law_machineText) (i := .iload 6) (n := 2) ((TL_Law_machineText_1 181 (by omega)).trans (lk_head rfl))).trans rfl
theorem i_Law_machineText_183 : opAt m_Law_machineText 183 = sPush (.int (Int8.ofInt 6).toInt32) 185 := (opAt_of (M := m_Law_machineText) (i := .bipush 6) (n := 2) ((TL_Law_machineText_1 183 (by omega)).trans (lk_head rfl))).trans rfl
theorem i_Law_machineText_185 : opAt m_Law_machineText 185 = sBI (fun x y => x >>> (y &&& 31)) 186 := (opAt_of (M := m_Law_machineText) (i := .ishr) (n := 1) ((TL_Law_machineText_1 185 (by omega)).trans (lk_head rfl))).trans rfl
theorem i_Law_machineText_186 : opAt m_Law_machineText 186 = sIld 6 188 := (opAt_of (M := m_Law_machineText) (i := .iload 6) (n := 2) ((TL_Law_machineText_1 186 (by omega)).trans (lk_head rfl))).trans rfl
theorem i_Law_machineText_188 : opAt m_Law_machineText 188 = sPush (.int (Int8.ofInt 21).toInt32) 190 := (opAt_of (M := m_Law_machineText) (i := .bipush 21) (n := 2) ((TL_Law_machineText_1 188 (by omega)).trans (lk_head rfl))).trans rfl
theorem i_Law_machineText_190 : opAt m_Law_machineText 190 = sBI (fun x y => x >>> (y &&& 31)) 191 := (opAt_of (M := m_Law_machineText) (i := .ishr) (n := 1) ((TL_Law_machineText_1 190 (by omega)).trans (lk_head rfl))).trans rfl
theorem i_Law_machineText_191 : opAt m_Law_machineText 191 = sPush (.int (Int32.ofInt 2)) 192 := (opAt_of (M := m_Law_machineText) (i := .iconst 2) (n := 1) ((TL_Law_machineText_1 191 (by omega)).trans (lk_head rfl))).trans rfl
theorem i_Law_machineText_192 : opAt m_Law_machineText 192 = sSta m_Law_at 0 2 195 := (opAt_of (M := m_Law_machineText) (i := .invokestatic 14) (n := 3) ((TL_Law_machineText_1 192 (by omega)).trans (lk_head rfl))).trans rfl
theorem i_Law_machineText_195 : opAt m_Law_machineText 195 = sIf .ne 203 198 := (opAt_of (M := m_Law_machineText) (i := .ifCond .ne 8) (n := 3) ((TL_Law_machineText_1 195 (by omega)).trans (lk_head rfl))).trans rfl
theorem i_Law_machineText_198 : opAt m_Law_machineText 198 = sPush (.int (Int8.ofInt 18).toInt32) 200 := (opAt_of (M := m_Law_machineText) (i := .bipush 18) (n := 2) ((TL_Law_machineText_1 198 (by omega)).trans (lk_head rfl))).trans rfl
theorem i_Law_machineText_200 : opAt m_Law_machineText 200 = sGo 204 := (opAt_of (M := m_Law_machineText) (i := .goto 4) (n := 3) ((TL_Law_machineText_1 200 (by omega)).trans (lk_head rfl))).trans rfl
theorem i_Law_machineText_203 : opAt m_Law_machineText 203 = sPush (.int (Int32.ofInt 5)) 204 := (opAt_of (M := m_Law_machineText) (i := .iconst 5) (n := 1) ((TL_Law_machineText_1 203 (by omega)).trans (lk_head rfl))).trans rfl
theorem i_Law_machineText_204 : opAt m_Law_machineText 204 = sSta m_Law_at 0 2 207 := (opAt_of (M := m_Law_machineText) (i := .invokestatic 14) (n := 3) ((TL_Law_machineText_1 204 (by omega)).trans (lk_head rfl))).trans rfl
theorem i_Law_machineText_207 : opAt m_Law_machineText 207 = sBI (fun x y => x + y) 208 := (opAt_of (M := m_Law_machineText) (i := .iadd) (n := 1) ((TL_Law_machineText_1 207 (by omega)).trans (lk_head rfl))).trans rfl
theorem i_Law_machineText_208 : opAt m_Law_machineText 208 = sIas 209 := (opAt_of (M := m_Law_machineText) (i := .iastore) (n := 1) ((TL_Law_machineText_1 208 (by omega)).trans (lk_head rfl))).trans rfl
theorem i_Law_machineText_209 : opAt m_Law_machineText 209 = sAld 2 210 := (opAt_of (M := m_Law_machineText) (i := .aload_n 2) (n := 1) ((TL_Law_machineText_1 209 (by omega)).trans (lk_head rfl))).trans rfl
theorem i_Law_machineText_210 : opAt m_Law_machineText 210 = sIld 7 212 := (opAt_of (M := m_Law_machineText) (i := .iload 7) (n := 2) ((TL_Law_machineText_2 210 (by omega)).trans (lk_head rfl))).trans rfl
theorem i_Law_machineText_212 : opAt m_Law_machineText 212 = sPush (.int (Int32.ofInt 3)) 213 := (opAt_of (M := m_Law_machineText) (i := .iconst 3) (n := 1) ((TL_Law_machineText_2 212 (by omega)).trans (lk_head rfl))).trans rfl
theorem i_Law_machineText_213 : opAt m_Law_machineText 213 = sBI (fun x y => x + y) 214 := (opAt_of (M := m_Law_machineText) (i := .iadd) (n := 1) ((TL_Law_machineText_2 213 (by omega)).trans (lk_head rfl))).trans rfl
theorem i_Law_machineText_214 : opAt m_Law_machineText 214 = sAld 2 215 := (opAt_of (M := m_Law_machineText) (i := .aload_n 2) (n := 1) ((TL_Law_machineText_2 214 (by omega)).trans (lk_head rfl))).trans rfl
theorem i_Law_machineText_215 : opAt m_Law_machineText 215 = sIld 7 217 := (opAt_of (M := m_Law_machineText) (i := .iload 7) (n := 2) ((TL_Law_machineText_2 215 (by omega)).trans (lk_head rfl))).trans rfl
theorem i_Law_machineText_217 : opAt m_Law_machineText 217 = sIal 218 := (opAt_of (M := m_Law_machineText) (i := .iaload) (n := 1) ((TL_Law_machineText_2 217 (by omega)).trans (lk_head rfl))).trans rfl
theorem i_Law_machineText_218 : opAt m_Law_machineText 218 = sPush (.int (Int32.ofInt 1)) 219 := (opAt_of (M := m_Law_machineText) (i := .iconst 1) (n := 1) ((TL_Law_machineText_2 218 (by omega)).trans (lk_head rfl))).trans rfl
theorem i_Law_machineText_219 : opAt m_Law_machineText 219 = sCm .ne 226 222 := (opAt_of (M := m_Law_machineText) (i := .if_icmp .ne 7) (n := 3) ((TL_Law_machineText_2 219 (by omega)).trans (lk_head rfl))).trans rfl
theorem i_Law_machineText_222 : opAt m_Law_machineText 222 = sPush (.int (Int32.ofInt (-1))) 223 := (opAt_of (M := m_Law_machineText) (i := .iconst (-1)) (n := 1) ((TL_Law_machineText_2 222 (by omega)).trans (lk_head rfl))).trans rfl
theorem i_Law_machineText_223 : opAt m_Law_machineText 223 = sGo 277 := (opAt_of (M := m_Law_machineText) (i := .goto 54) (n := 3) ((TL_Law_machineText_2 223 (by omega)).trans (lk_head rfl))).trans rfl
theorem i_Law_machineText_226 : opAt m_Law_machineText 226 = sAld 2 227 := (opAt_of (M := m_Law_machineText) (i := .aload_n 2) (n := 1) ((TL_Law_machineText_2 226 (by omega)).trans (lk_head rfl))).trans rfl
theorem i_Law_machineText_227 : opAt m_Law_machineText 227 = sIld 7 229 := (opAt_of (M := m_Law_machineText) (i := .iload 7) (n := 2) ((TL_Law_machineText_2 227 (by omega)).trans (lk_head rfl))).trans rfl
theorem i_Law_machineText_229 : opAt m_Law_machineText 229 = sIal 230 := (opAt_of (M := m_Law_machineText) (i := .iaload) (n := 1) ((TL_Law_machineText_2 229 (by omega)).trans (lk_head rfl))).trans rfl
theorem i_Law_machineText_230 : opAt m_Law_machineText 230 = sPush (.int (Int32.ofInt 4)) 231 := (opAt_of (M := m_Law_machineText) (i := .iconst 4) (n := 1) ((TL_Law_machineText_2 230 (by omega)).trans (lk_head rfl))).trans rfl
theorem i_Law_machineText_231 : opAt m_Law_machineText 231 = sCm .ne 263 234 := (opAt_of (M := m_Law_machineText) (i := .if_icmp .ne 32) (n := 3) ((TL_Law_machineText_2 231 (by omega)).trans (lk_head rfl))).trans rfl
theorem i_Law_machineText_234 : opAt m_Law_machineText 234 = sIld 6 236 := (opAt_of (M := m_Law_machineText) (i := .iload 6) (n := 2) ((TL_Law_machineText_2 234 (by omega)).trans (lk_head rfl))).trans rfl
theorem i_Law_machineText_236 : opAt m_Law_machineText 236 = sPush (.int (Int8.ofInt 11).toInt32) 238 := (opAt_of (M := m_Law_machineText) (i := .bipush 11) (n := 2) ((TL_Law_machineText_2 236 (by omega)).trans (lk_head rfl))).trans rfl
theorem i_Law_machineText_238 : opAt m_Law_machineText 238 = sBI (fun x y => x >>> (y &&& 31)) 239 := (opAt_of (M := m_Law_machineText) (i := .ishr) (n := 1) ((TL_Law_machineText_2 238 (by omega)).trans (lk_head rfl))).trans rfl
theorem i_Law_machineText_239 : opAt m_Law_machineText 239 = sIld 6 241 := (opAt_of (M := m_Law_machineText) (i := .iload 6) (n := 2) ((TL_Law_machineText_2 239 (by omega)).trans (lk_head rfl))).trans rfl
theorem i_Law_machineText_241 : opAt m_Law_machineText 241 = sPush (.int (Int8.ofInt 22).toInt32) 243 := (opAt_of (M := m_Law_machineText) (i := .bipush 22) (n := 2) ((TL_Law_machineText_2 241 (by omega)).trans (lk_head rfl))).trans rfl
theorem i_Law_machineText_243 : opAt m_Law_machineText 243 = sBI (fun x y => x >>> (y &&& 31)) 244 := (opAt_of (M := m_Law_machineText) (i := .ishr) (n := 1) ((TL_Law_machineText_2 243 (by omega)).trans (lk_head rfl))).trans rfl
theorem i_Law_machineText_244 : opAt m_Law_machineText 244 = sPush (.int (Int32.ofInt 2)) 245 := (opAt_of (M := m_Law_machineText) (i := .iconst 2) (n := 1) ((TL_Law_machineText_2 244 (by omega)).trans (lk_head rfl))).trans rfl
theorem i_Law_machineText_245 : opAt m_Law_machineText 245 = sSta m_Law_at 0 2 248 := (opAt_of (M := m_Law_machineText) (i := .invokestatic 14) (n := 3) ((TL_Law_machineText_2 245 (by omega)).trans (lk_head rfl))).trans rfl
theorem i_Law_machineText_248 : opAt m_Law_machineText 248 = sIf .ne 256 251 := (opAt_of (M := m_Law_machineText) (i := .ifCond .ne 8) (n := 3) ((TL_Law_machineText_2 248 (by omega)).trans (lk_head rfl))).trans rfl
theorem i_Law_machineText_251 : opAt m_Law_machineText 251 = sPush (.int (Int8.ofInt 10).toInt32) 253 := (opAt_of (M := m_Law_machineText) (i := .bipush 10) (n := 2) ((TL_Law_machineText_2 251 (by omega)).trans (lk_head rfl))).trans rfl
theorem i_Law_machineText_253 : opAt m_Law_machineText 253 = sGo 257 := (opAt_of (M := m_Law_machineText) (i := .goto 4) (n := 3) ((TL_Law_machineText_2 253 (by omega)).trans (lk_head rfl))).trans rfl
theorem i_Law_machineText_256 : opAt m_Law_machineText 256 = sPush (.int (Int32.ofInt 3)) 257 := (opAt_of (M := m_Law_machineText) (i := .iconst 3) (n := 1) ((TL_Law_machineText_2 256 (by omega)).trans (lk_head rfl))).trans rfl
theorem i_Law_machineText_257 : opAt m_Law_machineText 257 = sSta m_Law_at 0 2 260 := (opAt_of (M := m_Law_machineText) (i := .invokestatic 14) (n := 3) ((TL_Law_machineText_2 257 (by omega)).trans (lk_head rfl))).trans rfl
theorem i_Law_machineText_260 : opAt m_Law_machineText 260 = sGo 277 := (opAt_of (M := m_Law_machineText) (i := .goto 17) (n := 3) ((TL_Law_machineText_2 260 (by omega)).trans (lk_head rfl))).trans rfl
theorem i_Law_machineText_263 : opAt m_Law_machineText 263 = sIld 6 265 := (opAt_of (M := m_Law_machineText) (i := .iload 6) (n := 2) ((TL_Law_machineText_2 263 (by omega)).trans (lk_head rfl))).trans rfl
theorem i_Law_machineText_265 : opAt m_Law_machineText 265 = sPush (.int (Int8.ofInt 11).toInt32) 267 := (opAt_of (M := m_Law_machineText) (i := .bipush 11) (n := 2) ((TL_Law_machineText_2 265 (by omega)).trans (lk_head rfl))).trans rfl
theorem i_Law_machineText_267 : opAt m_Law_machineText 267 = sBI (fun x y => x >>> (y &&& 31)) 268 := (opAt_of (M := m_Law_machineText) (i := .ishr) (n := 1) ((TL_Law_machineText_2 267 (by omega)).trans (lk_head rfl))).trans rfl
theorem i_Law_machineText_268 : opAt m_Law_machineText 268 = sAld 2 269 := (opAt_of (M := m_Law_machineText) (i := .aload_n 2) (n := 1) ((TL_Law_machineText_2 268 (by omega)).trans (lk_head rfl))).trans rfl
theorem i_Law_machineText_269 : opAt m_Law_machineText 269 = sIld 7 271 := (opAt_of (M := m_Law_machineText) (i := .iload 7) (n := 2) ((TL_Law_machineText_2 269 (by omega)).trans (lk_head rfl))).trans rfl
theorem i_Law_machineText_271 : opAt m_Law_machineText 271 = sPush (.int (Int32.ofInt 2)) 272 := (opAt_of (M := m_Law_machineText) (i := .iconst 2) (n := 1) ((TL_Law_machineText_2 271 (by omega)).trans (lk_head rfl))).trans rfl
theorem i_Law_machineText_272 : opAt m_Law_machineText 272 = sBI (fun x y => x + y) 273 := (opAt_of (M := m_Law_machineText) (i := .iadd) (n := 1) ((TL_Law_machineText_2 272 (by omega)).trans (lk_head rfl))).trans rfl
theorem i_Law_machineText_273 : opAt m_Law_machineText 273 = sIal 274 := (opAt_of (M := m_Law_machineText) (i := .iaload) (n := 1) ((TL_Law_machineText_2 273 (by omega)).trans (lk_head rfl))).trans rfl
theorem i_Law_machineText_274 : opAt m_Law_machineText 274 = sSta m_Law_at 0 2 277 := (opAt_of (M := m_Law_machineText) (i := .invokestatic 14) (n := 3) ((TL_Law_machineText_2 274 (by omega)).trans (lk_head rfl))).trans rfl
theorem i_Law_machineText_277 : opAt m_Law_machineText 277 = sIas 278 := (opAt_of (M := m_Law_machineText) (i := .iastore) (n := 1) ((TL_Law_machineText_2 277 (by omega)).trans (lk_head rfl))).trans rfl
theorem i_Law_machineText_278 : opAt m_Law_machineText 278 = sIld 5 280 := (opAt_of (M := m_Law_machineText) (i := .iload 5) (n := 2) ((TL_Law_machineText_2 278 (by omega)).trans (lk_head rfl))).trans rfl
theorem i_Law_machineText_280 : opAt m_Law_machineText 280 = sIf .le 292 283 := (opAt_of (M := m_Law_machineText) (i := .ifCond .le 12) (n := 3) ((TL_Law_machineText_2 280 (by omega)).trans (lk_head rfl))).trans rfl
theorem i_Law_machineText_283 : opAt m_Law_machineText 283 = sAld 3 284 := (opAt_of (M := m_Law_machineText) (i := .aload_n 3) (n := 1) ((TL_Law_machineText_2 283 (by omega)).trans (lk_head rfl))).trans rfl
theorem i_Law_machineText_284 : opAt m_Law_machineText 284 = sIld 4 286 := (opAt_of (M := m_Law_machineText) (i := .iload 4) (n := 2) ((TL_Law_machineText_2 284 (by omega)).trans (lk_head rfl))).trans rfl
theorem i_Law_machineText_286 : opAt m_Law_machineText 286 = sInc 4 1 289 := (opAt_of (M := m_Law_machineText) (i := .iinc 4 1) (n := 3) ((TL_Law_machineText_2 286 (by omega)).trans (lk_head rfl))).trans rfl
theorem i_Law_machineText_289 : opAt m_Law_machineText 289 = sPush (.int (Int8.ofInt 44).toInt32) 291 := (opAt_of (M := m_Law_machineText) (i := .bipush 44) (n := 2) ((TL_Law_machineText_2 289 (by omega)).trans (lk_head rfl))).trans rfl
theorem i_Law_machineText_291 : opAt m_Law_machineText 291 = sIas 292 := (opAt_of (M := m_Law_machineText) (i := .iastore) (n := 1) ((TL_Law_machineText_2 291 (by omega)).trans (lk_head rfl))).trans rfl
theorem i_Law_machineText_292 : opAt m_Law_machineText 292 = sAld 3 293 := (opAt_of (M := m_Law_machineText) (i := .aload_n 3) (n := 1) ((TL_Law_machineText_2 292 (by omega)).trans (lk_head rfl))).trans rfl
theorem i_Law_machineText_293 : opAt m_Law_machineText 293 = sIld 4 295 := (opAt_of (M := m_Law_machineText) (i := .iload 4) (n := 2) ((TL_Law_machineText_2 293 (by omega)).trans (lk_head rfl))).trans rfl
theorem i_Law_machineText_295 : opAt m_Law_machineText 295 = sInc 4 1 298 := (opAt_of (M := m_Law_machineText) (i := .iinc 4 1) (n := 3) ((TL_Law_machineText_2 295 (by omega)).trans (lk_head rfl))).trans rfl
theorem i_Law_machineText_298 : opAt m_Law_machineText 298 = sAld 2 299 := (opAt_of (M := m_Law_machineText) (i := .aload_n 2) (n := 1) ((TL_Law_machineText_2 298 (by omega)).trans (lk_head rfl))).trans rfl
theorem i_Law_machineText_299 : opAt m_Law_machineText 299 = sIld 7 301 := (opAt_of (M := m_Law_machineText) (i := .iload 7) (n := 2) ((TL_Law_machineText_2 299 (by omega)).trans (lk_head rfl))).trans rfl
theorem i_Law_machineText_301 : opAt m_Law_machineText 301 = sIal 302 := (opAt_of (M := m_Law_machineText) (i := .iaload) (n := 1) ((TL_Law_machineText_2 301 (by omega)).trans (lk_head rfl))).trans rfl
theorem i_Law_machineText_302 : opAt m_Law_machineText 302 = sPush (.int (Int32.ofInt 1)) 303 := (opAt_of (M := m_Law_machineText) (i := .iconst 1) (n := 1) ((TL_Law_machineText_2 302 (by omega)).trans (lk_head rfl))).trans rfl
theorem i_Law_machineText_303 : opAt m_Law_machineText 303 = sCm .ne 311 306 := (opAt_of (M := m_Law_machineText) (i := .if_icmp .ne 8) (n := 3) ((TL_Law_machineText_2 303 (by omega)).trans (lk_head rfl))).trans rfl
theorem i_Law_machineText_306 : opAt m_Law_machineText 306 = sPush (.int (Int8.ofInt 103).toInt32) 308 := (opAt_of (M := m_Law_machineText) (i := .bipush 103) (n := 2) ((TL_Law_machineText_2 306 (by omega)).trans (lk_head rfl))).trans rfl
theorem i_Law_machineText_308 : opAt m_Law_machineText 308 = sGo 339 := (opAt_of (M := m_Law_machineText) (i := .goto 31) (n := 3) ((TL_Law_machineText_2 308 (by omega)).trans (lk_head rfl))).trans rfl
theorem i_Law_machineText_311 : opAt m_Law_machineText 311 = sAld 2 312 := (opAt_of (M := m_Law_machineText) (i := .aload_n 2) (n := 1) ((TL_Law_machineText_2 311 (by omega)).trans (lk_head rfl))).trans rfl
theorem i_Law_machineText_312 : opAt m_Law_machineText 312 = sIld 7 314 := (opAt_of (M := m_Law_machineText) (i := .iload 7) (n := 2) ((TL_Law_machineText_2 312 (by omega)).trans (lk_head rfl))).trans rfl
theorem i_Law_machineText_314 : opAt m_Law_machineText 314 = sIal 315 := (opAt_of (M := m_Law_machineText) (i := .iaload) (n := 1) ((TL_Law_machineText_2 314 (by omega)).trans (lk_head rfl))).trans rfl
theorem i_Law_machineText_315 : opAt m_Law_machineText 315 = sPush (.int (Int32.ofInt 2)) 316 := (opAt_of (M := m_Law_machineText) (i := .iconst 2) (n := 1) ((TL_Law_machineText_2 315 (by omega)).trans (lk_head rfl))).trans rfl
theorem i_Law_machineText_316 : opAt m_Law_machineText 316 = sCm .ne 324 319 := (opAt_of (M := m_Law_machineText) (i := .if_icmp .ne 8) (n := 3) ((TL_Law_machineText_3 316 (by omega)).trans (lk_head rfl))).trans rfl
theorem i_Law_machineText_319 : opAt m_Law_machineText 319 = sPush (.int (Int8.ofInt 114).toInt32) 321 := (opAt_of (M := m_Law_machineText) (i := .bipush 114) (n := 2) ((TL_Law_machineText_3 319 (by omega)).trans (lk_head rfl))).trans rfl
theorem i_Law_machineText_321 : opAt m_Law_machineText 321 = sGo 339 := (opAt_of (M := m_Law_machineText) (i := .goto 18) (n := 3) ((TL_Law_machineText_3 321 (by omega)).trans (lk_head rfl))).trans rfl
theorem i_Law_machineText_324 : opAt m_Law_machineText 324 = sAld 2 325 := (opAt_of (M := m_Law_machineText) (i := .aload_n 2) (n := 1) ((TL_Law_machineText_3 324 (by omega)).trans (lk_head rfl))).trans rfl
theorem i_Law_machineText_325 : opAt m_Law_machineText 325 = sIld 7 327 := (opAt_of (M := m_Law_machineText) (i := .iload 7) (n := 2) ((TL_Law_machineText_3 325 (by omega)).trans (lk_head rfl))).trans rfl
theorem i_Law_machineText_327 : opAt m_Law_machineText 327 = sIal 328 := (opAt_of (M := m_Law_machineText) (i := .iaload) (n := 1) ((TL_Law_machineText_3 327 (by omega)).trans (lk_head rfl))).trans rfl
theorem i_Law_machineText_328 : opAt m_Law_machineText 328 = sPush (.int (Int32.ofInt 3)) 329 := (opAt_of (M := m_Law_machineText) (i := .iconst 3) (n := 1) ((TL_Law_machineText_3 328 (by omega)).trans (lk_head rfl))).trans rfl
theorem i_Law_machineText_329 : opAt m_Law_machineText 329 = sCm .ne 337 332 := (opAt_of (M := m_Law_machineText) (i := .if_icmp .ne 8) (n := 3) ((TL_Law_machineText_3 329 (by omega)).trans (lk_head rfl))).trans rfl
theorem i_Law_machineText_332 : opAt m_Law_machineText 332 = sPush (.int (Int8.ofInt 116).toInt32) 334 := (opAt_of (M := m_Law_machineText) (i := .bipush 116) (n := 2) ((TL_Law_machineText_3 332 (by omega)).trans (lk_head rfl))).trans rfl
theorem i_Law_machineText_334 : opAt m_Law_machineText 334 = sGo 339 := (opAt_of (M := m_Law_machineText) (i := .goto 5) (n := 3) ((TL_Law_machineText_3 334 (by omega)).trans (lk_head rfl))).trans rfl
theorem i_Law_machineText_337 : opAt m_Law_machineText 337 = sPush (.int (Int8.ofInt 119).toInt32) 339 := (opAt_of (M := m_Law_machineText) (i := .bipush 119) (n := 2) ((TL_Law_machineText_3 337 (by omega)).trans (lk_head rfl))).trans rfl
theorem i_Law_machineText_339 : opAt m_Law_machineText 339 = sIas 340 := (opAt_of (M := m_Law_machineText) (i := .iastore) (n := 1) ((TL_Law_machineText_3 339 (by omega)).trans (lk_head rfl))).trans rfl
theorem i_Law_machineText_340 : opAt m_Law_machineText 340 = sAld 3 341 := (opAt_of (M := m_Law_machineText) (i := .aload_n 3) (n := 1) ((TL_Law_machineText_3 340 (by omega)).trans (lk_head rfl))).trans rfl
theorem i_Law_machineText_341 : opAt m_Law_machineText 341 = sIld 4 343 := (opAt_of (M := m_Law_machineText) (i := .iload 4) (n := 2) ((TL_Law_machineText_3 341 (by omega)).trans (lk_head rfl))).trans rfl
theorem i_Law_machineText_343 : opAt m_Law_machineText 343 = sInc 4 1 346 := (opAt_of (M := m_Law_machineText) (i := .iinc 4 1) (n := 3) ((TL_Law_machineText_3 343 (by omega)).trans (lk_head rfl))).trans rfl
theorem i_Law_machineText_346 : opAt m_Law_machineText 346 = sPush (.int (Int8.ofInt 48).toInt32) 348 := (opAt_of (M := m_Law_machineText) (i := .bipush 48) (n := 2) ((TL_Law_machineText_3 346 (by omega)).trans (lk_head rfl))).trans rfl
theorem i_Law_machineText_348 : opAt m_Law_machineText 348 = sAld 2 349 := (opAt_of (M := m_Law_machineText) (i := .aload_n 2) (n := 1) ((TL_Law_machineText_3 348 (by omega)).trans (lk_head rfl))).trans rfl
theorem i_Law_machineText_349 : opAt m_Law_machineText 349 = sIld 7 351 := (opAt_of (M := m_Law_machineText) (i := .iload 7) (n := 2) ((TL_Law_machineText_3 349 (by omega)).trans (lk_head rfl))).trans rfl
theorem i_Law_machineText_351 : opAt m_Law_machineText 351 = sPush (.int (Int32.ofInt 1)) 352 := (opAt_of (M := m_Law_machineText) (i := .iconst 1) (n := 1) ((TL_Law_machineText_3 351 (by omega)).trans (lk_head rfl))).trans rfl
theorem i_Law_machineText_352 : opAt m_Law_machineText 352 = sBI (fun x y => x + y) 353 := (opAt_of (M := m_Law_machineText) (i := .iadd) (n := 1) ((TL_Law_machineText_3 352 (by omega)).trans (lk_head rfl))).trans rfl
theorem i_Law_machineText_353 : opAt m_Law_machineText 353 = sIal 354 := (opAt_of (M := m_Law_machineText) (i := .iaload) (n := 1) ((TL_Law_machineText_3 353 (by omega)).trans (lk_head rfl))).trans rfl
theorem i_Law_machineText_354 : opAt m_Law_machineText 354 = sBI (fun x y => x + y) 355 := (opAt_of (M := m_Law_machineText) (i := .iadd) (n := 1) ((TL_Law_machineText_3 354 (by omega)).trans (lk_head rfl))).trans rfl
theorem i_Law_machineText_355 : opAt m_Law_machineText 355 = sIas 356 := (opAt_of (M := m_Law_machineText) (i := .iastore) (n := 1) ((TL_Law_machineText_3 355 (by omega)).trans (lk_head rfl))).trans rfl
theorem i_Law_machineText_356 : opAt m_Law_machineText 356 = sAld 2 357 := (opAt_of (M := m_Law_machineText) (i := .aload_n 2) (n := 1) ((TL_Law_machineText_3 356 (by omega)).trans (lk_head rfl))).trans rfl
theorem i_Law_machineText_357 : opAt m_Law_machineText 357 = sIld 7 359 := (opAt_of (M := m_Law_machineText) (i := .iload 7) (n := 2) ((TL_Law_machineText_3 357 (by omega)).trans (lk_head rfl))).trans rfl
theorem i_Law_machineText_359 : opAt m_Law_machineText 359 = sIal 360 := (opAt_of (M := m_Law_machineText) (i := .iaload) (n := 1) ((TL_Law_machineText_3 359 (by omega)).trans (lk_head rfl))).trans rfl
theorem i_Law_machineText_360 : opAt m_Law_machineText 360 = sPush (.int (Int32.ofInt 1)) 361 := (opAt_of (M := m_Law_machineText) (i := .iconst 1) (n := 1) ((TL_Law_machineText_3 360 (by omega)).trans (lk_head rfl))).trans rfl
theorem i_Law_machineText_361 : opAt m_Law_machineText 361 = sCm .ne 367 364 := (opAt_of (M := m_Law_machineText) (i := .if_icmp .ne 6) (n := 3) ((TL_Law_machineText_3 361 (by omega)).trans (lk_head rfl))).trans rfl
theorem i_Law_machineText_364 : opAt m_Law_machineText 364 = sGo 413 := (opAt_of (M := m_Law_machineText) (i := .goto 49) (n := 3) ((TL_Law_machineText_3 364 (by omega)).trans (lk_head rfl))).trans rfl
theorem i_Law_machineText_367 : opAt m_Law_machineText 367 = sAld 3 368 := (opAt_of (M := m_Law_machineText) (i := .aload_n 3) (n := 1) ((TL_Law_machineText_3 367 (by omega)).trans (lk_head rfl))).trans rfl
theorem i_Law_machineText_368 : opAt m_Law_machineText 368 = sIld 4 370 := (opAt_of (M := m_Law_machineText) (i := .iload 4) (n := 2) ((TL_Law_machineText_3 368 (by omega)).trans (lk_head rfl))).trans rfl
theorem i_Law_machineText_370 : opAt m_Law_machineText 370 = sInc 4 1 373 := (opAt_of (M := m_Law_machineText) (i := .iinc 4 1) (n := 3) ((TL_Law_machineText_3 370 (by omega)).trans (lk_head rfl))).trans rfl
theorem i_Law_machineText_373 : opAt m_Law_machineText 373 = sPush (.int (Int8.ofInt 111).toInt32) 375 := (opAt_of (M := m_Law_machineText) (i := .bipush 111) (n := 2) ((TL_Law_machineText_3 373 (by omega)).trans (lk_head rfl))).trans rfl
theorem i_Law_machineText_375 : opAt m_Law_machineText 375 = sIas 376 := (opAt_of (M := m_Law_machineText) (i := .iastore) (n := 1) ((TL_Law_machineText_3 375 (by omega)).trans (lk_head rfl))).trans rfl
theorem i_Law_machineText_376 : opAt m_Law_machineText 376 = sAld 2 377 := (opAt_of (M := m_Law_machineText) (i := .aload_n 2) (n := 1) ((TL_Law_machineText_3 376 (by omega)).trans (lk_head rfl))).trans rfl
theorem i_Law_machineText_377 : opAt m_Law_machineText 377 = sIld 7 379 := (opAt_of (M := m_Law_machineText) (i := .iload 7) (n := 2) ((TL_Law_machineText_3 377 (by omega)).trans (lk_head rfl))).trans rfl
theorem i_Law_machineText_379 : opAt m_Law_machineText 379 = sPush (.int (Int32.ofInt 2)) 380 := (opAt_of (M := m_Law_machineText) (i := .iconst 2) (n := 1) ((TL_Law_machineText_3 379 (by omega)).trans (lk_head rfl))).trans rfl
theorem i_Law_machineText_380 : opAt m_Law_machineText 380 = sBI (fun x y => x + y) 381 := (opAt_of (M := m_Law_machineText) (i := .iadd) (n := 1) ((TL_Law_machineText_3 380 (by omega)).trans (lk_head rfl))).trans rfl
theorem i_Law_machineText_381 : opAt m_Law_machineText 381 = sIal 382 := (opAt_of (M := m_Law_machineText) (i := .iaload) (n := 1) ((TL_Law_machineText_3 381 (by omega)).trans (lk_head rfl))).trans rfl
theorem i_Law_machineText_382 : opAt m_Law_machineText 382 = sAld 3 383 := (opAt_of (M := m_Law_machineText) (i := .aload_n 3) (n := 1) ((TL_Law_machineText_3 382 (by omega)).trans (lk_head rfl))).trans rfl
theorem i_Law_machineText_383 : opAt m_Law_machineText 383 = sIld 4 385 := (opAt_of (M := m_Law_machineText) (i := .iload 4) (n := 2) ((TL_Law_machineText_3 383 (by omega)).trans (lk_head rfl))).trans rfl
theorem i_Law_machineText_385 : opAt m_Law_machineText 385 = sSta m_Law_number 0 3 388 := (opAt_of (M := m_Law_machineText) (i := .invokestatic 18) (n := 3) ((TL_Law_machineText_3 385 (by omega)).trans (lk_head rfl))).trans rfl
theorem i_Law_machineText_388 : opAt m_Law_machineText 388 = sIst 4 390 := (opAt_of (M := m_Law_machineText) (i := .istore 4) (n := 2) ((TL_Law_machineText_3 388 (by omega)).trans (lk_head rfl))).trans rfl
theorem i_Law_machineText_390 : opAt m_Law_machineText 390 = sAld 3 391 := (opAt_of (M := m_Law_machineText) (i := .aload_n 3) (n := 1) ((TL_Law_machineText_3 390 (by omega)).trans (lk_head rfl))).trans rfl
theorem i_Law_machineText_391 : opAt m_Law_machineText 391 = sIld 4 393 := (opAt_of (M := m_Law_machineText) (i := .iload 4) (n := 2) ((TL_Law_machineText_3 391 (by omega)).trans (lk_head rfl))).trans rfl
theorem i_Law_machineText_393 : opAt m_Law_machineText 393 = sInc 4 1 396 := (opAt_of (M := m_Law_machineText) (i := .iinc 4 1) (n := 3) ((TL_Law_machineText_3 393 (by omega)).trans (lk_head rfl))).trans rfl
theorem i_Law_machineText_396 : opAt m_Law_machineText 396 = sPush (.int (Int8.ofInt 112).toInt32) 398 := (opAt_of (M := m_Law_machineText) (i := .bipush 112) (n := 2) ((TL_Law_machineText_3 396 (by omega)).trans (lk_head rfl))).trans rfl
theorem i_Law_machineText_398 : opAt m_Law_machineText 398 = sIas 399 := (opAt_of (M := m_Law_machineText) (i := .iastore) (n := 1) ((TL_Law_machineText_3 398 (by omega)).trans (lk_head rfl))).trans rfl
theorem i_Law_machineText_399 : opAt m_Law_machineText 399 = sAld 2 400 := (opAt_of (M := m_Law_machineText) (i := .aload_n 2) (n := 1) ((TL_Law_machineText_3 399 (by omega)).trans (lk_head rfl))).trans rfl
theorem i_Law_machineText_400 : opAt m_Law_machineText 400 = sIld 7 402 := (opAt_of (M := m_Law_machineText) (i := .iload 7) (n := 2) ((TL_Law_machineText_3 400 (by omega)).trans (lk_head rfl))).trans rfl
theorem i_Law_machineText_402 : opAt m_Law_machineText 402 = sPush (.int (Int32.ofInt 3)) 403 := (opAt_of (M := m_Law_machineText) (i := .iconst 3) (n := 1) ((TL_Law_machineText_3 402 (by omega)).trans (lk_head rfl))).trans rfl
theorem i_Law_machineText_403 : opAt m_Law_machineText 403 = sBI (fun x y => x + y) 404 := (opAt_of (M := m_Law_machineText) (i := .iadd) (n := 1) ((TL_Law_machineText_3 403 (by omega)).trans (lk_head rfl))).trans rfl
theorem i_Law_machineText_404 : opAt m_Law_machineText 404 = sIal 405 := (opAt_of (M := m_Law_machineText) (i := .iaload) (n := 1) ((TL_Law_machineText_3 404 (by omega)).trans (lk_head rfl))).trans rfl
theorem i_Law_machineText_405 : opAt m_Law_machineText 405 = sAld 3 406 := (opAt_of (M := m_Law_machineText) (i := .aload_n 3) (n := 1) ((TL_Law_machineText_3 405 (by omega)).trans (lk_head rfl))).trans rfl
theorem i_Law_machineText_406 : opAt m_Law_machineText 406 = sIld 4 408 := (opAt_of (M := m_Law_machineText) (i := .iload 4) (n := 2) ((TL_Law_machineText_3 406 (by omega)).trans (lk_head rfl))).trans rfl
theorem i_Law_machineText_408 : opAt m_Law_machineText 408 = sSta m_Law_number 0 3 411 := (opAt_of (M := m_Law_machineText) (i := .invokestatic 18) (n := 3) ((TL_Law_machineText_3 408 (by omega)).trans (lk_head rfl))).trans rfl
theorem i_Law_machineText_411 : opAt m_Law_machineText 411 = sIst 4 413 := (opAt_of (M := m_Law_machineText) (i := .istore 4) (n := 2) ((TL_Law_machineText_3 411 (by omega)).trans (lk_head rfl))).trans rfl
theorem i_Law_machineText_413 : opAt m_Law_machineText 413 = sInc 5 1 416 := (opAt_of (M := m_Law_machineText) (i := .iinc 5 1) (n := 3) ((TL_Law_machineText_3 413 (by omega)).trans (lk_head rfl))).trans rfl
theorem i_Law_machineText_416 : opAt m_Law_machineText 416 = sGo 21 := (opAt_of (M := m_Law_machineText) (i := .goto (-395)) (n := 3) ((TL_Law_machineText_3 416 (by omega)).trans (lk_head rfl))).trans rfl
theorem i_Law_machineText_419 : opAt m_Law_machineText 419 = sIld 4 421 := (opAt_of (M := m_Law_machineText) (i := .iload 4) (n := 2) ((TL_Law_machineText_3 419 (by omega)).trans (lk_head rfl))).trans rfl
theorem i_Law_machineText_421 : opAt m_Law_machineText 421 = sIret .int := (opAt_of (M := m_Law_machineText) (i := .ireturn) (n := 1) ((TL_Law_machineText_4 421 (by omega)).trans (rfl))).trans rfl
theorem al_Law_rounds_0 : t_Law_rounds_0.all (fun q => decide (q.1 < 109)) = true := by decide +kernel
theorem al_Law_rounds_1 : t_Law_rounds_1.all (fun q => decide (q.1 < 218)) = true := by decide +kernel
theorem al_Law_rounds_2 : t_Law_rounds_2.all (fun q => decide (q.1 < 327)) = true := by decide +kernel
theorem al_Law_rounds_3 : t_Law_rounds_3.all (fun q => decide (q.1 < 444)) = true := by decide +kernel
theorem al_Law_rounds_4 : t_Law_rounds_4.all (fun q => decide (q.1 < 552)) = true := by decide +kernel
theorem al_Law_rounds_5 : t_Law_rounds_5.all (fun q => decide (q.1 < 670)) = true := by decide +kernel
theorem al_Law_rounds_6 : t_Law_rounds_6.all (fun q => decide (q.1 < 772)) = true := by decide +kernel
theorem TL_Law_rounds_0 (pc : Nat) : t_Law_rounds.lookup pc = (t_Law_rounds_0 ++ (t_Law_rounds_1 ++ (t_Law_rounds_2 ++ (t_Law_rounds_3 ++ (t_Law_rounds_4 ++ (t_Law_rounds_5 ++ (t_Law_rounds_6 ++ (t_Law_rounds_7)))))))).lookup pc := rfl
theorem TL_Law_rounds_1 (pc : Nat) (h : 109 ≤ pc) : t_Law_rounds.lookup pc = (t_Law_rounds_1 ++ (t_Law_rounds_2 ++ (t_Law_rounds_3 ++ (t_Law_rounds_4 ++ (t_Law_rounds_5 ++ (t_Law_rounds_6 ++ (t_Law_rounds_7))))))).lookup pc := (TL_Law_rounds_0 pc).trans (lk_app (lk_none 109 h al_Law_rounds_0))
theorem TL_Law_rounds_2 (pc : Nat) (h : 218 ≤ pc) : t_Law_rounds.lookup pc = (t_Law_rounds_2 ++ (t_Law_rounds_3 ++ (t_Law_rounds_4 ++ (t_Law_rounds_5 ++ (t_Law_rounds_6 ++ (t_Law_rounds_7)))))).lookup pc := (TL_Law_rounds_1 pc (by omega)).trans (lk_app (lk_none 218 h al_Law_rounds_1))
theorem TL_Law_rounds_3 (pc : Nat) (h : 327 ≤ pc) : t_Law_rounds.lookup pc = (t_Law_rounds_3 ++ (t_Law_rounds_4 ++ (t_Law_rounds_5 ++ (t_Law_rounds_6 ++ (t_Law_rounds_7))))).lookup pc := (TL_Law_rounds_2 pc (by omega)).trans (lk_app (lk_none 327 h al_Law_rounds_2))
theorem TL_Law_rounds_4 (pc : Nat) (h : 444 ≤ pc) : t_Law_rounds.lookup pc = (t_Law_rounds_4 ++ (t_Law_rounds_5 ++ (t_Law_rounds_6 ++ (t_Law_rounds_7)))).lookup pc := (TL_Law_rounds_3 pc (by omega)).trans (lk_app (lk_none 444 h al_Law_rounds_3))
theorem TL_Law_rounds_5 (pc : Nat) (h : 552 ≤ pc) : t_Law_rounds.lookup pc = (t_Law_rounds_5 ++ (t_Law_rounds_6 ++ (t_Law_rounds_7))).lookup pc := (TL_Law_rounds_4 pc (by omega)).trans (lk_app (lk_none 552 h al_Law_rounds_4))
theorem TL_Law_rounds_6 (pc : Nat) (h : 670 ≤ pc) : t_Law_rounds.lookup pc = (t_Law_rounds_6 ++ (t_Law_rounds_7)).lookup pc := (TL_Law_rounds_5 pc (by omega)).trans (lk_app (lk_none 670 h al_Law_rounds_5))
theorem TL_Law_rounds_7 (pc : Nat) (h : 772 ≤ pc) : t_Law_rounds.lookup pc = (t_Law_rounds_7).lookup pc := (TL_Law_rounds_6 pc (by omega)).trans (lk_app (lk_none 772 h al_Law_rounds_6))
theorem i_Law_rounds_0 : opAt m_Law_rounds 0 = sAld 1 1 := (opAt_of (M := m_Law_rounds) (i := .aload_n 1) (n := 1) ((TL_Law_rounds_0 0).trans (lk_head rfl))).trans rfl
theorem i_Law_rounds_1 : opAt m_Law_rounds 1 = sPush (.int (Int8.ofInt 16).toInt32) 3 := (opAt_of (M := m_Law_rounds) (i := .bipush 16) (n := 2) ((TL_Law_rounds_0 1).trans (lk_head rfl))).trans rfl
theorem i_Law_rounds_3 : opAt m_Law_rounds 3 = sIld 3 4 := (opAt_of (M := m_Law_rounds) (i := .iload_n 3) (n := 1) ((TL_Law_rounds_0 3).trans (lk_head rfl))).trans rfl
theorem i_Law_rounds_4 : opAt m_Law_rounds 4 = sBI (fun x y => x + y) 5 := (opAt_of (M := m_Law_rounds) (i := .iadd) (n := 1) ((TL_Law_rounds_0 4).trans (lk_head rfl))).trans rfl
theorem i_Law_rounds_5 : opAt m_Law_rounds 5 = sSta m_Law_cell 0 2 8 := (opAt_of (M := m_Law_rounds) (i := .invokestatic 8) (n := 3) ((TL_Law_rounds_0 5).trans (lk_head rfl))).trans rfl
theorem i_Law_rounds_8 : opAt m_Law_rounds 8 = sIst 4 10 := (opAt_of (M := m_Law_rounds) (i := .istore 4) (n := 2) ((TL_Law_rounds_0 8).trans (lk_head rfl))).trans rfl
theorem i_Law_rounds_10 : opAt m_Law_rounds 10 = sIld 4 12 := (opAt_of (M := m_Law_rounds) (i := .iload 4) (n := 2) ((TL_Law_rounds_0 10).trans (lk_head rfl))).trans rfl
theorem i_Law_rounds_12 : opAt m_Law_rounds 12 = sIld 4 14 := (opAt_of (M := m_Law_rounds) (i := .iload 4) (n := 2) ((TL_Law_rounds_0 12).trans (lk_head rfl))).trans rfl
theorem i_Law_rounds_14 : opAt m_Law_rounds 14 = sPush (.int (Int8.ofInt 20).toInt32) 16 := (opAt_of (M := m_Law_rounds) (i := .bipush 20) (n := 2) ((TL_Law_rounds_0 14).trans (lk_head rfl))).trans rfl
theorem i_Law_rounds_16 : opAt m_Law_rounds 16 = sBI (fun x y => x >>> (y &&& 31)) 17 := (opAt_of (M := m_Law_rounds) (i := .ishr) (n := 1) ((TL_Law_rounds_0 16).trans (lk_head rfl))).trans rfl
theorem i_Law_rounds_17 : opAt m_Law_rounds 17 = sPush (.int (Int32.ofInt 2)) 18 := (opAt_of (M := m_Law_rounds) (i := .iconst 2) (n := 1) ((TL_Law_rounds_0 17).trans (lk_head rfl))).trans rfl
theorem i_Law_rounds_18 : opAt m_Law_rounds 18 = sSta m_Law_at 0 2 21 := (opAt_of (M := m_Law_rounds) (i := .invokestatic 14) (n := 3) ((TL_Law_rounds_0 18).trans (lk_head rfl))).trans rfl
theorem i_Law_rounds_21 : opAt m_Law_rounds 21 = sIf .ne 29 24 := (opAt_of (M := m_Law_rounds) (i := .ifCond .ne 8) (n := 3) ((TL_Law_rounds_0 21).trans (lk_head rfl))).trans rfl
theorem i_Law_rounds_24 : opAt m_Law_rounds 24 = sPush (.int (Int8.ofInt 8).toInt32) 26 := (opAt_of (M := m_Law_rounds) (i := .bipush 8) (n := 2) ((TL_Law_rounds_0 24).trans (lk_head rfl))).trans rfl
theorem i_Law_rounds_26 : opAt m_Law_rounds 26 = sGo 30 := (opAt_of (M := m_Law_rounds) (i := .goto 4) (n := 3) ((TL_Law_rounds_0 26).trans (lk_head rfl))).trans rfl
theorem i_Law_rounds_29 : opAt m_Law_rounds 29 = sPush (.int (Int32.ofInt 3)) 30 := (opAt_of (M := m_Law_rounds) (i := .iconst 3) (n := 1) ((TL_Law_rounds_0 29).trans (lk_head rfl))).trans rfl
theorem i_Law_rounds_30 : opAt m_Law_rounds 30 = sSta m_Law_at 0 2 33 := (opAt_of (M := m_Law_rounds) (i := .invokestatic 14) (n := 3) ((TL_Law_rounds_0 30).trans (lk_head rfl))).trans rfl
theorem i_Law_rounds_33 : opAt m_Law_rounds 33 = sIst 5 35 := (opAt_of (M := m_Law_rounds) (i := .istore 5) (n := 2) ((TL_Law_rounds_0 33).trans (lk_head rfl))).trans rfl
theorem i_Law_rounds_35 : opAt m_Law_rounds 35 = sIld 4 37 := (opAt_of (M := m_Law_rounds) (i := .iload 4) (n := 2) ((TL_Law_rounds_0 35).trans (lk_head rfl))).trans rfl
theorem i_Law_rounds_37 : opAt m_Law_rounds 37 = sPush (.int (Int32.ofInt 3)) 38 := (opAt_of (M := m_Law_rounds) (i := .iconst 3) (n := 1) ((TL_Law_rounds_0 37).trans (lk_head rfl))).trans rfl
theorem i_Law_rounds_38 : opAt m_Law_rounds 38 = sBI (fun x y => x >>> (y &&& 31)) 39 := (opAt_of (M := m_Law_rounds) (i := .ishr) (n := 1) ((TL_Law_rounds_0 38).trans (lk_head rfl))).trans rfl
theorem i_Law_rounds_39 : opAt m_Law_rounds 39 = sPush (.int (Int32.ofInt 3)) 40 := (opAt_of (M := m_Law_rounds) (i := .iconst 3) (n := 1) ((TL_Law_rounds_0 39).trans (lk_head rfl))).trans rfl
theorem i_Law_rounds_40 : opAt m_Law_rounds 40 = sSta m_Law_at 0 2 43 := (opAt_of (M := m_Law_rounds) (i := .invokestatic 14) (n := 3) ((TL_Law_rounds_0 40).trans (lk_head rfl))).trans rfl
theorem i_Law_rounds_43 : opAt m_Law_rounds 43 = sIst 6 45 := (opAt_of (M := m_Law_rounds) (i := .istore 6) (n := 2) ((TL_Law_rounds_0 43).trans (lk_head rfl))).trans rfl
theorem i_Law_rounds_45 : opAt m_Law_rounds 45 = sPush (.int (Int32.ofInt 0)) 46 := (opAt_of (M := m_Law_rounds) (i := .iconst 0) (n := 1) ((TL_Law_rounds_0 45).trans (lk_head rfl))).trans rfl
theorem i_Law_rounds_46 : opAt m_Law_rounds 46 = sIst 7 48 := (opAt_of (M := m_Law_rounds) (i := .istore 7) (n := 2) ((TL_Law_rounds_0 46).trans (lk_head rfl))).trans rfl
theorem i_Law_rounds_48 : opAt m_Law_rounds 48 = sPush (.int (Int32.ofInt 0)) 49 := (opAt_of (M := m_Law_rounds) (i := .iconst 0) (n := 1) ((TL_Law_rounds_0 48).trans (lk_head rfl))).trans rfl
theorem i_Law_rounds_49 : opAt m_Law_rounds 49 = sIst 8 51 := (opAt_of (M := m_Law_rounds) (i := .istore 8) (n := 2) ((TL_Law_rounds_0 49).trans (lk_head rfl))).trans rfl
theorem i_Law_rounds_51 : opAt m_Law_rounds 51 = sPush (.int (Int32.ofInt 0)) 52 := (opAt_of (M := m_Law_rounds) (i := .iconst 0) (n := 1) ((TL_Law_rounds_0 51).trans (lk_head rfl))).trans rfl
theorem i_Law_rounds_52 : opAt m_Law_rounds 52 = sIst 9 54 := (opAt_of (M := m_Law_rounds) (i := .istore 9) (n := 2) ((TL_Law_rounds_0 52).trans (lk_head rfl))).trans rfl
theorem i_Law_rounds_54 : opAt m_Law_rounds 54 = sIld 9 56 := (opAt_of (M := m_Law_rounds) (i := .iload 9) (n := 2) ((TL_Law_rounds_0 54).trans (lk_head rfl))).trans rfl
theorem i_Law_rounds_56 : opAt m_Law_rounds 56 = sAld 2 57 := (opAt_of (M := m_Law_rounds) (i := .aload_n 2) (n := 1) ((TL_Law_rounds_0 56).trans (lk_head rfl))).trans rfl
theorem i_Law_rounds_57 : opAt m_Law_rounds 57 = sPush (.int (Int8.ofInt 48).toInt32) 59 := (opAt_of (M := m_Law_rounds) (i := .bipush 48) (n := 2) ((TL_Law_rounds_0 57).trans (lk_head rfl))).trans rfl
theorem i_Law_rounds_59 : opAt m_Law_rounds 59 = sIal 60 := (opAt_of (M := m_Law_rounds) (i := .iaload) (n := 1) ((TL_Law_rounds_0 59).trans (lk_head rfl))).trans rfl
theorem i_Law_rounds_60 : opAt m_Law_rounds 60 = sCm .ge 88 63 := (opAt_of (M := m_Law_rounds) (i := .if_icmp .ge 28) (n := 3) ((TL_Law_rounds_0 60).trans (lk_head rfl))).trans rfl
theorem i_Law_rounds_63 : opAt m_Law_rounds 63 = sIld 8 65 := (opAt_of (M := m_Law_rounds) (i := .iload 8) (n := 2) ((TL_Law_rounds_0 63).trans (lk_head rfl))).trans rfl
theorem i_Law_rounds_65 : opAt m_Law_rounds 65 = sAld 2 66 := (opAt_of (M := m_Law_rounds) (i := .aload_n 2) (n := 1) ((TL_Law_rounds_0 65).trans (lk_head rfl))).trans rfl
theorem i_Law_rounds_66 : opAt m_Law_rounds 66 = sIld 9 68 := (opAt_of (M := m_Law_rounds) (i := .iload 9) (n := 2) ((TL_Law_rounds_0 66).trans (lk_head rfl))).trans rfl
theorem i_Law_rounds_68 : opAt m_Law_rounds 68 = sIal 69 := (opAt_of (M := m_Law_rounds) (i := .iaload) (n := 1) ((TL_Law_rounds_0 68).trans (lk_head rfl))).trans rfl
theorem i_Law_rounds_69 : opAt m_Law_rounds 69 = sIld 6 71 := (opAt_of (M := m_Law_rounds) (i := .iload 6) (n := 2) ((TL_Law_rounds_0 69).trans (lk_head rfl))).trans rfl
theorem i_Law_rounds_71 : opAt m_Law_rounds 71 = sSta m_Law_marks 0 2 74 := (opAt_of (M := m_Law_rounds) (i := .invokestatic 39) (n := 3) ((TL_Law_rounds_0 71).trans (lk_head rfl))).trans rfl
theorem i_Law_rounds_74 : opAt m_Law_rounds 74 = sIld 5 76 := (opAt_of (M := m_Law_rounds) (i := .iload 5) (n := 2) ((TL_Law_rounds_0 74).trans (lk_head rfl))).trans rfl
theorem i_Law_rounds_76 : opAt m_Law_rounds 76 = sBI (fun x y => x >>> (y &&& 31)) 77 := (opAt_of (M := m_Law_rounds) (i := .ishr) (n := 1) ((TL_Law_rounds_0 76).trans (lk_head rfl))).trans rfl
theorem i_Law_rounds_77 : opAt m_Law_rounds 77 = sPush (.int (Int32.ofInt 1)) 78 := (opAt_of (M := m_Law_rounds) (i := .iconst 1) (n := 1) ((TL_Law_rounds_0 77).trans (lk_head rfl))).trans rfl
theorem i_Law_rounds_78 : opAt m_Law_rounds 78 = sBI (fun x y => x &&& y) 79 := (opAt_of (M := m_Law_rounds) (i := .iand) (n := 1) ((TL_Law_rounds_0 78).trans (lk_head rfl))).trans rfl
theorem i_Law_rounds_79 : opAt m_Law_rounds 79 = sBI (fun x y => x + y) 80 := (opAt_of (M := m_Law_rounds) (i := .iadd) (n := 1) ((TL_Law_rounds_0 79).trans (lk_head rfl))).trans rfl
theorem i_Law_rounds_80 : opAt m_Law_rounds 80 = sIst 8 82 := (opAt_of (M := m_Law_rounds) (i := .istore 8) (n := 2) ((TL_Law_rounds_0 80).trans (lk_head rfl))).trans rfl
theorem i_Law_rounds_82 : opAt m_Law_rounds 82 = sInc 9 1 85 := (opAt_of (M := m_Law_rounds) (i := .iinc 9 1) (n := 3) ((TL_Law_rounds_0 82).trans (lk_head rfl))).trans rfl
theorem i_Law_rounds_85 : opAt m_Law_rounds 85 = sGo 54 := (opAt_of (M := m_Law_rounds) (i := .goto (-31)) (n := 3) ((TL_Law_rounds_0 85).trans (lk_head rfl))).trans rfl
theorem i_Law_rounds_88 : opAt m_Law_rounds 88 = sPush (.int (Int32.ofInt 2)) 89 := (opAt_of (M := m_Law_rounds) (i := .iconst 2) (n := 1) ((TL_Law_rounds_0 88).trans (lk_head rfl))).trans rfl
theorem i_Law_rounds_89 : opAt m_Law_rounds 89 = sIst 9 91 := (opAt_of (M := m_Law_rounds) (i := .istore 9) (n := 2) ((TL_Law_rounds_0 89).trans (lk_head rfl))).trans rfl
theorem i_Law_rounds_91 : opAt m_Law_rounds 91 = sIld 9 93 := (opAt_of (M := m_Law_rounds) (i := .iload 9) (n := 2) ((TL_Law_rounds_0 91).trans (lk_head rfl))).trans rfl
theorem i_Law_rounds_93 : opAt m_Law_rounds 93 = sPush (.int (Int8.ofInt 20).toInt32) 95 := (opAt_of (M := m_Law_rounds) (i := .bipush 20) (n := 2) ((TL_Law_rounds_0 93).trans (lk_head rfl))).trans rfl
theorem i_Law_rounds_95 : opAt m_Law_rounds 95 = sCm .ge 424 98 := (opAt_of (M := m_Law_rounds) (i := .if_icmp .ge 329) (n := 3) ((TL_Law_rounds_0 95).trans (lk_head rfl))).trans rfl
theorem i_Law_rounds_98 : opAt m_Law_rounds 98 = sPush (.int (Int32.ofInt 0)) 99 := (opAt_of (M := m_Law_rounds) (i := .iconst 0) (n := 1) ((TL_Law_rounds_0 98).trans (lk_head rfl))).trans rfl
theorem i_Law_rounds_99 : opAt m_Law_rounds 99 = sIst 10 101 := (opAt_of (M := m_Law_rounds) (i := .istore 10) (n := 2) ((TL_Law_rounds_0 99).trans (lk_head rfl))).trans rfl
theorem i_Law_rounds_101 : opAt m_Law_rounds 101 = sIld 10 103 := (opAt_of (M := m_Law_rounds) (i := .iload 10) (n := 2) ((TL_Law_rounds_0 101).trans (lk_head rfl))).trans rfl
theorem i_Law_rounds_103 : opAt m_Law_rounds 103 = sIld 9 105 := (opAt_of (M := m_Law_rounds) (i := .iload 9) (n := 2) ((TL_Law_rounds_0 103).trans (lk_head rfl))).trans rfl
theorem i_Law_rounds_105 : opAt m_Law_rounds 105 = sCm .ge 418 108 := (opAt_of (M := m_Law_rounds) (i := .if_icmp .ge 313) (n := 3) ((TL_Law_rounds_0 105).trans (lk_head rfl))).trans rfl
theorem i_Law_rounds_108 : opAt m_Law_rounds 108 = sPush (.int (Int32.ofInt 0)) 109 := (opAt_of (M := m_Law_rounds) (i := .iconst 0) (n := 1) ((TL_Law_rounds_0 108).trans (lk_head rfl))).trans rfl
theorem i_Law_rounds_109 : opAt m_Law_rounds 109 = sIst 11 111 := (opAt_of (M := m_Law_rounds) (i := .istore 11) (n := 2) ((TL_Law_rounds_1 109 (by omega)).trans (lk_head rfl))).trans rfl
theorem i_Law_rounds_111 : opAt m_Law_rounds 111 = sPush (.int (Int32.ofInt 0)) 112 := (opAt_of (M := m_Law_rounds) (i := .iconst 0) (n := 1) ((TL_Law_rounds_1 111 (by omega)).trans (lk_head rfl))).trans rfl
theorem i_Law_rounds_112 : opAt m_Law_rounds 112 = sIst 12 114 := (opAt_of (M := m_Law_rounds) (i := .istore 12) (n := 2) ((TL_Law_rounds_1 112 (by omega)).trans (lk_head rfl))).trans rfl
theorem i_Law_rounds_114 : opAt m_Law_rounds 114 = sPush (.int (Int32.ofInt 0)) 115 := (opAt_of (M := m_Law_rounds) (i := .iconst 0) (n := 1) ((TL_Law_rounds_1 114 (by omega)).trans (lk_head rfl))).trans rfl
theorem i_Law_rounds_115 : opAt m_Law_rounds 115 = sIst 13 117 := (opAt_of (M := m_Law_rounds) (i := .istore 13) (n := 2) ((TL_Law_rounds_1 115 (by omega)).trans (lk_head rfl))).trans rfl
theorem i_Law_rounds_117 : opAt m_Law_rounds 117 = sIld 13 119 := (opAt_of (M := m_Law_rounds) (i := .iload 13) (n := 2) ((TL_Law_rounds_1 117 (by omega)).trans (lk_head rfl))).trans rfl
theorem i_Law_rounds_119 : opAt m_Law_rounds 119 = sAld 2 120 := (opAt_of (M := m_Law_rounds) (i := .aload_n 2) (n := 1) ((TL_Law_rounds_1 119 (by omega)).trans (lk_head rfl))).trans rfl
theorem i_Law_rounds_120 : opAt m_Law_rounds 120 = sPush (.int (Int8.ofInt 48).toInt32) 122 := (opAt_of (M := m_Law_rounds) (i := .bipush 48) (n := 2) ((TL_Law_rounds_1 120 (by omega)).trans (lk_head rfl))).trans rfl
theorem i_Law_rounds_122 : opAt m_Law_rounds 122 = sIal 123 := (opAt_of (M := m_Law_rounds) (i := .iaload) (n := 1) ((TL_Law_rounds_1 122 (by omega)).trans (lk_head rfl))).trans rfl
theorem i_Law_rounds_123 : opAt m_Law_rounds 123 = sCm .ge 169 126 := (opAt_of (M := m_Law_rounds) (i := .if_icmp .ge 46) (n := 3) ((TL_Law_rounds_1 123 (by omega)).trans (lk_head rfl))).trans rfl
theorem i_Law_rounds_126 : opAt m_Law_rounds 126 = sIld 13 128 := (opAt_of (M := m_Law_rounds) (i := .iload 13) (n := 2) ((TL_Law_rounds_1 126 (by omega)).trans (lk_head rfl))).trans rfl
theorem i_Law_rounds_128 : opAt m_Law_rounds 128 = sIld 9 130 := (opAt_of (M := m_Law_rounds) (i := .iload 9) (n := 2) ((TL_Law_rounds_1 128 (by omega)).trans (lk_head rfl))).trans rfl
theorem i_Law_rounds_130 : opAt m_Law_rounds 130 = sDI (fun x y => x - x / y * y) 131 := (opAt_of (M := m_Law_rounds) (i := .irem) (n := 1) ((TL_Law_rounds_1 130 (by omega)).trans (lk_head rfl))).trans rfl
theorem i_Law_rounds_131 : opAt m_Law_rounds 131 = sIld 10 133 := (opAt_of (M := m_Law_rounds) (i := .iload 10) (n := 2) ((TL_Law_rounds_1 131 (by omega)).trans (lk_head rfl))).trans rfl
theorem i_Law_rounds_133 : opAt m_Law_rounds 133 = sCm .eq 139 136 := (opAt_of (M := m_Law_rounds) (i := .if_icmp .eq 6) (n := 3) ((TL_Law_rounds_1 133 (by omega)).trans (lk_head rfl))).trans rfl
theorem i_Law_rounds_136 : opAt m_Law_rounds 136 = sGo 163 := (opAt_of (M := m_Law_rounds) (i := .goto 27) (n := 3) ((TL_Law_rounds_1 136 (by omega)).trans (lk_head rfl))).trans rfl
theorem i_Law_rounds_139 : opAt m_Law_rounds 139 = sInc 11 1 142 := (opAt_of (M := m_Law_rounds) (i := .iinc 11 1) (n := 3) ((TL_Law_rounds_1 139 (by omega)).trans (lk_head rfl))).trans rfl
theorem i_Law_rounds_142 : opAt m_Law_rounds 142 = sIld 12 144 := (opAt_of (M := m_Law_rounds) (i := .iload 12) (n := 2) ((TL_Law_rounds_1 142 (by omega)).trans (lk_head rfl))).trans rfl
theorem i_Law_rounds_144 : opAt m_Law_rounds 144 = sAld 2 145 := (opAt_of (M := m_Law_rounds) (i := .aload_n 2) (n := 1) ((TL_Law_rounds_1 144 (by omega)).trans (lk_head rfl))).trans rfl
theorem i_Law_rounds_145 : opAt m_Law_rounds 145 = sIld 13 147 := (opAt_of (M := m_Law_rounds) (i := .iload 13) (n := 2) ((TL_Law_rounds_1 145 (by omega)).trans (lk_head rfl))).trans rfl
theorem i_Law_rounds_147 : opAt m_Law_rounds 147 = sIal 148 := (opAt_of (M := m_Law_rounds) (i := .iaload) (n := 1) ((TL_Law_rounds_1 147 (by omega)).trans (lk_head rfl))).trans rfl
theorem i_Law_rounds_148 : opAt m_Law_rounds 148 = sIld 6 150 := (opAt_of (M := m_Law_rounds) (i := .iload 6) (n := 2) ((TL_Law_rounds_1 148 (by omega)).trans (lk_head rfl))).trans rfl
theorem i_Law_rounds_150 : opAt m_Law_rounds 150 = sSta m_Law_marks 0 2 153 := (opAt_of (M := m_Law_rounds) (i := .invokestatic 39) (n := 3) ((TL_Law_rounds_1 150 (by omega)).trans (lk_head rfl))).trans rfl
theorem i_Law_rounds_153 : opAt m_Law_rounds 153 = sIld 5 155 := (opAt_of (M := m_Law_rounds) (i := .iload 5) (n := 2) ((TL_Law_rounds_1 153 (by omega)).trans (lk_head rfl))).trans rfl
theorem i_Law_rounds_155 : opAt m_Law_rounds 155 = sBI (fun x y => x >>> (y &&& 31)) 156 := (opAt_of (M := m_Law_rounds) (i := .ishr) (n := 1) ((TL_Law_rounds_1 155 (by omega)).trans (lk_head rfl))).trans rfl
theorem i_Law_rounds_156 : opAt m_Law_rounds 156 = sPush (.int (Int32.ofInt 1)) 157 := (opAt_of (M := m_Law_rounds) (i := .iconst 1) (n := 1) ((TL_Law_rounds_1 156 (by omega)).trans (lk_head rfl))).trans rfl
theorem i_Law_rounds_157 : opAt m_Law_rounds 157 = sBI (fun x y => x &&& y) 158 := (opAt_of (M := m_Law_rounds) (i := .iand) (n := 1) ((TL_Law_rounds_1 157 (by omega)).trans (lk_head rfl))).trans rfl
theorem i_Law_rounds_158 : opAt m_Law_rounds 158 = sPush (.int (Int32.ofInt 1)) 159 := (opAt_of (M := m_Law_rounds) (i := .iconst 1) (n := 1) ((TL_Law_rounds_1 158 (by omega)).trans (lk_head rfl))).trans rfl
theorem i_Law_rounds_159 : opAt m_Law_rounds 159 = sBI (fun x y => x ^^^ y) 160 := (opAt_of (M := m_Law_rounds) (i := .ixor) (n := 1) ((TL_Law_rounds_1 159 (by omega)).trans (lk_head rfl))).trans rfl
theorem i_Law_rounds_160 : opAt m_Law_rounds 160 = sBI (fun x y => x + y) 161 := (opAt_of (M := m_Law_rounds) (i := .iadd) (n := 1) ((TL_Law_rounds_1 160 (by omega)).trans (lk_head rfl))).trans rfl
theorem i_Law_rounds_161 : opAt m_Law_rounds 161 = sIst 12 163 := (opAt_of (M := m_Law_rounds) (i := .istore 12) (n := 2) ((TL_Law_rounds_1 161 (by omega)).trans (lk_head rfl))).trans rfl
theorem i_Law_rounds_163 : opAt m_Law_rounds 163 = sInc 13 1 166 := (opAt_of (M := m_Law_rounds) (i := .iinc 13 1) (n := 3) ((TL_Law_rounds_1 163 (by omega)).trans (lk_head rfl))).trans rfl
theorem i_Law_rounds_166 : opAt m_Law_rounds 166 = sGo 117 := (opAt_of (M := m_Law_rounds) (i := .goto (-49)) (n := 3) ((TL_Law_rounds_1 166 (by omega)).trans (lk_head rfl))).trans rfl
theorem i_Law_rounds_169 : opAt m_Law_rounds 169 = sIld 11 171 := (opAt_of (M := m_Law_rounds) (i := .iload 11) (n := 2) ((TL_Law_rounds_1 169 (by omega)).trans (lk_head rfl))).trans rfl
theorem i_Law_rounds_171 : opAt m_Law_rounds 171 = sPush (.int (Int32.ofInt 1)) 172 := (opAt_of (M := m_Law_rounds) (i := .iconst 1) (n := 1) ((TL_Law_rounds_1 171 (by omega)).trans (lk_head rfl))).trans rfl
theorem i_Law_rounds_172 : opAt m_Law_rounds 172 = sCm .le 184 175 := (opAt_of (M := m_Law_rounds) (i := .if_icmp .le 12) (n := 3) ((TL_Law_rounds_1 172 (by omega)).trans (lk_head rfl))).trans rfl
theorem i_Law_rounds_175 : opAt m_Law_rounds 175 = sIld 12 177 := (opAt_of (M := m_Law_rounds) (i := .iload 12) (n := 2) ((TL_Law_rounds_1 175 (by omega)).trans (lk_head rfl))).trans rfl
theorem i_Law_rounds_177 : opAt m_Law_rounds 177 = sIf .ne 184 180 := (opAt_of (M := m_Law_rounds) (i := .ifCond .ne 7) (n := 3) ((TL_Law_rounds_1 177 (by omega)).trans (lk_head rfl))).trans rfl
theorem i_Law_rounds_180 : opAt m_Law_rounds 180 = sPush (.int (Int32.ofInt 1)) 181 := (opAt_of (M := m_Law_rounds) (i := .iconst 1) (n := 1) ((TL_Law_rounds_1 180 (by omega)).trans (lk_head rfl))).trans rfl
theorem i_Law_rounds_181 : opAt m_Law_rounds 181 = sGo 185 := (opAt_of (M := m_Law_rounds) (i := .goto 4) (n := 3) ((TL_Law_rounds_1 181 (by omega)).trans (lk_head rfl))).trans rfl
theorem i_Law_rounds_184 : opAt m_Law_rounds 184 = sPush (.int (Int32.ofInt 0)) 185 := (opAt_of (M := m_Law_rounds) (i := .iconst 0) (n := 1) ((TL_Law_rounds_1 184 (by omega)).trans (lk_head rfl))).trans rfl
theorem i_Law_rounds_185 : opAt m_Law_rounds 185 = sIst 13 187 := (opAt_of (M := m_Law_rounds) (i := .istore 13) (n := 2) ((TL_Law_rounds_1 185 (by omega)).trans (lk_head rfl))).trans rfl
theorem i_Law_rounds_187 : opAt m_Law_rounds 187 = sIld 7 189 := (opAt_of (M := m_Law_rounds) (i := .iload 7) (n := 2) ((TL_Law_rounds_1 187 (by omega)).trans (lk_head rfl))).trans rfl
theorem i_Law_rounds_189 : opAt m_Law_rounds 189 = sIld 13 191 := (opAt_of (M := m_Law_rounds) (i := .iload 13) (n := 2) ((TL_Law_rounds_1 189 (by omega)).trans (lk_head rfl))).trans rfl
theorem i_Law_rounds_191 : opAt m_Law_rounds 191 = sIf .eq 201 194 := (opAt_of (M := m_Law_rounds) (i := .ifCond .eq 10) (n := 3) ((TL_Law_rounds_1 191 (by omega)).trans (lk_head rfl))).trans rfl
theorem i_Law_rounds_194 : opAt m_Law_rounds 194 = sPush (.int (Int32.ofInt 1)) 195 := (opAt_of (M := m_Law_rounds) (i := .iconst 1) (n := 1) ((TL_Law_rounds_1 194 (by omega)).trans (lk_head rfl))).trans rfl
theorem i_Law_rounds_195 : opAt m_Law_rounds 195 = sIld 9 197 := (opAt_of (M := m_Law_rounds) (i := .iload 9) (n := 2) ((TL_Law_rounds_1 195 (by omega)).trans (lk_head rfl))).trans rfl
theorem i_Law_rounds_197 : opAt m_Law_rounds 197 = sBI (fun x y => x <<< (y &&& 31)) 198 := (opAt_of (M := m_Law_rounds) (i := .ishl) (n := 1) ((TL_Law_rounds_1 197 (by omega)).trans (lk_head rfl))).trans rfl
theorem i_Law_rounds_198 : opAt m_Law_rounds 198 = sGo 202 := (opAt_of (M := m_Law_rounds) (i := .goto 4) (n := 3) ((TL_Law_rounds_1 198 (by omega)).trans (lk_head rfl))).trans rfl
theorem i_Law_rounds_201 : opAt m_Law_rounds 201 = sPush (.int (Int32.ofInt 0)) 202 := (opAt_of (M := m_Law_rounds) (i := .iconst 0) (n := 1) ((TL_Law_rounds_1 201 (by omega)).trans (lk_head rfl))).trans rfl
theorem i_Law_rounds_202 : opAt m_Law_rounds 202 = sBI (fun x y => x ||| y) 203 := (opAt_of (M := m_Law_rounds) (i := .ior) (n := 1) ((TL_Law_rounds_1 202 (by omega)).trans (lk_head rfl))).trans rfl
theorem i_Law_rounds_203 : opAt m_Law_rounds 203 = sIst 7 205 := (opAt_of (M := m_Law_rounds) (i := .istore 7) (n := 2) ((TL_Law_rounds_1 203 (by omega)).trans (lk_head rfl))).trans rfl
theorem i_Law_rounds_205 : opAt m_Law_rounds 205 = sIld 9 207 := (opAt_of (M := m_Law_rounds) (i := .iload 9) (n := 2) ((TL_Law_rounds_1 205 (by omega)).trans (lk_head rfl))).trans rfl
theorem i_Law_rounds_207 : opAt m_Law_rounds 207 = sPush (.int (Int32.ofInt 5)) 208 := (opAt_of (M := m_Law_rounds) (i := .iconst 5) (n := 1) ((TL_Law_rounds_1 207 (by omega)).trans (lk_head rfl))).trans rfl
theorem i_Law_rounds_208 : opAt m_Law_rounds 208 = sDI (fun x y => x - x / y * y) 209 := (opAt_of (M := m_Law_rounds) (i := .irem) (n := 1) ((TL_Law_rounds_1 208 (by omega)).trans (lk_head rfl))).trans rfl
theorem i_Law_rounds_209 : opAt m_Law_rounds 209 = sIld 4 211 := (opAt_of (M := m_Law_rounds) (i := .iload 4) (n := 2) ((TL_Law_rounds_1 209 (by omega)).trans (lk_head rfl))).trans rfl
theorem i_Law_rounds_211 : opAt m_Law_rounds 211 = sPush (.int (Int8.ofInt 6).toInt32) 213 := (opAt_of (M := m_Law_rounds) (i := .bipush 6) (n := 2) ((TL_Law_rounds_1 211 (by omega)).trans (lk_head rfl))).trans rfl
theorem i_Law_rounds_213 : opAt m_Law_rounds 213 = sBI (fun x y => x >>> (y &&& 31)) 214 := (opAt_of (M := m_Law_rounds) (i := .ishr) (n := 1) ((TL_Law_rounds_1 213 (by omega)).trans (lk_head rfl))).trans rfl
theorem i_Law_rounds_214 : opAt m_Law_rounds 214 = sPush (.int (Int32.ofInt 5)) 215 := (opAt_of (M := m_Law_rounds) (i := .iconst 5) (n := 1) ((TL_Law_rounds_1 214 (by omega)).trans (lk_head rfl))).trans rfl
theorem i_Law_rounds_215 : opAt m_Law_rounds 215 = sSta m_Law_at 0 2 218 := (opAt_of (M := m_Law_rounds) (i := .invokestatic 14) (n := 3) ((TL_Law_rounds_1 215 (by omega)).trans (lk_head rfl))).trans rfl
theorem i_Law_rounds_218 : opAt m_Law_rounds 218 = sCm .ne 412 221 := (opAt_of (M := m_Law_rounds) (i := .if_icmp .ne 194) (n := 3) ((TL_Law_rounds_2 218 (by omega)).trans (lk_head rfl))).trans rfl
theorem i_Law_rounds_221 : opAt m_Law_rounds 221 = sIld 10 223 := (opAt_of (M := m_Law_rounds) (i := .iload 10) (n := 2) ((TL_Law_rounds_2 221 (by omega)).trans (lk_head rfl))).trans rfl
theorem i_Law_rounds_223 : opAt m_Law_rounds 223 = sPush (.int (Int32.ofInt 3)) 224 := (opAt_of (M := m_Law_rounds) (i := .iconst 3) (n := 1) ((TL_Law_rounds_2 223 (by omega)).trans (lk_head rfl))).trans rfl
theorem i_Law_rounds_224 : opAt m_Law_rounds 224 = sDI (fun x y => x - x / y * y) 225 := (opAt_of (M := m_Law_rounds) (i := .irem) (n := 1) ((TL_Law_rounds_2 224 (by omega)).trans (lk_head rfl))).trans rfl
theorem i_Law_rounds_225 : opAt m_Law_rounds 225 = sIld 4 227 := (opAt_of (M := m_Law_rounds) (i := .iload 4) (n := 2) ((TL_Law_rounds_2 225 (by omega)).trans (lk_head rfl))).trans rfl
theorem i_Law_rounds_227 : opAt m_Law_rounds 227 = sPush (.int (Int8.ofInt 9).toInt32) 229 := (opAt_of (M := m_Law_rounds) (i := .bipush 9) (n := 2) ((TL_Law_rounds_2 227 (by omega)).trans (lk_head rfl))).trans rfl
theorem i_Law_rounds_229 : opAt m_Law_rounds 229 = sBI (fun x y => x >>> (y &&& 31)) 230 := (opAt_of (M := m_Law_rounds) (i := .ishr) (n := 1) ((TL_Law_rounds_2 229 (by omega)).trans (lk_head rfl))).trans rfl
theorem i_Law_rounds_230 : opAt m_Law_rounds 230 = sPush (.int (Int32.ofInt 3)) 231 := (opAt_of (M := m_Law_rounds) (i := .iconst 3) (n := 1) ((TL_Law_rounds_2 230 (by omega)).trans (lk_head rfl))).trans rfl
theorem i_Law_rounds_231 : opAt m_Law_rounds 231 = sSta m_Law_at 0 2 234 := (opAt_of (M := m_Law_rounds) (i := .invokestatic 14) (n := 3) ((TL_Law_rounds_2 231 (by omega)).trans (lk_head rfl))).trans rfl
theorem i_Law_rounds_234 : opAt m_Law_rounds 234 = sCm .eq 240 237 := (opAt_of (M := m_Law_rounds) (i := .if_icmp .eq 6) (n := 3) ((TL_Law_rounds_2 234 (by omega)).trans (lk_head rfl))).trans rfl
theorem i_Law_rounds_237 : opAt m_Law_rounds 237 = sGo 412 := (opAt_of (M := m_Law_rounds) (i := .goto 175) (n := 3) ((TL_Law_rounds_2 237 (by omega)).trans (lk_head rfl))).trans rfl
theorem i_Law_rounds_240 : opAt m_Law_rounds 240 = sAld 0 241 := (opAt_of (M := m_Law_rounds) (i := .aload_n 0) (n := 1) ((TL_Law_rounds_2 240 (by omega)).trans (lk_head rfl))).trans rfl
theorem i_Law_rounds_241 : opAt m_Law_rounds 241 = sIld 3 242 := (opAt_of (M := m_Law_rounds) (i := .iload_n 3) (n := 1) ((TL_Law_rounds_2 241 (by omega)).trans (lk_head rfl))).trans rfl
theorem i_Law_rounds_242 : opAt m_Law_rounds 242 = sIld 5 244 := (opAt_of (M := m_Law_rounds) (i := .iload 5) (n := 2) ((TL_Law_rounds_2 242 (by omega)).trans (lk_head rfl))).trans rfl
theorem i_Law_rounds_244 : opAt m_Law_rounds 244 = sIld 6 246 := (opAt_of (M := m_Law_rounds) (i := .iload 6) (n := 2) ((TL_Law_rounds_2 244 (by omega)).trans (lk_head rfl))).trans rfl
theorem i_Law_rounds_246 : opAt m_Law_rounds 246 = sIld 9 248 := (opAt_of (M := m_Law_rounds) (i := .iload 9) (n := 2) ((TL_Law_rounds_2 246 (by omega)).trans (lk_head rfl))).trans rfl
theorem i_Law_rounds_248 : opAt m_Law_rounds 248 = sIld 10 250 := (opAt_of (M := m_Law_rounds) (i := .iload 10) (n := 2) ((TL_Law_rounds_2 248 (by omega)).trans (lk_head rfl))).trans rfl
theorem i_Law_rounds_250 : opAt m_Law_rounds 250 = sVir [(10, m_Fi_lets)] 0 5 253 := (opAt_of (M := m_Law_rounds) (i := .invokevirtual 111) (n := 3) ((TL_Law_rounds_2 250 (by omega)).trans (lk_head rfl))).trans rfl
theorem i_Law_rounds_253 : opAt m_Law_rounds 253 = sIld 13 255 := (opAt_of (M := m_Law_rounds) (i := .iload 13) (n := 2) ((TL_Law_rounds_2 253 (by omega)).trans (lk_head rfl))).trans rfl
theorem i_Law_rounds_255 : opAt m_Law_rounds 255 = sIf .eq 262 258 := (opAt_of (M := m_Law_rounds) (i := .ifCond .eq 7) (n := 3) ((TL_Law_rounds_2 255 (by omega)).trans (lk_head rfl))).trans rfl
theorem i_Law_rounds_258 : opAt m_Law_rounds 258 = sPush (.int (Int32.ofInt 1)) 259 := (opAt_of (M := m_Law_rounds) (i := .iconst 1) (n := 1) ((TL_Law_rounds_2 258 (by omega)).trans (lk_head rfl))).trans rfl
theorem i_Law_rounds_259 : opAt m_Law_rounds 259 = sGo 263 := (opAt_of (M := m_Law_rounds) (i := .goto 4) (n := 3) ((TL_Law_rounds_2 259 (by omega)).trans (lk_head rfl))).trans rfl
theorem i_Law_rounds_262 : opAt m_Law_rounds 262 = sPush (.int (Int32.ofInt 0)) 263 := (opAt_of (M := m_Law_rounds) (i := .iconst 0) (n := 1) ((TL_Law_rounds_2 262 (by omega)).trans (lk_head rfl))).trans rfl
theorem i_Law_rounds_263 : opAt m_Law_rounds 263 = sCm .eq 268 266 := (opAt_of (M := m_Law_rounds) (i := .if_icmp .eq 5) (n := 3) ((TL_Law_rounds_2 263 (by omega)).trans (lk_head rfl))).trans rfl
theorem i_Law_rounds_266 : opAt m_Law_rounds 266 = sPush (.int (Int32.ofInt 0)) 267 := (opAt_of (M := m_Law_rounds) (i := .iconst 0) (n := 1) ((TL_Law_rounds_2 266 (by omega)).trans (lk_head rfl))).trans rfl
theorem i_Law_rounds_267 : opAt m_Law_rounds 267 = sIret .boolean := (opAt_of (M := m_Law_rounds) (i := .ireturn) (n := 1) ((TL_Law_rounds_2 267 (by omega)).trans (lk_head rfl))).trans rfl
theorem i_Law_rounds_268 : opAt m_Law_rounds 268 = sPush (.long (Int64.ofNat ((1 : Fin 2) : Nat))) 269 := (opAt_of (M := m_Law_rounds) (i := .lconst 1) (n := 1) ((TL_Law_rounds_2 268 (by omega)).trans (lk_head rfl))).trans rfl
theorem i_Law_rounds_269 : opAt m_Law_rounds 269 = sLst 14 271 := (opAt_of (M := m_Law_rounds) (i := .lstore 14) (n := 2) ((TL_Law_rounds_2 269 (by omega)).trans (lk_head rfl))).trans rfl
theorem i_Law_rounds_271 : opAt m_Law_rounds 271 = sPush (.long (Int64.ofNat ((1 : Fin 2) : Nat))) 272 := (opAt_of (M := m_Law_rounds) (i := .lconst 1) (n := 1) ((TL_Law_rounds_2 271 (by omega)).trans (lk_head rfl))).trans rfl
theorem i_Law_rounds_272 : opAt m_Law_rounds 272 = sLst 16 274 := (opAt_of (M := m_Law_rounds) (i := .lstore 16) (n := 2) ((TL_Law_rounds_2 272 (by omega)).trans (lk_head rfl))).trans rfl
theorem i_Law_rounds_274 : opAt m_Law_rounds 274 = sPush (.int (Int32.ofInt 0)) 275 := (opAt_of (M := m_Law_rounds) (i := .iconst 0) (n := 1) ((TL_Law_rounds_2 274 (by omega)).trans (lk_head rfl))).trans rfl
theorem i_Law_rounds_275 : opAt m_Law_rounds 275 = sIst 18 277 := (opAt_of (M := m_Law_rounds) (i := .istore 18) (n := 2) ((TL_Law_rounds_2 275 (by omega)).trans (lk_head rfl))).trans rfl
theorem i_Law_rounds_277 : opAt m_Law_rounds 277 = sIld 18 279 := (opAt_of (M := m_Law_rounds) (i := .iload 18) (n := 2) ((TL_Law_rounds_2 277 (by omega)).trans (lk_head rfl))).trans rfl
theorem i_Law_rounds_279 : opAt m_Law_rounds 279 = sIld 11 281 := (opAt_of (M := m_Law_rounds) (i := .iload 11) (n := 2) ((TL_Law_rounds_2 279 (by omega)).trans (lk_head rfl))).trans rfl
theorem i_Law_rounds_281 : opAt m_Law_rounds 281 = sCm .ge 372 284 := (opAt_of (M := m_Law_rounds) (i := .if_icmp .ge 91) (n := 3) ((TL_Law_rounds_2 281 (by omega)).trans (lk_head rfl))).trans rfl
theorem i_Law_rounds_284 : opAt m_Law_rounds 284 = sLld 14 286 := (opAt_of (M := m_Law_rounds) (i := .lload 14) (n := 2) ((TL_Law_rounds_2 284 (by omega)).trans (lk_head rfl))).trans rfl
theorem i_Law_rounds_286 : opAt m_Law_rounds 286 = sIld 8 288 := (opAt_of (M := m_Law_rounds) (i := .iload 8) (n := 2) ((TL_Law_rounds_2 286 (by omega)).trans (lk_head rfl))).trans rfl
theorem i_Law_rounds_288 : opAt m_Law_rounds 288 = sIld 18 290 := (opAt_of (M := m_Law_rounds) (i := .iload 18) (n := 2) ((TL_Law_rounds_2 288 (by omega)).trans (lk_head rfl))).trans rfl
theorem i_Law_rounds_290 : opAt m_Law_rounds 290 = sCm .le 302 293 := (opAt_of (M := m_Law_rounds) (i := .if_icmp .le 12) (n := 3) ((TL_Law_rounds_2 290 (by omega)).trans (lk_head rfl))).trans rfl
theorem i_Law_rounds_293 : opAt m_Law_rounds 293 = sIld 8 295 := (opAt_of (M := m_Law_rounds) (i := .iload 8) (n := 2) ((TL_Law_rounds_2 293 (by omega)).trans (lk_head rfl))).trans rfl
theorem i_Law_rounds_295 : opAt m_Law_rounds 295 = sIld 18 297 := (opAt_of (M := m_Law_rounds) (i := .iload 18) (n := 2) ((TL_Law_rounds_2 295 (by omega)).trans (lk_head rfl))).trans rfl
theorem i_Law_rounds_297 : opAt m_Law_rounds 297 = sBI (fun x y => x - y) 298 := (opAt_of (M := m_Law_rounds) (i := .isub) (n := 1) ((TL_Law_rounds_2 297 (by omega)).trans (lk_head rfl))).trans rfl
theorem i_Law_rounds_298 : opAt m_Law_rounds 298 = sIL 299 := (opAt_of (M := m_Law_rounds) (i := .i2l) (n := 1) ((TL_Law_rounds_2 298 (by omega)).trans (lk_head rfl))).trans rfl
theorem i_Law_rounds_299 : opAt m_Law_rounds 299 = sGo 303 := (opAt_of (M := m_Law_rounds) (i := .goto 4) (n := 3) ((TL_Law_rounds_2 299 (by omega)).trans (lk_head rfl))).trans rfl
theorem i_Law_rounds_302 : opAt m_Law_rounds 302 = sPush (.long (Int64.ofNat ((0 : Fin 2) : Nat))) 303 := (opAt_of (M := m_Law_rounds) (i := .lconst 0) (n := 1) ((TL_Law_rounds_2 302 (by omega)).trans (lk_head rfl))).trans rfl
theorem i_Law_rounds_303 : opAt m_Law_rounds 303 = sBL (fun x y => x * y) 304 := (opAt_of (M := m_Law_rounds) (i := .lmul) (n := 1) ((TL_Law_rounds_2 303 (by omega)).trans (lk_head rfl))).trans rfl
theorem i_Law_rounds_304 : opAt m_Law_rounds 304 = sLst 14 306 := (opAt_of (M := m_Law_rounds) (i := .lstore 14) (n := 2) ((TL_Law_rounds_2 304 (by omega)).trans (lk_head rfl))).trans rfl
theorem i_Law_rounds_306 : opAt m_Law_rounds 306 = sLld 16 308 := (opAt_of (M := m_Law_rounds) (i := .lload 16) (n := 2) ((TL_Law_rounds_2 306 (by omega)).trans (lk_head rfl))).trans rfl
theorem i_Law_rounds_308 : opAt m_Law_rounds 308 = sAld 2 309 := (opAt_of (M := m_Law_rounds) (i := .aload_n 2) (n := 1) ((TL_Law_rounds_2 308 (by omega)).trans (lk_head rfl))).trans rfl
theorem i_Law_rounds_309 : opAt m_Law_rounds 309 = sPush (.int (Int8.ofInt 48).toInt32) 311 := (opAt_of (M := m_Law_rounds) (i := .bipush 48) (n := 2) ((TL_Law_rounds_2 309 (by omega)).trans (lk_head rfl))).trans rfl
theorem i_Law_rounds_311 : opAt m_Law_rounds 311 = sIal 312 := (opAt_of (M := m_Law_rounds) (i := .iaload) (n := 1) ((TL_Law_rounds_2 311 (by omega)).trans (lk_head rfl))).trans rfl
theorem i_Law_rounds_312 : opAt m_Law_rounds 312 = sIld 18 314 := (opAt_of (M := m_Law_rounds) (i := .iload 18) (n := 2) ((TL_Law_rounds_2 312 (by omega)).trans (lk_head rfl))).trans rfl
theorem i_Law_rounds_314 : opAt m_Law_rounds 314 = sBI (fun x y => x - y) 315 := (opAt_of (M := m_Law_rounds) (i := .isub) (n := 1) ((TL_Law_rounds_2 314 (by omega)).trans (lk_head rfl))).trans rfl
theorem i_Law_rounds_315 : opAt m_Law_rounds 315 = sIL 316 := (opAt_of (M := m_Law_rounds) (i := .i2l) (n := 1) ((TL_Law_rounds_2 315 (by omega)).trans (lk_head rfl))).trans rfl
theorem i_Law_rounds_316 : opAt m_Law_rounds 316 = sBL (fun x y => x * y) 317 := (opAt_of (M := m_Law_rounds) (i := .lmul) (n := 1) ((TL_Law_rounds_2 316 (by omega)).trans (lk_head rfl))).trans rfl
theorem i_Law_rounds_317 : opAt m_Law_rounds 317 = sLst 16 319 := (opAt_of (M := m_Law_rounds) (i := .lstore 16) (n := 2) ((TL_Law_rounds_2 317 (by omega)).trans (lk_head rfl))).trans rfl
theorem i_Law_rounds_319 : opAt m_Law_rounds 319 = sLld 14 321 := (opAt_of (M := m_Law_rounds) (i := .lload 14) (n := 2) ((TL_Law_rounds_2 319 (by omega)).trans (lk_head rfl))).trans rfl
theorem i_Law_rounds_321 : opAt m_Law_rounds 321 = sLst 19 323 := (opAt_of (M := m_Law_rounds) (i := .lstore 19) (n := 2) ((TL_Law_rounds_2 321 (by omega)).trans (lk_head rfl))).trans rfl
theorem i_Law_rounds_323 : opAt m_Law_rounds 323 = sLld 16 325 := (opAt_of (M := m_Law_rounds) (i := .lload 16) (n := 2) ((TL_Law_rounds_2 323 (by omega)).trans (lk_head rfl))).trans rfl
theorem i_Law_rounds_325 : opAt m_Law_rounds 325 = sLst 21 327 := (opAt_of (M := m_Law_rounds) (i := .lstore 21) (n := 2) ((TL_Law_rounds_2 325 (by omega)).trans (lk_head rfl))).trans rfl
theorem i_Law_rounds_327 : opAt m_Law_rounds 327 = sLld 19 329 := (opAt_of (M := m_Law_rounds) (i := .lload 19) (n := 2) ((TL_Law_rounds_3 327 (by omega)).trans (lk_head rfl))).trans rfl
theorem i_Law_rounds_329 : opAt m_Law_rounds 329 = sPush (.long (Int64.ofNat ((0 : Fin 2) : Nat))) 330 := (opAt_of (M := m_Law_rounds) (i := .lconst 0) (n := 1) ((TL_Law_rounds_3 329 (by omega)).trans (lk_head rfl))).trans rfl
theorem i_Law_rounds_330 : opAt m_Law_rounds 330 = sCmp 331 := (opAt_of (M := m_Law_rounds) (i := .lcmp) (n := 1) ((TL_Law_rounds_3 330 (by omega)).trans (lk_head rfl))).trans rfl
theorem i_Law_rounds_331 : opAt m_Law_rounds 331 = sIf .eq 352 334 := (opAt_of (M := m_Law_rounds) (i := .ifCond .eq 21) (n := 3) ((TL_Law_rounds_3 331 (by omega)).trans (lk_head rfl))).trans rfl
theorem i_Law_rounds_334 : opAt m_Law_rounds 334 = sLld 21 336 := (opAt_of (M := m_Law_rounds) (i := .lload 21) (n := 2) ((TL_Law_rounds_3 334 (by omega)).trans (lk_head rfl))).trans rfl
theorem i_Law_rounds_336 : opAt m_Law_rounds 336 = sLld 19 338 := (opAt_of (M := m_Law_rounds) (i := .lload 19) (n := 2) ((TL_Law_rounds_3 336 (by omega)).trans (lk_head rfl))).trans rfl
theorem i_Law_rounds_338 : opAt m_Law_rounds 338 = sDL (fun x y => x - x / y * y) 339 := (opAt_of (M := m_Law_rounds) (i := .lrem) (n := 1) ((TL_Law_rounds_3 338 (by omega)).trans (lk_head rfl))).trans rfl
theorem i_Law_rounds_339 : opAt m_Law_rounds 339 = sLst 23 341 := (opAt_of (M := m_Law_rounds) (i := .lstore 23) (n := 2) ((TL_Law_rounds_3 339 (by omega)).trans (lk_head rfl))).trans rfl
theorem i_Law_rounds_341 : opAt m_Law_rounds 341 = sLld 19 343 := (opAt_of (M := m_Law_rounds) (i := .lload 19) (n := 2) ((TL_Law_rounds_3 341 (by omega)).trans (lk_head rfl))).trans rfl
theorem i_Law_rounds_343 : opAt m_Law_rounds 343 = sLst 21 345 := (opAt_of (M := m_Law_rounds) (i := .lstore 21) (n := 2) ((TL_Law_rounds_3 343 (by omega)).trans (lk_head rfl))).trans rfl
theorem i_Law_rounds_345 : opAt m_Law_rounds 345 = sLld 23 347 := (opAt_of (M := m_Law_rounds) (i := .lload 23) (n := 2) ((TL_Law_rounds_3 345 (by omega)).trans (lk_head rfl))).trans rfl
theorem i_Law_rounds_347 : opAt m_Law_rounds 347 = sLst 19 349 := (opAt_of (M := m_Law_rounds) (i := .lstore 19) (n := 2) ((TL_Law_rounds_3 347 (by omega)).trans (lk_head rfl))).trans rfl
theorem i_Law_rounds_349 : opAt m_Law_rounds 349 = sGo 327 := (opAt_of (M := m_Law_rounds) (i := .goto (-22)) (n := 3) ((TL_Law_rounds_3 349 (by omega)).trans (lk_head rfl))).trans rfl
theorem i_Law_rounds_352 : opAt m_Law_rounds 352 = sLld 14 354 := (opAt_of (M := m_Law_rounds) (i := .lload 14) (n := 2) ((TL_Law_rounds_3 352 (by omega)).trans (lk_head rfl))).trans rfl
theorem i_Law_rounds_354 : opAt m_Law_rounds 354 = sLld 21 356 := (opAt_of (M := m_Law_rounds) (i := .lload 21) (n := 2) ((TL_Law_rounds_3 354 (by omega)).trans (lk_head rfl))).trans rfl
theorem i_Law_rounds_356 : opAt m_Law_rounds 356 = sDL (fun x y => x / y) 357 := (opAt_of (M := m_Law_rounds) (i := .ldiv) (n := 1) ((TL_Law_rounds_3 356 (by omega)).trans (lk_head rfl))).trans rfl
theorem i_Law_rounds_357 : opAt m_Law_rounds 357 = sLst 14 359 := (opAt_of (M := m_Law_rounds) (i := .lstore 14) (n := 2) ((TL_Law_rounds_3 357 (by omega)).trans (lk_head rfl))).trans rfl
theorem i_Law_rounds_359 : opAt m_Law_rounds 359 = sLld 16 361 := (opAt_of (M := m_Law_rounds) (i := .lload 16) (n := 2) ((TL_Law_rounds_3 359 (by omega)).trans (lk_head rfl))).trans rfl
theorem i_Law_rounds_361 : opAt m_Law_rounds 361 = sLld 21 363 := (opAt_of (M := m_Law_rounds) (i := .lload 21) (n := 2) ((TL_Law_rounds_3 361 (by omega)).trans (lk_head rfl))).trans rfl
theorem i_Law_rounds_363 : opAt m_Law_rounds 363 = sDL (fun x y => x / y) 364 := (opAt_of (M := m_Law_rounds) (i := .ldiv) (n := 1) ((TL_Law_rounds_3 363 (by omega)).trans (lk_head rfl))).trans rfl
theorem i_Law_rounds_364 : opAt m_Law_rounds 364 = sLst 16 366 := (opAt_of (M := m_Law_rounds) (i := .lstore 16) (n := 2) ((TL_Law_rounds_3 364 (by omega)).trans (lk_head rfl))).trans rfl
theorem i_Law_rounds_366 : opAt m_Law_rounds 366 = sInc 18 1 369 := (opAt_of (M := m_Law_rounds) (i := .iinc 18 1) (n := 3) ((TL_Law_rounds_3 366 (by omega)).trans (lk_head rfl))).trans rfl
theorem i_Law_rounds_369 : opAt m_Law_rounds 369 = sGo 277 := (opAt_of (M := m_Law_rounds) (i := .goto (-92)) (n := 3) ((TL_Law_rounds_3 369 (by omega)).trans (lk_head rfl))).trans rfl
theorem i_Law_rounds_372 : opAt m_Law_rounds 372 = sAld 0 373 := (opAt_of (M := m_Law_rounds) (i := .aload_n 0) (n := 1) ((TL_Law_rounds_3 372 (by omega)).trans (lk_head rfl))).trans rfl
theorem i_Law_rounds_373 : opAt m_Law_rounds 373 = sIld 3 374 := (opAt_of (M := m_Law_rounds) (i := .iload_n 3) (n := 1) ((TL_Law_rounds_3 373 (by omega)).trans (lk_head rfl))).trans rfl
theorem i_Law_rounds_374 : opAt m_Law_rounds 374 = sIld 5 376 := (opAt_of (M := m_Law_rounds) (i := .iload 5) (n := 2) ((TL_Law_rounds_3 374 (by omega)).trans (lk_head rfl))).trans rfl
theorem i_Law_rounds_376 : opAt m_Law_rounds 376 = sIld 6 378 := (opAt_of (M := m_Law_rounds) (i := .iload 6) (n := 2) ((TL_Law_rounds_3 376 (by omega)).trans (lk_head rfl))).trans rfl
theorem i_Law_rounds_378 : opAt m_Law_rounds 378 = sIld 9 380 := (opAt_of (M := m_Law_rounds) (i := .iload 9) (n := 2) ((TL_Law_rounds_3 378 (by omega)).trans (lk_head rfl))).trans rfl
theorem i_Law_rounds_380 : opAt m_Law_rounds 380 = sIld 10 382 := (opAt_of (M := m_Law_rounds) (i := .iload 10) (n := 2) ((TL_Law_rounds_3 380 (by omega)).trans (lk_head rfl))).trans rfl
theorem i_Law_rounds_382 : opAt m_Law_rounds 382 = sPush (.int (Int32.ofInt 0)) 383 := (opAt_of (M := m_Law_rounds) (i := .iconst 0) (n := 1) ((TL_Law_rounds_3 382 (by omega)).trans (lk_head rfl))).trans rfl
theorem i_Law_rounds_383 : opAt m_Law_rounds 383 = sVir [(10, m_Fi_chance)] 0 6 386 := (opAt_of (M := m_Law_rounds) (i := .invokevirtual 115) (n := 3) ((TL_Law_rounds_3 383 (by omega)).trans (lk_head rfl))).trans rfl
theorem i_Law_rounds_386 : opAt m_Law_rounds 386 = sAld 0 387 := (opAt_of (M := m_Law_rounds) (i := .aload_n 0) (n := 1) ((TL_Law_rounds_3 386 (by omega)).trans (lk_head rfl))).trans rfl
theorem i_Law_rounds_387 : opAt m_Law_rounds 387 = sIld 3 388 := (opAt_of (M := m_Law_rounds) (i := .iload_n 3) (n := 1) ((TL_Law_rounds_3 387 (by omega)).trans (lk_head rfl))).trans rfl
theorem i_Law_rounds_388 : opAt m_Law_rounds 388 = sIld 5 390 := (opAt_of (M := m_Law_rounds) (i := .iload 5) (n := 2) ((TL_Law_rounds_3 388 (by omega)).trans (lk_head rfl))).trans rfl
theorem i_Law_rounds_390 : opAt m_Law_rounds 390 = sIld 6 392 := (opAt_of (M := m_Law_rounds) (i := .iload 6) (n := 2) ((TL_Law_rounds_3 390 (by omega)).trans (lk_head rfl))).trans rfl
theorem i_Law_rounds_392 : opAt m_Law_rounds 392 = sIld 9 394 := (opAt_of (M := m_Law_rounds) (i := .iload 9) (n := 2) ((TL_Law_rounds_3 392 (by omega)).trans (lk_head rfl))).trans rfl
theorem i_Law_rounds_394 : opAt m_Law_rounds 394 = sIld 10 396 := (opAt_of (M := m_Law_rounds) (i := .iload 10) (n := 2) ((TL_Law_rounds_3 394 (by omega)).trans (lk_head rfl))).trans rfl
theorem i_Law_rounds_396 : opAt m_Law_rounds 396 = sPush (.int (Int32.ofInt 1)) 397 := (opAt_of (M := m_Law_rounds) (i := .iconst 1) (n := 1) ((TL_Law_rounds_3 396 (by omega)).trans (lk_head rfl))).trans rfl
theorem i_Law_rounds_397 : opAt m_Law_rounds 397 = sVir [(10, m_Fi_chance)] 0 6 400 := (opAt_of (M := m_Law_rounds) (i := .invokevirtual 115) (n := 3) ((TL_Law_rounds_3 397 (by omega)).trans (lk_head rfl))).trans rfl
theorem i_Law_rounds_400 : opAt m_Law_rounds 400 = sLld 14 402 := (opAt_of (M := m_Law_rounds) (i := .lload 14) (n := 2) ((TL_Law_rounds_3 400 (by omega)).trans (lk_head rfl))).trans rfl
theorem i_Law_rounds_402 : opAt m_Law_rounds 402 = sLld 16 404 := (opAt_of (M := m_Law_rounds) (i := .lload 16) (n := 2) ((TL_Law_rounds_3 402 (by omega)).trans (lk_head rfl))).trans rfl
theorem i_Law_rounds_404 : opAt m_Law_rounds 404 = sSta m_Law_share 0 4 407 := (opAt_of (M := m_Law_rounds) (i := .invokestatic 119) (n := 3) ((TL_Law_rounds_3 404 (by omega)).trans (lk_head rfl))).trans rfl
theorem i_Law_rounds_407 : opAt m_Law_rounds 407 = sIf .ne 412 410 := (opAt_of (M := m_Law_rounds) (i := .ifCond .ne 5) (n := 3) ((TL_Law_rounds_3 407 (by omega)).trans (lk_head rfl))).trans rfl
theorem i_Law_rounds_410 : opAt m_Law_rounds 410 = sPush (.int (Int32.ofInt 0)) 411 := (opAt_of (M := m_Law_rounds) (i := .iconst 0) (n := 1) ((TL_Law_rounds_3 410 (by omega)).trans (lk_head rfl))).trans rfl
theorem i_Law_rounds_411 : opAt m_Law_rounds 411 = sIret .boolean := (opAt_of (M := m_Law_rounds) (i := .ireturn) (n := 1) ((TL_Law_rounds_3 411 (by omega)).trans (lk_head rfl))).trans rfl
theorem i_Law_rounds_412 : opAt m_Law_rounds 412 = sInc 10 1 415 := (opAt_of (M := m_Law_rounds) (i := .iinc 10 1) (n := 3) ((TL_Law_rounds_3 412 (by omega)).trans (lk_head rfl))).trans rfl
theorem i_Law_rounds_415 : opAt m_Law_rounds 415 = sGo 101 := (opAt_of (M := m_Law_rounds) (i := .goto (-314)) (n := 3) ((TL_Law_rounds_3 415 (by omega)).trans (lk_head rfl))).trans rfl
theorem i_Law_rounds_418 : opAt m_Law_rounds 418 = sInc 9 1 421 := (opAt_of (M := m_Law_rounds) (i := .iinc 9 1) (n := 3) ((TL_Law_rounds_3 418 (by omega)).trans (lk_head rfl))).trans rfl
theorem i_Law_rounds_421 : opAt m_Law_rounds 421 = sGo 91 := (opAt_of (M := m_Law_rounds) (i := .goto (-330)) (n := 3) ((TL_Law_rounds_3 421 (by omega)).trans (lk_head rfl))).trans rfl
theorem i_Law_rounds_424 : opAt m_Law_rounds 424 = sAld 0 425 := (opAt_of (M := m_Law_rounds) (i := .aload_n 0) (n := 1) ((TL_Law_rounds_3 424 (by omega)).trans (lk_head rfl))).trans rfl
theorem i_Law_rounds_425 : opAt m_Law_rounds 425 = sIld 3 426 := (opAt_of (M := m_Law_rounds) (i := .iload_n 3) (n := 1) ((TL_Law_rounds_3 425 (by omega)).trans (lk_head rfl))).trans rfl
theorem i_Law_rounds_426 : opAt m_Law_rounds 426 = sIld 5 428 := (opAt_of (M := m_Law_rounds) (i := .iload 5) (n := 2) ((TL_Law_rounds_3 426 (by omega)).trans (lk_head rfl))).trans rfl
theorem i_Law_rounds_428 : opAt m_Law_rounds 428 = sIld 6 430 := (opAt_of (M := m_Law_rounds) (i := .iload 6) (n := 2) ((TL_Law_rounds_3 428 (by omega)).trans (lk_head rfl))).trans rfl
theorem i_Law_rounds_430 : opAt m_Law_rounds 430 = sVir [(10, m_Fi_rounds)] 0 3 433 := (opAt_of (M := m_Law_rounds) (i := .invokevirtual 123) (n := 3) ((TL_Law_rounds_3 430 (by omega)).trans (lk_head rfl))).trans rfl
theorem i_Law_rounds_433 : opAt m_Law_rounds 433 = sIld 7 435 := (opAt_of (M := m_Law_rounds) (i := .iload 7) (n := 2) ((TL_Law_rounds_3 433 (by omega)).trans (lk_head rfl))).trans rfl
theorem i_Law_rounds_435 : opAt m_Law_rounds 435 = sCm .eq 440 438 := (opAt_of (M := m_Law_rounds) (i := .if_icmp .eq 5) (n := 3) ((TL_Law_rounds_3 435 (by omega)).trans (lk_head rfl))).trans rfl
theorem i_Law_rounds_438 : opAt m_Law_rounds 438 = sPush (.int (Int32.ofInt 0)) 439 := (opAt_of (M := m_Law_rounds) (i := .iconst 0) (n := 1) ((TL_Law_rounds_3 438 (by omega)).trans (lk_head rfl))).trans rfl
theorem i_Law_rounds_439 : opAt m_Law_rounds 439 = sIret .boolean := (opAt_of (M := m_Law_rounds) (i := .ireturn) (n := 1) ((TL_Law_rounds_3 439 (by omega)).trans (lk_head rfl))).trans rfl
theorem i_Law_rounds_440 : opAt m_Law_rounds 440 = sIld 4 442 := (opAt_of (M := m_Law_rounds) (i := .iload 4) (n := 2) ((TL_Law_rounds_3 440 (by omega)).trans (lk_head rfl))).trans rfl
theorem i_Law_rounds_442 : opAt m_Law_rounds 442 = sPush (.int (Int8.ofInt 12).toInt32) 444 := (opAt_of (M := m_Law_rounds) (i := .bipush 12) (n := 2) ((TL_Law_rounds_3 442 (by omega)).trans (lk_head rfl))).trans rfl
theorem i_Law_rounds_444 : opAt m_Law_rounds 444 = sBI (fun x y => x >>> (y &&& 31)) 445 := (opAt_of (M := m_Law_rounds) (i := .ishr) (n := 1) ((TL_Law_rounds_4 444 (by omega)).trans (lk_head rfl))).trans rfl
theorem i_Law_rounds_445 : opAt m_Law_rounds 445 = sPush (.int (Int32.ofInt 2)) 446 := (opAt_of (M := m_Law_rounds) (i := .iconst 2) (n := 1) ((TL_Law_rounds_4 445 (by omega)).trans (lk_head rfl))).trans rfl
theorem i_Law_rounds_446 : opAt m_Law_rounds 446 = sSta m_Law_at 0 2 449 := (opAt_of (M := m_Law_rounds) (i := .invokestatic 14) (n := 3) ((TL_Law_rounds_4 446 (by omega)).trans (lk_head rfl))).trans rfl
theorem i_Law_rounds_449 : opAt m_Law_rounds 449 = sIf .ne 456 452 := (opAt_of (M := m_Law_rounds) (i := .ifCond .ne 7) (n := 3) ((TL_Law_rounds_4 449 (by omega)).trans (lk_head rfl))).trans rfl
theorem i_Law_rounds_452 : opAt m_Law_rounds 452 = sPush (.int (Int32.ofInt 1)) 453 := (opAt_of (M := m_Law_rounds) (i := .iconst 1) (n := 1) ((TL_Law_rounds_4 452 (by omega)).trans (lk_head rfl))).trans rfl
theorem i_Law_rounds_453 : opAt m_Law_rounds 453 = sGo 457 := (opAt_of (M := m_Law_rounds) (i := .goto 4) (n := 3) ((TL_Law_rounds_4 453 (by omega)).trans (lk_head rfl))).trans rfl
theorem i_Law_rounds_456 : opAt m_Law_rounds 456 = sPush (.int (Int32.ofInt 0)) 457 := (opAt_of (M := m_Law_rounds) (i := .iconst 0) (n := 1) ((TL_Law_rounds_4 456 (by omega)).trans (lk_head rfl))).trans rfl
theorem i_Law_rounds_457 : opAt m_Law_rounds 457 = sIst 9 459 := (opAt_of (M := m_Law_rounds) (i := .istore 9) (n := 2) ((TL_Law_rounds_4 457 (by omega)).trans (lk_head rfl))).trans rfl
theorem i_Law_rounds_459 : opAt m_Law_rounds 459 = sPush (.int (Int32.ofInt 0)) 460 := (opAt_of (M := m_Law_rounds) (i := .iconst 0) (n := 1) ((TL_Law_rounds_4 459 (by omega)).trans (lk_head rfl))).trans rfl
theorem i_Law_rounds_460 : opAt m_Law_rounds 460 = sIst 10 462 := (opAt_of (M := m_Law_rounds) (i := .istore 10) (n := 2) ((TL_Law_rounds_4 460 (by omega)).trans (lk_head rfl))).trans rfl
theorem i_Law_rounds_462 : opAt m_Law_rounds 462 = sPush (.int (Int32.ofInt (-1))) 463 := (opAt_of (M := m_Law_rounds) (i := .iconst (-1)) (n := 1) ((TL_Law_rounds_4 462 (by omega)).trans (lk_head rfl))).trans rfl
theorem i_Law_rounds_463 : opAt m_Law_rounds 463 = sIst 11 465 := (opAt_of (M := m_Law_rounds) (i := .istore 11) (n := 2) ((TL_Law_rounds_4 463 (by omega)).trans (lk_head rfl))).trans rfl
theorem i_Law_rounds_465 : opAt m_Law_rounds 465 = sPush (.int (Int32.ofInt 4)) 466 := (opAt_of (M := m_Law_rounds) (i := .iconst 4) (n := 1) ((TL_Law_rounds_4 465 (by omega)).trans (lk_head rfl))).trans rfl
theorem i_Law_rounds_466 : opAt m_Law_rounds 466 = sNar 0 zI 468 := (opAt_of (M := m_Law_rounds) (i := .newarray .int) (n := 2) ((TL_Law_rounds_4 466 (by omega)).trans (lk_head rfl))).trans rfl
theorem i_Law_rounds_468 : opAt m_Law_rounds 468 = sAst 12 470 := (opAt_of (M := m_Law_rounds) (i := .astore 12) (n := 2) ((TL_Law_rounds_4 468 (by omega)).trans (lk_head rfl))).trans rfl
theorem i_Law_rounds_470 : opAt m_Law_rounds 470 = sAld 12 472 := (opAt_of (M := m_Law_rounds) (i := .aload 12) (n := 2) ((TL_Law_rounds_4 470 (by omega)).trans (lk_head rfl))).trans rfl
theorem i_Law_rounds_472 : opAt m_Law_rounds 472 = sPush (.int (Int32.ofInt 0)) 473 := (opAt_of (M := m_Law_rounds) (i := .iconst 0) (n := 1) ((TL_Law_rounds_4 472 (by omega)).trans (lk_head rfl))).trans rfl
theorem i_Law_rounds_473 : opAt m_Law_rounds 473 = sPush (.int (Int32.ofInt 4)) 474 := (opAt_of (M := m_Law_rounds) (i := .iconst 4) (n := 1) ((TL_Law_rounds_4 473 (by omega)).trans (lk_head rfl))).trans rfl
theorem i_Law_rounds_474 : opAt m_Law_rounds 474 = sIas 475 := (opAt_of (M := m_Law_rounds) (i := .iastore) (n := 1) ((TL_Law_rounds_4 474 (by omega)).trans (lk_head rfl))).trans rfl
theorem i_Law_rounds_475 : opAt m_Law_rounds 475 = sPush (.int (Int8.ofInt 19).toInt32) 477 := (opAt_of (M := m_Law_rounds) (i := .bipush 19) (n := 2) ((TL_Law_rounds_4 475 (by omega)).trans (lk_head rfl))).trans rfl
theorem i_Law_rounds_477 : opAt m_Law_rounds 477 = sIst 13 479 := (opAt_of (M := m_Law_rounds) (i := .istore 13) (n := 2) ((TL_Law_rounds_4 477 (by omega)).trans (lk_head rfl))).trans rfl
theorem i_Law_rounds_479 : opAt m_Law_rounds 479 = sIld 13 481 := (opAt_of (M := m_Law_rounds) (i := .iload 13) (n := 2) ((TL_Law_rounds_4 479 (by omega)).trans (lk_head rfl))).trans rfl
theorem i_Law_rounds_481 : opAt m_Law_rounds 481 = sIf .le 630 484 := (opAt_of (M := m_Law_rounds) (i := .ifCond .le 149) (n := 3) ((TL_Law_rounds_4 481 (by omega)).trans (lk_head rfl))).trans rfl
theorem i_Law_rounds_484 : opAt m_Law_rounds 484 = sPush (.int (Int8.ofInt 9).toInt32) 486 := (opAt_of (M := m_Law_rounds) (i := .bipush 9) (n := 2) ((TL_Law_rounds_4 484 (by omega)).trans (lk_head rfl))).trans rfl
theorem i_Law_rounds_486 : opAt m_Law_rounds 486 = sIst 14 488 := (opAt_of (M := m_Law_rounds) (i := .istore 14) (n := 2) ((TL_Law_rounds_4 486 (by omega)).trans (lk_head rfl))).trans rfl
theorem i_Law_rounds_488 : opAt m_Law_rounds 488 = sIld 14 490 := (opAt_of (M := m_Law_rounds) (i := .iload 14) (n := 2) ((TL_Law_rounds_4 488 (by omega)).trans (lk_head rfl))).trans rfl
theorem i_Law_rounds_490 : opAt m_Law_rounds 490 = sIf .lt 624 493 := (opAt_of (M := m_Law_rounds) (i := .ifCond .lt 134) (n := 3) ((TL_Law_rounds_4 490 (by omega)).trans (lk_head rfl))).trans rfl
theorem i_Law_rounds_493 : opAt m_Law_rounds 493 = sAld 12 495 := (opAt_of (M := m_Law_rounds) (i := .aload 12) (n := 2) ((TL_Law_rounds_4 493 (by omega)).trans (lk_head rfl))).trans rfl
theorem i_Law_rounds_495 : opAt m_Law_rounds 495 = sPush (.int (Int32.ofInt 2)) 496 := (opAt_of (M := m_Law_rounds) (i := .iconst 2) (n := 1) ((TL_Law_rounds_4 495 (by omega)).trans (lk_head rfl))).trans rfl
theorem i_Law_rounds_496 : opAt m_Law_rounds 496 = sIld 13 498 := (opAt_of (M := m_Law_rounds) (i := .iload 13) (n := 2) ((TL_Law_rounds_4 496 (by omega)).trans (lk_head rfl))).trans rfl
theorem i_Law_rounds_498 : opAt m_Law_rounds 498 = sIas 499 := (opAt_of (M := m_Law_rounds) (i := .iastore) (n := 1) ((TL_Law_rounds_4 498 (by omega)).trans (lk_head rfl))).trans rfl
theorem i_Law_rounds_499 : opAt m_Law_rounds 499 = sAld 12 501 := (opAt_of (M := m_Law_rounds) (i := .aload 12) (n := 2) ((TL_Law_rounds_4 499 (by omega)).trans (lk_head rfl))).trans rfl
theorem i_Law_rounds_501 : opAt m_Law_rounds 501 = sPush (.int (Int32.ofInt 3)) 502 := (opAt_of (M := m_Law_rounds) (i := .iconst 3) (n := 1) ((TL_Law_rounds_4 501 (by omega)).trans (lk_head rfl))).trans rfl
theorem i_Law_rounds_502 : opAt m_Law_rounds 502 = sIld 14 504 := (opAt_of (M := m_Law_rounds) (i := .iload 14) (n := 2) ((TL_Law_rounds_4 502 (by omega)).trans (lk_head rfl))).trans rfl
theorem i_Law_rounds_504 : opAt m_Law_rounds 504 = sIas 505 := (opAt_of (M := m_Law_rounds) (i := .iastore) (n := 1) ((TL_Law_rounds_4 504 (by omega)).trans (lk_head rfl))).trans rfl
theorem i_Law_rounds_505 : opAt m_Law_rounds 505 = sPush (.int (Int32.ofInt 0)) 506 := (opAt_of (M := m_Law_rounds) (i := .iconst 0) (n := 1) ((TL_Law_rounds_4 505 (by omega)).trans (lk_head rfl))).trans rfl
theorem i_Law_rounds_506 : opAt m_Law_rounds 506 = sIst 15 508 := (opAt_of (M := m_Law_rounds) (i := .istore 15) (n := 2) ((TL_Law_rounds_4 506 (by omega)).trans (lk_head rfl))).trans rfl
theorem i_Law_rounds_508 : opAt m_Law_rounds 508 = sPush (.int (Int32.ofInt 1)) 509 := (opAt_of (M := m_Law_rounds) (i := .iconst 1) (n := 1) ((TL_Law_rounds_4 508 (by omega)).trans (lk_head rfl))).trans rfl
theorem i_Law_rounds_509 : opAt m_Law_rounds 509 = sIst 16 511 := (opAt_of (M := m_Law_rounds) (i := .istore 16) (n := 2) ((TL_Law_rounds_4 509 (by omega)).trans (lk_head rfl))).trans rfl
theorem i_Law_rounds_511 : opAt m_Law_rounds 511 = sPush (.int (Int32.ofInt 0)) 512 := (opAt_of (M := m_Law_rounds) (i := .iconst 0) (n := 1) ((TL_Law_rounds_4 511 (by omega)).trans (lk_head rfl))).trans rfl
theorem i_Law_rounds_512 : opAt m_Law_rounds 512 = sIst 17 514 := (opAt_of (M := m_Law_rounds) (i := .istore 17) (n := 2) ((TL_Law_rounds_4 512 (by omega)).trans (lk_head rfl))).trans rfl
theorem i_Law_rounds_514 : opAt m_Law_rounds 514 = sIld 17 516 := (opAt_of (M := m_Law_rounds) (i := .iload 17) (n := 2) ((TL_Law_rounds_4 514 (by omega)).trans (lk_head rfl))).trans rfl
theorem i_Law_rounds_516 : opAt m_Law_rounds 516 = sAld 2 517 := (opAt_of (M := m_Law_rounds) (i := .aload_n 2) (n := 1) ((TL_Law_rounds_4 516 (by omega)).trans (lk_head rfl))).trans rfl
theorem i_Law_rounds_517 : opAt m_Law_rounds 517 = sPush (.int (Int8.ofInt 48).toInt32) 519 := (opAt_of (M := m_Law_rounds) (i := .bipush 48) (n := 2) ((TL_Law_rounds_4 517 (by omega)).trans (lk_head rfl))).trans rfl
theorem i_Law_rounds_519 : opAt m_Law_rounds 519 = sIal 520 := (opAt_of (M := m_Law_rounds) (i := .iaload) (n := 1) ((TL_Law_rounds_4 519 (by omega)).trans (lk_head rfl))).trans rfl
theorem i_Law_rounds_520 : opAt m_Law_rounds 520 = sCm .ge 591 523 := (opAt_of (M := m_Law_rounds) (i := .if_icmp .ge 71) (n := 3) ((TL_Law_rounds_4 520 (by omega)).trans (lk_head rfl))).trans rfl
theorem i_Law_rounds_523 : opAt m_Law_rounds 523 = sAld 12 525 := (opAt_of (M := m_Law_rounds) (i := .aload 12) (n := 2) ((TL_Law_rounds_4 523 (by omega)).trans (lk_head rfl))).trans rfl
theorem i_Law_rounds_525 : opAt m_Law_rounds 525 = sPush (.int (Int32.ofInt 0)) 526 := (opAt_of (M := m_Law_rounds) (i := .iconst 0) (n := 1) ((TL_Law_rounds_4 525 (by omega)).trans (lk_head rfl))).trans rfl
theorem i_Law_rounds_526 : opAt m_Law_rounds 526 = sIld 17 528 := (opAt_of (M := m_Law_rounds) (i := .iload 17) (n := 2) ((TL_Law_rounds_4 526 (by omega)).trans (lk_head rfl))).trans rfl
theorem i_Law_rounds_528 : opAt m_Law_rounds 528 = sSta m_Law_leaves 0 3 531 := (opAt_of (M := m_Law_rounds) (i := .invokestatic 35) (n := 3) ((TL_Law_rounds_4 528 (by omega)).trans (lk_head rfl))).trans rfl
theorem i_Law_rounds_531 : opAt m_Law_rounds 531 = sIf .ne 537 534 := (opAt_of (M := m_Law_rounds) (i := .ifCond .ne 6) (n := 3) ((TL_Law_rounds_4 531 (by omega)).trans (lk_head rfl))).trans rfl
theorem i_Law_rounds_534 : opAt m_Law_rounds 534 = sGo 585 := (opAt_of (M := m_Law_rounds) (i := .goto 51) (n := 3) ((TL_Law_rounds_4 534 (by omega)).trans (lk_head rfl))).trans rfl
theorem i_Law_rounds_537 : opAt m_Law_rounds 537 = sInc 15 1 540 := (opAt_of (M := m_Law_rounds) (i := .iinc 15 1) (n := 3) ((TL_Law_rounds_4 537 (by omega)).trans (lk_head rfl))).trans rfl
theorem i_Law_rounds_540 : opAt m_Law_rounds 540 = sIld 16 542 := (opAt_of (M := m_Law_rounds) (i := .iload 16) (n := 2) ((TL_Law_rounds_4 540 (by omega)).trans (lk_head rfl))).trans rfl
theorem i_Law_rounds_542 : opAt m_Law_rounds 542 = sAld 2 543 := (opAt_of (M := m_Law_rounds) (i := .aload_n 2) (n := 1) ((TL_Law_rounds_4 542 (by omega)).trans (lk_head rfl))).trans rfl
theorem i_Law_rounds_543 : opAt m_Law_rounds 543 = sIld 9 545 := (opAt_of (M := m_Law_rounds) (i := .iload 9) (n := 2) ((TL_Law_rounds_4 543 (by omega)).trans (lk_head rfl))).trans rfl
theorem i_Law_rounds_545 : opAt m_Law_rounds 545 = sIf .eq 560 548 := (opAt_of (M := m_Law_rounds) (i := .ifCond .eq 15) (n := 3) ((TL_Law_rounds_4 545 (by omega)).trans (lk_head rfl))).trans rfl
theorem i_Law_rounds_548 : opAt m_Law_rounds 548 = sAld 2 549 := (opAt_of (M := m_Law_rounds) (i := .aload_n 2) (n := 1) ((TL_Law_rounds_4 548 (by omega)).trans (lk_head rfl))).trans rfl
theorem i_Law_rounds_549 : opAt m_Law_rounds 549 = sPush (.int (Int8.ofInt 48).toInt32) 551 := (opAt_of (M := m_Law_rounds) (i := .bipush 48) (n := 2) ((TL_Law_rounds_4 549 (by omega)).trans (lk_head rfl))).trans rfl
theorem i_Law_rounds_551 : opAt m_Law_rounds 551 = sIal 552 := (opAt_of (M := m_Law_rounds) (i := .iaload) (n := 1) ((TL_Law_rounds_4 551 (by omega)).trans (lk_head rfl))).trans rfl
theorem i_Law_rounds_552 : opAt m_Law_rounds 552 = sPush (.int (Int32.ofInt 1)) 553 := (opAt_of (M := m_Law_rounds) (i := .iconst 1) (n := 1) ((TL_Law_rounds_5 552 (by omega)).trans (lk_head rfl))).trans rfl
theorem i_Law_rounds_553 : opAt m_Law_rounds 553 = sBI (fun x y => x - y) 554 := (opAt_of (M := m_Law_rounds) (i := .isub) (n := 1) ((TL_Law_rounds_5 553 (by omega)).trans (lk_head rfl))).trans rfl
theorem i_Law_rounds_554 : opAt m_Law_rounds 554 = sIld 17 556 := (opAt_of (M := m_Law_rounds) (i := .iload 17) (n := 2) ((TL_Law_rounds_5 554 (by omega)).trans (lk_head rfl))).trans rfl
theorem i_Law_rounds_556 : opAt m_Law_rounds 556 = sBI (fun x y => x - y) 557 := (opAt_of (M := m_Law_rounds) (i := .isub) (n := 1) ((TL_Law_rounds_5 556 (by omega)).trans (lk_head rfl))).trans rfl
theorem i_Law_rounds_557 : opAt m_Law_rounds 557 = sGo 562 := (opAt_of (M := m_Law_rounds) (i := .goto 5) (n := 3) ((TL_Law_rounds_5 557 (by omega)).trans (lk_head rfl))).trans rfl
theorem i_Law_rounds_560 : opAt m_Law_rounds 560 = sIld 17 562 := (opAt_of (M := m_Law_rounds) (i := .iload 17) (n := 2) ((TL_Law_rounds_5 560 (by omega)).trans (lk_head rfl))).trans rfl
theorem i_Law_rounds_562 : opAt m_Law_rounds 562 = sIal 563 := (opAt_of (M := m_Law_rounds) (i := .iaload) (n := 1) ((TL_Law_rounds_5 562 (by omega)).trans (lk_head rfl))).trans rfl
theorem i_Law_rounds_563 : opAt m_Law_rounds 563 = sIld 6 565 := (opAt_of (M := m_Law_rounds) (i := .iload 6) (n := 2) ((TL_Law_rounds_5 563 (by omega)).trans (lk_head rfl))).trans rfl
theorem i_Law_rounds_565 : opAt m_Law_rounds 565 = sSta m_Law_marks 0 2 568 := (opAt_of (M := m_Law_rounds) (i := .invokestatic 39) (n := 3) ((TL_Law_rounds_5 565 (by omega)).trans (lk_head rfl))).trans rfl
theorem i_Law_rounds_568 : opAt m_Law_rounds 568 = sIld 5 570 := (opAt_of (M := m_Law_rounds) (i := .iload 5) (n := 2) ((TL_Law_rounds_5 568 (by omega)).trans (lk_head rfl))).trans rfl
theorem i_Law_rounds_570 : opAt m_Law_rounds 570 = sBI (fun x y => x >>> (y &&& 31)) 571 := (opAt_of (M := m_Law_rounds) (i := .ishr) (n := 1) ((TL_Law_rounds_5 570 (by omega)).trans (lk_head rfl))).trans rfl
theorem i_Law_rounds_571 : opAt m_Law_rounds 571 = sPush (.int (Int32.ofInt 1)) 572 := (opAt_of (M := m_Law_rounds) (i := .iconst 1) (n := 1) ((TL_Law_rounds_5 571 (by omega)).trans (lk_head rfl))).trans rfl
theorem i_Law_rounds_572 : opAt m_Law_rounds 572 = sBI (fun x y => x &&& y) 573 := (opAt_of (M := m_Law_rounds) (i := .iand) (n := 1) ((TL_Law_rounds_5 572 (by omega)).trans (lk_head rfl))).trans rfl
theorem i_Law_rounds_573 : opAt m_Law_rounds 573 = sPush (.int (Int32.ofInt 1)) 574 := (opAt_of (M := m_Law_rounds) (i := .iconst 1) (n := 1) ((TL_Law_rounds_5 573 (by omega)).trans (lk_head rfl))).trans rfl
theorem i_Law_rounds_574 : opAt m_Law_rounds 574 = sCm .ne 581 577 := (opAt_of (M := m_Law_rounds) (i := .if_icmp .ne 7) (n := 3) ((TL_Law_rounds_5 574 (by omega)).trans (lk_head rfl))).trans rfl
theorem i_Law_rounds_577 : opAt m_Law_rounds 577 = sPush (.int (Int32.ofInt 1)) 578 := (opAt_of (M := m_Law_rounds) (i := .iconst 1) (n := 1) ((TL_Law_rounds_5 577 (by omega)).trans (lk_head rfl))).trans rfl
theorem i_Law_rounds_578 : opAt m_Law_rounds 578 = sGo 582 := (opAt_of (M := m_Law_rounds) (i := .goto 4) (n := 3) ((TL_Law_rounds_5 578 (by omega)).trans (lk_head rfl))).trans rfl
theorem i_Law_rounds_581 : opAt m_Law_rounds 581 = sPush (.int (Int32.ofInt 0)) 582 := (opAt_of (M := m_Law_rounds) (i := .iconst 0) (n := 1) ((TL_Law_rounds_5 581 (by omega)).trans (lk_head rfl))).trans rfl
theorem i_Law_rounds_582 : opAt m_Law_rounds 582 = sBI (fun x y => x &&& y) 583 := (opAt_of (M := m_Law_rounds) (i := .iand) (n := 1) ((TL_Law_rounds_5 582 (by omega)).trans (lk_head rfl))).trans rfl
theorem i_Law_rounds_583 : opAt m_Law_rounds 583 = sIst 16 585 := (opAt_of (M := m_Law_rounds) (i := .istore 16) (n := 2) ((TL_Law_rounds_5 583 (by omega)).trans (lk_head rfl))).trans rfl
theorem i_Law_rounds_585 : opAt m_Law_rounds 585 = sInc 17 1 588 := (opAt_of (M := m_Law_rounds) (i := .iinc 17 1) (n := 3) ((TL_Law_rounds_5 585 (by omega)).trans (lk_head rfl))).trans rfl
theorem i_Law_rounds_588 : opAt m_Law_rounds 588 = sGo 514 := (opAt_of (M := m_Law_rounds) (i := .goto (-74)) (n := 3) ((TL_Law_rounds_5 588 (by omega)).trans (lk_head rfl))).trans rfl
theorem i_Law_rounds_591 : opAt m_Law_rounds 591 = sIld 16 593 := (opAt_of (M := m_Law_rounds) (i := .iload 16) (n := 2) ((TL_Law_rounds_5 591 (by omega)).trans (lk_head rfl))).trans rfl
theorem i_Law_rounds_593 : opAt m_Law_rounds 593 = sIf .eq 618 596 := (opAt_of (M := m_Law_rounds) (i := .ifCond .eq 25) (n := 3) ((TL_Law_rounds_5 593 (by omega)).trans (lk_head rfl))).trans rfl
theorem i_Law_rounds_596 : opAt m_Law_rounds 596 = sIld 15 598 := (opAt_of (M := m_Law_rounds) (i := .iload 15) (n := 2) ((TL_Law_rounds_5 596 (by omega)).trans (lk_head rfl))).trans rfl
theorem i_Law_rounds_598 : opAt m_Law_rounds 598 = sPush (.int (Int32.ofInt 3)) 599 := (opAt_of (M := m_Law_rounds) (i := .iconst 3) (n := 1) ((TL_Law_rounds_5 598 (by omega)).trans (lk_head rfl))).trans rfl
theorem i_Law_rounds_599 : opAt m_Law_rounds 599 = sCm .ge 605 602 := (opAt_of (M := m_Law_rounds) (i := .if_icmp .ge 6) (n := 3) ((TL_Law_rounds_5 599 (by omega)).trans (lk_head rfl))).trans rfl
theorem i_Law_rounds_602 : opAt m_Law_rounds 602 = sGo 618 := (opAt_of (M := m_Law_rounds) (i := .goto 16) (n := 3) ((TL_Law_rounds_5 602 (by omega)).trans (lk_head rfl))).trans rfl
theorem i_Law_rounds_605 : opAt m_Law_rounds 605 = sInc 10 1 608 := (opAt_of (M := m_Law_rounds) (i := .iinc 10 1) (n := 3) ((TL_Law_rounds_5 605 (by omega)).trans (lk_head rfl))).trans rfl
theorem i_Law_rounds_608 : opAt m_Law_rounds 608 = sPush (.int (Int8.ofInt 10).toInt32) 610 := (opAt_of (M := m_Law_rounds) (i := .bipush 10) (n := 2) ((TL_Law_rounds_5 608 (by omega)).trans (lk_head rfl))).trans rfl
theorem i_Law_rounds_610 : opAt m_Law_rounds 610 = sIld 13 612 := (opAt_of (M := m_Law_rounds) (i := .iload 13) (n := 2) ((TL_Law_rounds_5 610 (by omega)).trans (lk_head rfl))).trans rfl
theorem i_Law_rounds_612 : opAt m_Law_rounds 612 = sBI (fun x y => x * y) 613 := (opAt_of (M := m_Law_rounds) (i := .imul) (n := 1) ((TL_Law_rounds_5 612 (by omega)).trans (lk_head rfl))).trans rfl
theorem i_Law_rounds_613 : opAt m_Law_rounds 613 = sIld 14 615 := (opAt_of (M := m_Law_rounds) (i := .iload 14) (n := 2) ((TL_Law_rounds_5 613 (by omega)).trans (lk_head rfl))).trans rfl
theorem i_Law_rounds_615 : opAt m_Law_rounds 615 = sBI (fun x y => x + y) 616 := (opAt_of (M := m_Law_rounds) (i := .iadd) (n := 1) ((TL_Law_rounds_5 615 (by omega)).trans (lk_head rfl))).trans rfl
theorem i_Law_rounds_616 : opAt m_Law_rounds 616 = sIst 11 618 := (opAt_of (M := m_Law_rounds) (i := .istore 11) (n := 2) ((TL_Law_rounds_5 616 (by omega)).trans (lk_head rfl))).trans rfl
theorem i_Law_rounds_618 : opAt m_Law_rounds 618 = sInc 14 (-1) 621 := (opAt_of (M := m_Law_rounds) (i := .iinc 14 (-1)) (n := 3) ((TL_Law_rounds_5 618 (by omega)).trans (lk_head rfl))).trans rfl
theorem i_Law_rounds_621 : opAt m_Law_rounds 621 = sGo 488 := (opAt_of (M := m_Law_rounds) (i := .goto (-133)) (n := 3) ((TL_Law_rounds_5 621 (by omega)).trans (lk_head rfl))).trans rfl
theorem i_Law_rounds_624 : opAt m_Law_rounds 624 = sInc 13 (-1) 627 := (opAt_of (M := m_Law_rounds) (i := .iinc 13 (-1)) (n := 3) ((TL_Law_rounds_5 624 (by omega)).trans (lk_head rfl))).trans rfl
theorem i_Law_rounds_627 : opAt m_Law_rounds 627 = sGo 479 := (opAt_of (M := m_Law_rounds) (i := .goto (-148)) (n := 3) ((TL_Law_rounds_5 627 (by omega)).trans (lk_head rfl))).trans rfl
theorem i_Law_rounds_630 : opAt m_Law_rounds 630 = sAld 0 631 := (opAt_of (M := m_Law_rounds) (i := .aload_n 0) (n := 1) ((TL_Law_rounds_5 630 (by omega)).trans (lk_head rfl))).trans rfl
theorem i_Law_rounds_631 : opAt m_Law_rounds 631 = sIld 3 632 := (opAt_of (M := m_Law_rounds) (i := .iload_n 3) (n := 1) ((TL_Law_rounds_5 631 (by omega)).trans (lk_head rfl))).trans rfl
theorem i_Law_rounds_632 : opAt m_Law_rounds 632 = sIld 5 634 := (opAt_of (M := m_Law_rounds) (i := .iload 5) (n := 2) ((TL_Law_rounds_5 632 (by omega)).trans (lk_head rfl))).trans rfl
theorem i_Law_rounds_634 : opAt m_Law_rounds 634 = sIld 6 636 := (opAt_of (M := m_Law_rounds) (i := .iload 6) (n := 2) ((TL_Law_rounds_5 634 (by omega)).trans (lk_head rfl))).trans rfl
theorem i_Law_rounds_636 : opAt m_Law_rounds 636 = sIld 9 638 := (opAt_of (M := m_Law_rounds) (i := .iload 9) (n := 2) ((TL_Law_rounds_5 636 (by omega)).trans (lk_head rfl))).trans rfl
theorem i_Law_rounds_638 : opAt m_Law_rounds 638 = sPush (.int (Int32.ofInt 0)) 639 := (opAt_of (M := m_Law_rounds) (i := .iconst 0) (n := 1) ((TL_Law_rounds_5 638 (by omega)).trans (lk_head rfl))).trans rfl
theorem i_Law_rounds_639 : opAt m_Law_rounds 639 = sVir [(10, m_Fi_wound)] 0 5 642 := (opAt_of (M := m_Law_rounds) (i := .invokevirtual 125) (n := 3) ((TL_Law_rounds_5 639 (by omega)).trans (lk_head rfl))).trans rfl
theorem i_Law_rounds_642 : opAt m_Law_rounds 642 = sIld 10 644 := (opAt_of (M := m_Law_rounds) (i := .iload 10) (n := 2) ((TL_Law_rounds_5 642 (by omega)).trans (lk_head rfl))).trans rfl
theorem i_Law_rounds_644 : opAt m_Law_rounds 644 = sCm .ne 813 647 := (opAt_of (M := m_Law_rounds) (i := .if_icmp .ne 169) (n := 3) ((TL_Law_rounds_5 644 (by omega)).trans (lk_head rfl))).trans rfl
theorem i_Law_rounds_647 : opAt m_Law_rounds 647 = sAld 0 648 := (opAt_of (M := m_Law_rounds) (i := .aload_n 0) (n := 1) ((TL_Law_rounds_5 647 (by omega)).trans (lk_head rfl))).trans rfl
theorem i_Law_rounds_648 : opAt m_Law_rounds 648 = sIld 3 649 := (opAt_of (M := m_Law_rounds) (i := .iload_n 3) (n := 1) ((TL_Law_rounds_5 648 (by omega)).trans (lk_head rfl))).trans rfl
theorem i_Law_rounds_649 : opAt m_Law_rounds 649 = sIld 5 651 := (opAt_of (M := m_Law_rounds) (i := .iload 5) (n := 2) ((TL_Law_rounds_5 649 (by omega)).trans (lk_head rfl))).trans rfl
theorem i_Law_rounds_651 : opAt m_Law_rounds 651 = sIld 6 653 := (opAt_of (M := m_Law_rounds) (i := .iload 6) (n := 2) ((TL_Law_rounds_5 651 (by omega)).trans (lk_head rfl))).trans rfl
theorem i_Law_rounds_653 : opAt m_Law_rounds 653 = sIld 9 655 := (opAt_of (M := m_Law_rounds) (i := .iload 9) (n := 2) ((TL_Law_rounds_5 653 (by omega)).trans (lk_head rfl))).trans rfl
theorem i_Law_rounds_655 : opAt m_Law_rounds 655 = sPush (.int (Int32.ofInt 1)) 656 := (opAt_of (M := m_Law_rounds) (i := .iconst 1) (n := 1) ((TL_Law_rounds_5 655 (by omega)).trans (lk_head rfl))).trans rfl
theorem i_Law_rounds_656 : opAt m_Law_rounds 656 = sVir [(10, m_Fi_wound)] 0 5 659 := (opAt_of (M := m_Law_rounds) (i := .invokevirtual 125) (n := 3) ((TL_Law_rounds_5 656 (by omega)).trans (lk_head rfl))).trans rfl
theorem i_Law_rounds_659 : opAt m_Law_rounds 659 = sIld 11 661 := (opAt_of (M := m_Law_rounds) (i := .iload 11) (n := 2) ((TL_Law_rounds_5 659 (by omega)).trans (lk_head rfl))).trans rfl
theorem i_Law_rounds_661 : opAt m_Law_rounds 661 = sIf .ge 668 664 := (opAt_of (M := m_Law_rounds) (i := .ifCond .ge 7) (n := 3) ((TL_Law_rounds_5 661 (by omega)).trans (lk_head rfl))).trans rfl
theorem i_Law_rounds_664 : opAt m_Law_rounds 664 = sPush (.int (Int32.ofInt (-1))) 665 := (opAt_of (M := m_Law_rounds) (i := .iconst (-1)) (n := 1) ((TL_Law_rounds_5 664 (by omega)).trans (lk_head rfl))).trans rfl
theorem i_Law_rounds_665 : opAt m_Law_rounds 665 = sGo 673 := (opAt_of (M := m_Law_rounds) (i := .goto 8) (n := 3) ((TL_Law_rounds_5 665 (by omega)).trans (lk_head rfl))).trans rfl
theorem i_Law_rounds_668 : opAt m_Law_rounds 668 = sIld 11 670 := (opAt_of (M := m_Law_rounds) (i := .iload 11) (n := 2) ((TL_Law_rounds_5 668 (by omega)).trans (lk_head rfl))).trans rfl
theorem i_Law_rounds_670 : opAt m_Law_rounds 670 = sPush (.int (Int8.ofInt 10).toInt32) 672 := (opAt_of (M := m_Law_rounds) (i := .bipush 10) (n := 2) ((TL_Law_rounds_6 670 (by omega)).trans (lk_head rfl))).trans rfl
theorem i_Law_rounds_672 : opAt m_Law_rounds 672 = sDI (fun x y => x / y) 673 := (opAt_of (M := m_Law_rounds) (i := .idiv) (n := 1) ((TL_Law_rounds_6 672 (by omega)).trans (lk_head rfl))).trans rfl
theorem i_Law_rounds_673 : opAt m_Law_rounds 673 = sCm .ne 813 676 := (opAt_of (M := m_Law_rounds) (i := .if_icmp .ne 140) (n := 3) ((TL_Law_rounds_6 673 (by omega)).trans (lk_head rfl))).trans rfl
theorem i_Law_rounds_676 : opAt m_Law_rounds 676 = sAld 0 677 := (opAt_of (M := m_Law_rounds) (i := .aload_n 0) (n := 1) ((TL_Law_rounds_6 676 (by omega)).trans (lk_head rfl))).trans rfl
theorem i_Law_rounds_677 : opAt m_Law_rounds 677 = sIld 3 678 := (opAt_of (M := m_Law_rounds) (i := .iload_n 3) (n := 1) ((TL_Law_rounds_6 677 (by omega)).trans (lk_head rfl))).trans rfl
theorem i_Law_rounds_678 : opAt m_Law_rounds 678 = sIld 5 680 := (opAt_of (M := m_Law_rounds) (i := .iload 5) (n := 2) ((TL_Law_rounds_6 678 (by omega)).trans (lk_head rfl))).trans rfl
theorem i_Law_rounds_680 : opAt m_Law_rounds 680 = sIld 6 682 := (opAt_of (M := m_Law_rounds) (i := .iload 6) (n := 2) ((TL_Law_rounds_6 680 (by omega)).trans (lk_head rfl))).trans rfl
theorem i_Law_rounds_682 : opAt m_Law_rounds 682 = sIld 9 684 := (opAt_of (M := m_Law_rounds) (i := .iload 9) (n := 2) ((TL_Law_rounds_6 682 (by omega)).trans (lk_head rfl))).trans rfl
theorem i_Law_rounds_684 : opAt m_Law_rounds 684 = sPush (.int (Int32.ofInt 2)) 685 := (opAt_of (M := m_Law_rounds) (i := .iconst 2) (n := 1) ((TL_Law_rounds_6 684 (by omega)).trans (lk_head rfl))).trans rfl
theorem i_Law_rounds_685 : opAt m_Law_rounds 685 = sVir [(10, m_Fi_wound)] 0 5 688 := (opAt_of (M := m_Law_rounds) (i := .invokevirtual 125) (n := 3) ((TL_Law_rounds_6 685 (by omega)).trans (lk_head rfl))).trans rfl
theorem i_Law_rounds_688 : opAt m_Law_rounds 688 = sIld 11 690 := (opAt_of (M := m_Law_rounds) (i := .iload 11) (n := 2) ((TL_Law_rounds_6 688 (by omega)).trans (lk_head rfl))).trans rfl
theorem i_Law_rounds_690 : opAt m_Law_rounds 690 = sIf .ge 697 693 := (opAt_of (M := m_Law_rounds) (i := .ifCond .ge 7) (n := 3) ((TL_Law_rounds_6 690 (by omega)).trans (lk_head rfl))).trans rfl
theorem i_Law_rounds_693 : opAt m_Law_rounds 693 = sPush (.int (Int32.ofInt (-1))) 694 := (opAt_of (M := m_Law_rounds) (i := .iconst (-1)) (n := 1) ((TL_Law_rounds_6 693 (by omega)).trans (lk_head rfl))).trans rfl
theorem i_Law_rounds_694 : opAt m_Law_rounds 694 = sGo 702 := (opAt_of (M := m_Law_rounds) (i := .goto 8) (n := 3) ((TL_Law_rounds_6 694 (by omega)).trans (lk_head rfl))).trans rfl
theorem i_Law_rounds_697 : opAt m_Law_rounds 697 = sIld 11 699 := (opAt_of (M := m_Law_rounds) (i := .iload 11) (n := 2) ((TL_Law_rounds_6 697 (by omega)).trans (lk_head rfl))).trans rfl
theorem i_Law_rounds_699 : opAt m_Law_rounds 699 = sPush (.int (Int8.ofInt 10).toInt32) 701 := (opAt_of (M := m_Law_rounds) (i := .bipush 10) (n := 2) ((TL_Law_rounds_6 699 (by omega)).trans (lk_head rfl))).trans rfl
theorem i_Law_rounds_701 : opAt m_Law_rounds 701 = sDI (fun x y => x - x / y * y) 702 := (opAt_of (M := m_Law_rounds) (i := .irem) (n := 1) ((TL_Law_rounds_6 701 (by omega)).trans (lk_head rfl))).trans rfl
theorem i_Law_rounds_702 : opAt m_Law_rounds 702 = sCm .ne 813 705 := (opAt_of (M := m_Law_rounds) (i := .if_icmp .ne 111) (n := 3) ((TL_Law_rounds_6 702 (by omega)).trans (lk_head rfl))).trans rfl
theorem i_Law_rounds_705 : opAt m_Law_rounds 705 = sAld 0 706 := (opAt_of (M := m_Law_rounds) (i := .aload_n 0) (n := 1) ((TL_Law_rounds_6 705 (by omega)).trans (lk_head rfl))).trans rfl
theorem i_Law_rounds_706 : opAt m_Law_rounds 706 = sIld 3 707 := (opAt_of (M := m_Law_rounds) (i := .iload_n 3) (n := 1) ((TL_Law_rounds_6 706 (by omega)).trans (lk_head rfl))).trans rfl
theorem i_Law_rounds_707 : opAt m_Law_rounds 707 = sPush (.int (Int8.ofInt 8).toInt32) 709 := (opAt_of (M := m_Law_rounds) (i := .bipush 8) (n := 2) ((TL_Law_rounds_6 707 (by omega)).trans (lk_head rfl))).trans rfl
theorem i_Law_rounds_709 : opAt m_Law_rounds 709 = sPush (.int (Int32.ofInt 0)) 710 := (opAt_of (M := m_Law_rounds) (i := .iconst 0) (n := 1) ((TL_Law_rounds_6 709 (by omega)).trans (lk_head rfl))).trans rfl
theorem i_Law_rounds_710 : opAt m_Law_rounds 710 = sPush (.int (Int32.ofInt 1)) 711 := (opAt_of (M := m_Law_rounds) (i := .iconst 1) (n := 1) ((TL_Law_rounds_6 710 (by omega)).trans (lk_head rfl))).trans rfl
theorem i_Law_rounds_711 : opAt m_Law_rounds 711 = sPush (.int (Int32.ofInt 0)) 712 := (opAt_of (M := m_Law_rounds) (i := .iconst 0) (n := 1) ((TL_Law_rounds_6 711 (by omega)).trans (lk_head rfl))).trans rfl
theorem i_Law_rounds_712 : opAt m_Law_rounds 712 = sVir [(10, m_Fi_wound)] 0 5 715 := (opAt_of (M := m_Law_rounds) (i := .invokevirtual 125) (n := 3) ((TL_Law_rounds_6 712 (by omega)).trans (lk_head rfl))).trans rfl
theorem i_Law_rounds_715 : opAt m_Law_rounds 715 = sPush (.int (Int8.ofInt (-102)).toInt32) 717 := (opAt_of (M := m_Law_rounds) (i := .bipush (-102)) (n := 2) ((TL_Law_rounds_6 715 (by omega)).trans (lk_head rfl))).trans rfl
theorem i_Law_rounds_717 : opAt m_Law_rounds 717 = sCm .ne 813 720 := (opAt_of (M := m_Law_rounds) (i := .if_icmp .ne 96) (n := 3) ((TL_Law_rounds_6 717 (by omega)).trans (lk_head rfl))).trans rfl
theorem i_Law_rounds_720 : opAt m_Law_rounds 720 = sAld 0 721 := (opAt_of (M := m_Law_rounds) (i := .aload_n 0) (n := 1) ((TL_Law_rounds_6 720 (by omega)).trans (lk_head rfl))).trans rfl
theorem i_Law_rounds_721 : opAt m_Law_rounds 721 = sPush (.int (Int32.ofInt 2)) 722 := (opAt_of (M := m_Law_rounds) (i := .iconst 2) (n := 1) ((TL_Law_rounds_6 721 (by omega)).trans (lk_head rfl))).trans rfl
theorem i_Law_rounds_722 : opAt m_Law_rounds 722 = sPush (.int (Int32.ofInt 0)) 723 := (opAt_of (M := m_Law_rounds) (i := .iconst 0) (n := 1) ((TL_Law_rounds_6 722 (by omega)).trans (lk_head rfl))).trans rfl
theorem i_Law_rounds_723 : opAt m_Law_rounds 723 = sPush (.int (Int32.ofInt 0)) 724 := (opAt_of (M := m_Law_rounds) (i := .iconst 0) (n := 1) ((TL_Law_rounds_6 723 (by omega)).trans (lk_head rfl))).trans rfl
theorem i_Law_rounds_724 : opAt m_Law_rounds 724 = sPush (.int (Int32.ofInt 1)) 725 := (opAt_of (M := m_Law_rounds) (i := .iconst 1) (n := 1) ((TL_Law_rounds_6 724 (by omega)).trans (lk_head rfl))).trans rfl
theorem i_Law_rounds_725 : opAt m_Law_rounds 725 = sPush (.int (Int32.ofInt 0)) 726 := (opAt_of (M := m_Law_rounds) (i := .iconst 0) (n := 1) ((TL_Law_rounds_6 725 (by omega)).trans (lk_head rfl))).trans rfl
theorem i_Law_rounds_726 : opAt m_Law_rounds 726 = sVir [(10, m_Fi_wound)] 0 5 729 := (opAt_of (M := m_Law_rounds) (i := .invokevirtual 125) (n := 3) ((TL_Law_rounds_6 726 (by omega)).trans (lk_head rfl))).trans rfl
theorem i_Law_rounds_729 : opAt m_Law_rounds 729 = sPush (.int (Int8.ofInt (-101)).toInt32) 731 := (opAt_of (M := m_Law_rounds) (i := .bipush (-101)) (n := 2) ((TL_Law_rounds_6 729 (by omega)).trans (lk_head rfl))).trans rfl
theorem i_Law_rounds_731 : opAt m_Law_rounds 731 = sCm .ne 813 734 := (opAt_of (M := m_Law_rounds) (i := .if_icmp .ne 82) (n := 3) ((TL_Law_rounds_6 731 (by omega)).trans (lk_head rfl))).trans rfl
theorem i_Law_rounds_734 : opAt m_Law_rounds 734 = sAld 0 735 := (opAt_of (M := m_Law_rounds) (i := .aload_n 0) (n := 1) ((TL_Law_rounds_6 734 (by omega)).trans (lk_head rfl))).trans rfl
theorem i_Law_rounds_735 : opAt m_Law_rounds 735 = sIld 3 736 := (opAt_of (M := m_Law_rounds) (i := .iload_n 3) (n := 1) ((TL_Law_rounds_6 735 (by omega)).trans (lk_head rfl))).trans rfl
theorem i_Law_rounds_736 : opAt m_Law_rounds 736 = sPush (.int (Int32.ofInt 0)) 737 := (opAt_of (M := m_Law_rounds) (i := .iconst 0) (n := 1) ((TL_Law_rounds_6 736 (by omega)).trans (lk_head rfl))).trans rfl
theorem i_Law_rounds_737 : opAt m_Law_rounds 737 = sPush (.int (Int32.ofInt 3)) 738 := (opAt_of (M := m_Law_rounds) (i := .iconst 3) (n := 1) ((TL_Law_rounds_6 737 (by omega)).trans (lk_head rfl))).trans rfl
theorem i_Law_rounds_738 : opAt m_Law_rounds 738 = sVir [(10, m_Fi_rounds)] 0 3 741 := (opAt_of (M := m_Law_rounds) (i := .invokevirtual 123) (n := 3) ((TL_Law_rounds_6 738 (by omega)).trans (lk_head rfl))).trans rfl
theorem i_Law_rounds_741 : opAt m_Law_rounds 741 = sPush (.int (Int8.ofInt (-102)).toInt32) 743 := (opAt_of (M := m_Law_rounds) (i := .bipush (-102)) (n := 2) ((TL_Law_rounds_6 741 (by omega)).trans (lk_head rfl))).trans rfl
theorem i_Law_rounds_743 : opAt m_Law_rounds 743 = sCm .ne 813 746 := (opAt_of (M := m_Law_rounds) (i := .if_icmp .ne 70) (n := 3) ((TL_Law_rounds_6 743 (by omega)).trans (lk_head rfl))).trans rfl
theorem i_Law_rounds_746 : opAt m_Law_rounds 746 = sAld 0 747 := (opAt_of (M := m_Law_rounds) (i := .aload_n 0) (n := 1) ((TL_Law_rounds_6 746 (by omega)).trans (lk_head rfl))).trans rfl
theorem i_Law_rounds_747 : opAt m_Law_rounds 747 = sIld 3 748 := (opAt_of (M := m_Law_rounds) (i := .iload_n 3) (n := 1) ((TL_Law_rounds_6 747 (by omega)).trans (lk_head rfl))).trans rfl
theorem i_Law_rounds_748 : opAt m_Law_rounds 748 = sPush (.int (Int32.ofInt 0)) 749 := (opAt_of (M := m_Law_rounds) (i := .iconst 0) (n := 1) ((TL_Law_rounds_6 748 (by omega)).trans (lk_head rfl))).trans rfl
theorem i_Law_rounds_749 : opAt m_Law_rounds 749 = sPush (.int (Int32.ofInt 0)) 750 := (opAt_of (M := m_Law_rounds) (i := .iconst 0) (n := 1) ((TL_Law_rounds_6 749 (by omega)).trans (lk_head rfl))).trans rfl
theorem i_Law_rounds_750 : opAt m_Law_rounds 750 = sPush (.int (Int8.ofInt 20).toInt32) 752 := (opAt_of (M := m_Law_rounds) (i := .bipush 20) (n := 2) ((TL_Law_rounds_6 750 (by omega)).trans (lk_head rfl))).trans rfl
theorem i_Law_rounds_752 : opAt m_Law_rounds 752 = sPush (.int (Int32.ofInt 0)) 753 := (opAt_of (M := m_Law_rounds) (i := .iconst 0) (n := 1) ((TL_Law_rounds_6 752 (by omega)).trans (lk_head rfl))).trans rfl
theorem i_Law_rounds_753 : opAt m_Law_rounds 753 = sVir [(10, m_Fi_lets)] 0 5 756 := (opAt_of (M := m_Law_rounds) (i := .invokevirtual 111) (n := 3) ((TL_Law_rounds_6 753 (by omega)).trans (lk_head rfl))).trans rfl
theorem i_Law_rounds_756 : opAt m_Law_rounds 756 = sPush (.int (Int8.ofInt (-102)).toInt32) 758 := (opAt_of (M := m_Law_rounds) (i := .bipush (-102)) (n := 2) ((TL_Law_rounds_6 756 (by omega)).trans (lk_head rfl))).trans rfl
theorem i_Law_rounds_758 : opAt m_Law_rounds 758 = sCm .ne 813 761 := (opAt_of (M := m_Law_rounds) (i := .if_icmp .ne 55) (n := 3) ((TL_Law_rounds_6 758 (by omega)).trans (lk_head rfl))).trans rfl
theorem i_Law_rounds_761 : opAt m_Law_rounds 761 = sAld 0 762 := (opAt_of (M := m_Law_rounds) (i := .aload_n 0) (n := 1) ((TL_Law_rounds_6 761 (by omega)).trans (lk_head rfl))).trans rfl
theorem i_Law_rounds_762 : opAt m_Law_rounds 762 = sIld 3 763 := (opAt_of (M := m_Law_rounds) (i := .iload_n 3) (n := 1) ((TL_Law_rounds_6 762 (by omega)).trans (lk_head rfl))).trans rfl
theorem i_Law_rounds_763 : opAt m_Law_rounds 763 = sPush (.int (Int32.ofInt 0)) 764 := (opAt_of (M := m_Law_rounds) (i := .iconst 0) (n := 1) ((TL_Law_rounds_6 763 (by omega)).trans (lk_head rfl))).trans rfl
theorem i_Law_rounds_764 : opAt m_Law_rounds 764 = sPush (.int (Int32.ofInt 0)) 765 := (opAt_of (M := m_Law_rounds) (i := .iconst 0) (n := 1) ((TL_Law_rounds_6 764 (by omega)).trans (lk_head rfl))).trans rfl
theorem i_Law_rounds_765 : opAt m_Law_rounds 765 = sPush (.int (Int32.ofInt 5)) 766 := (opAt_of (M := m_Law_rounds) (i := .iconst 5) (n := 1) ((TL_Law_rounds_6 765 (by omega)).trans (lk_head rfl))).trans rfl
theorem i_Law_rounds_766 : opAt m_Law_rounds 766 = sPush (.int (Int32.ofInt 5)) 767 := (opAt_of (M := m_Law_rounds) (i := .iconst 5) (n := 1) ((TL_Law_rounds_6 766 (by omega)).trans (lk_head rfl))).trans rfl
theorem i_Law_rounds_767 : opAt m_Law_rounds 767 = sVir [(10, m_Fi_lets)] 0 5 770 := (opAt_of (M := m_Law_rounds) (i := .invokevirtual 111) (n := 3) ((TL_Law_rounds_6 767 (by omega)).trans (lk_head rfl))).trans rfl
theorem i_Law_rounds_770 : opAt m_Law_rounds 770 = sPush (.int (Int8.ofInt (-102)).toInt32) 772 := (opAt_of (M := m_Law_rounds) (i := .bipush (-102)) (n := 2) ((TL_Law_rounds_6 770 (by omega)).trans (lk_head rfl))).trans rfl
theorem i_Law_rounds_772 : opAt m_Law_rounds 772 = sCm .ne 813 775 := (opAt_of (M := m_Law_rounds) (i := .if_icmp .ne 41) (n := 3) ((TL_Law_rounds_7 772 (by omega)).trans (rfl))).trans rfl
theorem i_Law_rounds_775 : opAt m_Law_rounds 775 = sAld 0 776 := (opAt_of (M := m_Law_rounds) (i := .aload_n 0) (n := 1) ((TL_Law_rounds_7 775 (by omega)).trans (rfl))).trans rfl
theorem i_Law_rounds_776 : opAt m_Law_rounds 776 = sIld 3 777 := (opAt_of (M := m_Law_rounds) (i := .iload_n 3) (n := 1) ((TL_Law_rounds_7 776 (by omega)).trans (rfl))).trans rfl
theorem i_Law_rounds_777 : opAt m_Law_rounds 777 = sPush (.int (Int32.ofInt 0)) 778 := (opAt_of (M := m_Law_rounds) (i := .iconst 0) (n := 1) ((TL_Law_rounds_7 777 (by omega)).trans (rfl))).trans rfl
theorem i_Law_rounds_778 : opAt m_Law_rounds 778 = sPush (.int (Int32.ofInt 0)) 779 := (opAt_of (M := m_Law_rounds) (i := .iconst 0) (n := 1) ((TL_Law_rounds_7 778 (by omega)).trans (rfl))).trans rfl
theorem i_Law_rounds_779 : opAt m_Law_rounds 779 = sPush (.int (Int32.ofInt 1)) 780 := (opAt_of (M := m_Law_rounds) (i := .iconst 1) (n := 1) ((TL_Law_rounds_7 779 (by omega)).trans (rfl))).trans rfl
theorem i_Law_rounds_780 : opAt m_Law_rounds 780 = sPush (.int (Int32.ofInt 0)) 781 := (opAt_of (M := m_Law_rounds) (i := .iconst 0) (n := 1) ((TL_Law_rounds_7 780 (by omega)).trans (rfl))).trans rfl
theorem i_Law_rounds_781 : opAt m_Law_rounds 781 = sPush (.int (Int32.ofInt 0)) 782 := (opAt_of (M := m_Law_rounds) (i := .iconst 0) (n := 1) ((TL_Law_rounds_7 781 (by omega)).trans (rfl))).trans rfl
theorem i_Law_rounds_782 : opAt m_Law_rounds 782 = sVir [(10, m_Fi_chance)] 0 6 785 := (opAt_of (M := m_Law_rounds) (i := .invokevirtual 115) (n := 3) ((TL_Law_rounds_7 782 (by omega)).trans (rfl))).trans rfl
theorem i_Law_rounds_785 : opAt m_Law_rounds 785 = sPush (.long (-102)) 788 := (opAt_of (M := m_Law_rounds) (i := .ldc2_w 129) (n := 3) ((TL_Law_rounds_7 785 (by omega)).trans (rfl))).trans rfl
theorem i_Law_rounds_788 : opAt m_Law_rounds 788 = sCmp 789 := (opAt_of (M := m_Law_rounds) (i := .lcmp) (n := 1) ((TL_Law_rounds_7 788 (by omega)).trans (rfl))).trans rfl
theorem i_Law_rounds_789 : opAt m_Law_rounds 789 = sIf .ne 813 792 := (opAt_of (M := m_Law_rounds) (i := .ifCond .ne 24) (n := 3) ((TL_Law_rounds_7 789 (by omega)).trans (rfl))).trans rfl
theorem i_Law_rounds_792 : opAt m_Law_rounds 792 = sAld 0 793 := (opAt_of (M := m_Law_rounds) (i := .aload_n 0) (n := 1) ((TL_Law_rounds_7 792 (by omega)).trans (rfl))).trans rfl
theorem i_Law_rounds_793 : opAt m_Law_rounds 793 = sPush (.int (Int32.ofInt 2)) 794 := (opAt_of (M := m_Law_rounds) (i := .iconst 2) (n := 1) ((TL_Law_rounds_7 793 (by omega)).trans (rfl))).trans rfl
theorem i_Law_rounds_794 : opAt m_Law_rounds 794 = sPush (.int (Int32.ofInt 0)) 795 := (opAt_of (M := m_Law_rounds) (i := .iconst 0) (n := 1) ((TL_Law_rounds_7 794 (by omega)).trans (rfl))).trans rfl
theorem i_Law_rounds_795 : opAt m_Law_rounds 795 = sPush (.int (Int32.ofInt 0)) 796 := (opAt_of (M := m_Law_rounds) (i := .iconst 0) (n := 1) ((TL_Law_rounds_7 795 (by omega)).trans (rfl))).trans rfl
theorem i_Law_rounds_796 : opAt m_Law_rounds 796 = sPush (.int (Int32.ofInt 2)) 797 := (opAt_of (M := m_Law_rounds) (i := .iconst 2) (n := 1) ((TL_Law_rounds_7 796 (by omega)).trans (rfl))).trans rfl
theorem i_Law_rounds_797 : opAt m_Law_rounds 797 = sPush (.int (Int32.ofInt 0)) 798 := (opAt_of (M := m_Law_rounds) (i := .iconst 0) (n := 1) ((TL_Law_rounds_7 797 (by omega)).trans (rfl))).trans rfl
theorem i_Law_rounds_798 : opAt m_Law_rounds 798 = sPush (.int (Int32.ofInt 0)) 799 := (opAt_of (M := m_Law_rounds) (i := .iconst 0) (n := 1) ((TL_Law_rounds_7 798 (by omega)).trans (rfl))).trans rfl
theorem i_Law_rounds_799 : opAt m_Law_rounds 799 = sVir [(10, m_Fi_chance)] 0 6 802 := (opAt_of (M := m_Law_rounds) (i := .invokevirtual 115) (n := 3) ((TL_Law_rounds_7 799 (by omega)).trans (rfl))).trans rfl
theorem i_Law_rounds_802 : opAt m_Law_rounds 802 = sPush (.long (-101)) 805 := (opAt_of (M := m_Law_rounds) (i := .ldc2_w 131) (n := 3) ((TL_Law_rounds_7 802 (by omega)).trans (rfl))).trans rfl
theorem i_Law_rounds_805 : opAt m_Law_rounds 805 = sCmp 806 := (opAt_of (M := m_Law_rounds) (i := .lcmp) (n := 1) ((TL_Law_rounds_7 805 (by omega)).trans (rfl))).trans rfl
theorem i_Law_rounds_806 : opAt m_Law_rounds 806 = sIf .ne 813 809 := (opAt_of (M := m_Law_rounds) (i := .ifCond .ne 7) (n := 3) ((TL_Law_rounds_7 806 (by omega)).trans (rfl))).trans rfl
theorem i_Law_rounds_809 : opAt m_Law_rounds 809 = sPush (.int (Int32.ofInt 1)) 810 := (opAt_of (M := m_Law_rounds) (i := .iconst 1) (n := 1) ((TL_Law_rounds_7 809 (by omega)).trans (rfl))).trans rfl
theorem i_Law_rounds_810 : opAt m_Law_rounds 810 = sGo 814 := (opAt_of (M := m_Law_rounds) (i := .goto 4) (n := 3) ((TL_Law_rounds_7 810 (by omega)).trans (rfl))).trans rfl
theorem i_Law_rounds_813 : opAt m_Law_rounds 813 = sPush (.int (Int32.ofInt 0)) 814 := (opAt_of (M := m_Law_rounds) (i := .iconst 0) (n := 1) ((TL_Law_rounds_7 813 (by omega)).trans (rfl))).trans rfl
theorem i_Law_rounds_814 : opAt m_Law_rounds 814 = sIret .boolean := (opAt_of (M := m_Law_rounds) (i := .ireturn) (n := 1) ((TL_Law_rounds_7 814 (by omega)).trans (rfl))).trans rfl
theorem al_Law_places_0 : t_Law_places_0.all (fun q => decide (q.1 < 105)) = true := by decide +kernel
theorem al_Law_places_1 : t_Law_places_1.all (fun q => decide (q.1 < 212)) = true := by decide +kernel
theorem al_Law_places_2 : t_Law_places_2.all (fun q => decide (q.1 < 330)) = true := by decide +kernel
theorem al_Law_places_3 : t_Law_places_3.all (fun q => decide (q.1 < 440)) = true := by decide +kernel
theorem TL_Law_places_0 (pc : Nat) : t_Law_places.lookup pc = (t_Law_places_0 ++ (t_Law_places_1 ++ (t_Law_places_2 ++ (t_Law_places_3 ++ (t_Law_places_4))))).lookup pc := rfl
theorem TL_Law_places_1 (pc : Nat) (h : 105 ≤ pc) : t_Law_places.lookup pc = (t_Law_places_1 ++ (t_Law_places_2 ++ (t_Law_places_3 ++ (t_Law_places_4)))).lookup pc := (TL_Law_places_0 pc).trans (lk_app (lk_none 105 h al_Law_places_0))
theorem TL_Law_places_2 (pc : Nat) (h : 212 ≤ pc) : t_Law_places.lookup pc = (t_Law_places_2 ++ (t_Law_places_3 ++ (t_Law_places_4))).lookup pc := (TL_Law_places_1 pc (by omega)).trans (lk_app (lk_none 212 h al_Law_places_1))
theorem TL_Law_places_3 (pc : Nat) (h : 330 ≤ pc) : t_Law_places.lookup pc = (t_Law_places_3 ++ (t_Law_places_4)).lookup pc := (TL_Law_places_2 pc (by omega)).trans (lk_app (lk_none 330 h al_Law_places_2))
theorem TL_Law_places_4 (pc : Nat) (h : 440 ≤ pc) : t_Law_places.lookup pc = (t_Law_places_4).lookup pc := (TL_Law_places_3 pc (by omega)).trans (lk_app (lk_none 440 h al_Law_places_3))
theorem i_Law_places_0 : opAt m_Law_places 0 = sAld 1 1 := (opAt_of (M := m_Law_places) (i := .aload_n 1) (n := 1) ((TL_Law_places_0 0).trans (lk_head rfl))).trans rfl
theorem i_Law_places_1 : opAt m_Law_places 1 = sPush (.int (Int8.ofInt 18).toInt32) 3 := (opAt_of (M := m_Law_places) (i := .bipush 18) (n := 2) ((TL_Law_places_0 1).trans (lk_head rfl))).trans rfl
theorem i_Law_places_3 : opAt m_Law_places 3 = sSta m_Law_cell 0 2 6 := (opAt_of (M := m_Law_places) (i := .invokestatic 8) (n := 3) ((TL_Law_places_0 3).trans (lk_head rfl))).trans rfl
theorem i_Law_places_6 : opAt m_Law_places 6 = sPush (.int (Int32.ofInt 5)) 7 := (opAt_of (M := m_Law_places) (i := .iconst 5) (n := 1) ((TL_Law_places_0 6).trans (lk_head rfl))).trans rfl
theorem i_Law_places_7 : opAt m_Law_places 7 = sSta m_Law_at 0 2 10 := (opAt_of (M := m_Law_places) (i := .invokestatic 14) (n := 3) ((TL_Law_places_0 7).trans (lk_head rfl))).trans rfl
theorem i_Law_places_10 : opAt m_Law_places 10 = sIst 3 11 := (opAt_of (M := m_Law_places) (i := .istore_n 3) (n := 1) ((TL_Law_places_0 10).trans (lk_head rfl))).trans rfl
theorem i_Law_places_11 : opAt m_Law_places 11 = sPush (.int (Int32.ofInt 4)) 12 := (opAt_of (M := m_Law_places) (i := .iconst 4) (n := 1) ((TL_Law_places_0 11).trans (lk_head rfl))).trans rfl
theorem i_Law_places_12 : opAt m_Law_places 12 = sNar 0 zI 14 := (opAt_of (M := m_Law_places) (i := .newarray .int) (n := 2) ((TL_Law_places_0 12).trans (lk_head rfl))).trans rfl
theorem i_Law_places_14 : opAt m_Law_places 14 = sAst 4 16 := (opAt_of (M := m_Law_places) (i := .astore 4) (n := 2) ((TL_Law_places_0 14).trans (lk_head rfl))).trans rfl
theorem i_Law_places_16 : opAt m_Law_places 16 = sPush (.int (Int32.ofInt 4)) 17 := (opAt_of (M := m_Law_places) (i := .iconst 4) (n := 1) ((TL_Law_places_0 16).trans (lk_head rfl))).trans rfl
theorem i_Law_places_17 : opAt m_Law_places 17 = sNar 0 zI 19 := (opAt_of (M := m_Law_places) (i := .newarray .int) (n := 2) ((TL_Law_places_0 17).trans (lk_head rfl))).trans rfl
theorem i_Law_places_19 : opAt m_Law_places 19 = sAst 5 21 := (opAt_of (M := m_Law_places) (i := .astore 5) (n := 2) ((TL_Law_places_0 19).trans (lk_head rfl))).trans rfl
theorem i_Law_places_21 : opAt m_Law_places 21 = sPush (.int (Int32.ofInt 0)) 22 := (opAt_of (M := m_Law_places) (i := .iconst 0) (n := 1) ((TL_Law_places_0 21).trans (lk_head rfl))).trans rfl
theorem i_Law_places_22 : opAt m_Law_places 22 = sIst 6 24 := (opAt_of (M := m_Law_places) (i := .istore 6) (n := 2) ((TL_Law_places_0 22).trans (lk_head rfl))).trans rfl
theorem i_Law_places_24 : opAt m_Law_places 24 = sIld 6 26 := (opAt_of (M := m_Law_places) (i := .iload 6) (n := 2) ((TL_Law_places_0 24).trans (lk_head rfl))).trans rfl
theorem i_Law_places_26 : opAt m_Law_places 26 = sIld 3 27 := (opAt_of (M := m_Law_places) (i := .iload_n 3) (n := 1) ((TL_Law_places_0 26).trans (lk_head rfl))).trans rfl
theorem i_Law_places_27 : opAt m_Law_places 27 = sCm .ge 100 30 := (opAt_of (M := m_Law_places) (i := .if_icmp .ge 73) (n := 3) ((TL_Law_places_0 27).trans (lk_head rfl))).trans rfl
theorem i_Law_places_30 : opAt m_Law_places 30 = sAld 4 32 := (opAt_of (M := m_Law_places) (i := .aload 4) (n := 2) ((TL_Law_places_0 30).trans (lk_head rfl))).trans rfl
theorem i_Law_places_32 : opAt m_Law_places 32 = sIld 6 34 := (opAt_of (M := m_Law_places) (i := .iload 6) (n := 2) ((TL_Law_places_0 32).trans (lk_head rfl))).trans rfl
theorem i_Law_places_34 : opAt m_Law_places 34 = sAld 1 35 := (opAt_of (M := m_Law_places) (i := .aload_n 1) (n := 1) ((TL_Law_places_0 34).trans (lk_head rfl))).trans rfl
theorem i_Law_places_35 : opAt m_Law_places 35 = sPush (.int (Int8.ofInt 19).toInt32) 37 := (opAt_of (M := m_Law_places) (i := .bipush 19) (n := 2) ((TL_Law_places_0 35).trans (lk_head rfl))).trans rfl
theorem i_Law_places_37 : opAt m_Law_places 37 = sIld 6 39 := (opAt_of (M := m_Law_places) (i := .iload 6) (n := 2) ((TL_Law_places_0 37).trans (lk_head rfl))).trans rfl
theorem i_Law_places_39 : opAt m_Law_places 39 = sBI (fun x y => x + y) 40 := (opAt_of (M := m_Law_places) (i := .iadd) (n := 1) ((TL_Law_places_0 39).trans (lk_head rfl))).trans rfl
theorem i_Law_places_40 : opAt m_Law_places 40 = sSta m_Law_cell 0 2 43 := (opAt_of (M := m_Law_places) (i := .invokestatic 8) (n := 3) ((TL_Law_places_0 40).trans (lk_head rfl))).trans rfl
theorem i_Law_places_43 : opAt m_Law_places 43 = sPush (.int (Int32.ofInt 4)) 44 := (opAt_of (M := m_Law_places) (i := .iconst 4) (n := 1) ((TL_Law_places_0 43).trans (lk_head rfl))).trans rfl
theorem i_Law_places_44 : opAt m_Law_places 44 = sSta m_Law_at 0 2 47 := (opAt_of (M := m_Law_places) (i := .invokestatic 14) (n := 3) ((TL_Law_places_0 44).trans (lk_head rfl))).trans rfl
theorem i_Law_places_47 : opAt m_Law_places 47 = sIas 48 := (opAt_of (M := m_Law_places) (i := .iastore) (n := 1) ((TL_Law_places_0 47).trans (lk_head rfl))).trans rfl
theorem i_Law_places_48 : opAt m_Law_places 48 = sAld 5 50 := (opAt_of (M := m_Law_places) (i := .aload 5) (n := 2) ((TL_Law_places_0 48).trans (lk_head rfl))).trans rfl
theorem i_Law_places_50 : opAt m_Law_places 50 = sIld 6 52 := (opAt_of (M := m_Law_places) (i := .iload 6) (n := 2) ((TL_Law_places_0 50).trans (lk_head rfl))).trans rfl
theorem i_Law_places_52 : opAt m_Law_places 52 = sPush (.int (Int32.ofInt 2)) 53 := (opAt_of (M := m_Law_places) (i := .iconst 2) (n := 1) ((TL_Law_places_0 52).trans (lk_head rfl))).trans rfl
theorem i_Law_places_53 : opAt m_Law_places 53 = sAld 1 54 := (opAt_of (M := m_Law_places) (i := .aload_n 1) (n := 1) ((TL_Law_places_0 53).trans (lk_head rfl))).trans rfl
theorem i_Law_places_54 : opAt m_Law_places 54 = sPush (.int (Int8.ofInt 19).toInt32) 56 := (opAt_of (M := m_Law_places) (i := .bipush 19) (n := 2) ((TL_Law_places_0 54).trans (lk_head rfl))).trans rfl
theorem i_Law_places_56 : opAt m_Law_places 56 = sIld 6 58 := (opAt_of (M := m_Law_places) (i := .iload 6) (n := 2) ((TL_Law_places_0 56).trans (lk_head rfl))).trans rfl
theorem i_Law_places_58 : opAt m_Law_places 58 = sBI (fun x y => x + y) 59 := (opAt_of (M := m_Law_places) (i := .iadd) (n := 1) ((TL_Law_places_0 58).trans (lk_head rfl))).trans rfl
theorem i_Law_places_59 : opAt m_Law_places 59 = sSta m_Law_cell 0 2 62 := (opAt_of (M := m_Law_places) (i := .invokestatic 8) (n := 3) ((TL_Law_places_0 59).trans (lk_head rfl))).trans rfl
theorem i_Law_places_62 : opAt m_Law_places 62 = sPush (.int (Int32.ofInt 3)) 63 := (opAt_of (M := m_Law_places) (i := .iconst 3) (n := 1) ((TL_Law_places_0 62).trans (lk_head rfl))).trans rfl
theorem i_Law_places_63 : opAt m_Law_places 63 = sBI (fun x y => x >>> (y &&& 31)) 64 := (opAt_of (M := m_Law_places) (i := .ishr) (n := 1) ((TL_Law_places_0 63).trans (lk_head rfl))).trans rfl
theorem i_Law_places_64 : opAt m_Law_places 64 = sPush (.int (Int8.ofInt 18).toInt32) 66 := (opAt_of (M := m_Law_places) (i := .bipush 18) (n := 2) ((TL_Law_places_0 64).trans (lk_head rfl))).trans rfl
theorem i_Law_places_66 : opAt m_Law_places 66 = sSta m_Law_at 0 2 69 := (opAt_of (M := m_Law_places) (i := .invokestatic 14) (n := 3) ((TL_Law_places_0 66).trans (lk_head rfl))).trans rfl
theorem i_Law_places_69 : opAt m_Law_places 69 = sBI (fun x y => x + y) 70 := (opAt_of (M := m_Law_places) (i := .iadd) (n := 1) ((TL_Law_places_0 69).trans (lk_head rfl))).trans rfl
theorem i_Law_places_70 : opAt m_Law_places 70 = sIas 71 := (opAt_of (M := m_Law_places) (i := .iastore) (n := 1) ((TL_Law_places_0 70).trans (lk_head rfl))).trans rfl
theorem i_Law_places_71 : opAt m_Law_places 71 = sAld 0 72 := (opAt_of (M := m_Law_places) (i := .aload_n 0) (n := 1) ((TL_Law_places_0 71).trans (lk_head rfl))).trans rfl
theorem i_Law_places_72 : opAt m_Law_places 72 = sAld 4 74 := (opAt_of (M := m_Law_places) (i := .aload 4) (n := 2) ((TL_Law_places_0 72).trans (lk_head rfl))).trans rfl
theorem i_Law_places_74 : opAt m_Law_places 74 = sIld 6 76 := (opAt_of (M := m_Law_places) (i := .iload 6) (n := 2) ((TL_Law_places_0 74).trans (lk_head rfl))).trans rfl
theorem i_Law_places_76 : opAt m_Law_places 76 = sIal 77 := (opAt_of (M := m_Law_places) (i := .iaload) (n := 1) ((TL_Law_places_0 76).trans (lk_head rfl))).trans rfl
theorem i_Law_places_77 : opAt m_Law_places 77 = sAld 5 79 := (opAt_of (M := m_Law_places) (i := .aload 5) (n := 2) ((TL_Law_places_0 77).trans (lk_head rfl))).trans rfl
theorem i_Law_places_79 : opAt m_Law_places 79 = sIld 6 81 := (opAt_of (M := m_Law_places) (i := .iload 6) (n := 2) ((TL_Law_places_0 79).trans (lk_head rfl))).trans rfl
theorem i_Law_places_81 : opAt m_Law_places 81 = sIal 82 := (opAt_of (M := m_Law_places) (i := .iaload) (n := 1) ((TL_Law_places_0 81).trans (lk_head rfl))).trans rfl
theorem i_Law_places_82 : opAt m_Law_places 82 = sVir [(10, m_Fi_trace)] 0 2 85 := (opAt_of (M := m_Law_places) (i := .invokevirtual 133) (n := 3) ((TL_Law_places_0 82).trans (lk_head rfl))).trans rfl
theorem i_Law_places_85 : opAt m_Law_places 85 = sIld 6 87 := (opAt_of (M := m_Law_places) (i := .iload 6) (n := 2) ((TL_Law_places_0 85).trans (lk_head rfl))).trans rfl
theorem i_Law_places_87 : opAt m_Law_places 87 = sPush (.int (Int32.ofInt 1)) 88 := (opAt_of (M := m_Law_places) (i := .iconst 1) (n := 1) ((TL_Law_places_0 87).trans (lk_head rfl))).trans rfl
theorem i_Law_places_88 : opAt m_Law_places 88 = sBI (fun x y => x + y) 89 := (opAt_of (M := m_Law_places) (i := .iadd) (n := 1) ((TL_Law_places_0 88).trans (lk_head rfl))).trans rfl
theorem i_Law_places_89 : opAt m_Law_places 89 = sCm .eq 94 92 := (opAt_of (M := m_Law_places) (i := .if_icmp .eq 5) (n := 3) ((TL_Law_places_0 89).trans (lk_head rfl))).trans rfl
theorem i_Law_places_92 : opAt m_Law_places 92 = sPush (.int (Int32.ofInt 0)) 93 := (opAt_of (M := m_Law_places) (i := .iconst 0) (n := 1) ((TL_Law_places_0 92).trans (lk_head rfl))).trans rfl
theorem i_Law_places_93 : opAt m_Law_places 93 = sIret .boolean := (opAt_of (M := m_Law_places) (i := .ireturn) (n := 1) ((TL_Law_places_0 93).trans (lk_head rfl))).trans rfl
theorem i_Law_places_94 : opAt m_Law_places 94 = sInc 6 1 97 := (opAt_of (M := m_Law_places) (i := .iinc 6 1) (n := 3) ((TL_Law_places_0 94).trans (lk_head rfl))).trans rfl
theorem i_Law_places_97 : opAt m_Law_places 97 = sGo 24 := (opAt_of (M := m_Law_places) (i := .goto (-73)) (n := 3) ((TL_Law_places_0 97).trans (lk_head rfl))).trans rfl
theorem i_Law_places_100 : opAt m_Law_places 100 = sPush (.int (Int32.ofInt 0)) 101 := (opAt_of (M := m_Law_places) (i := .iconst 0) (n := 1) ((TL_Law_places_0 100).trans (lk_head rfl))).trans rfl
theorem i_Law_places_101 : opAt m_Law_places 101 = sIst 6 103 := (opAt_of (M := m_Law_places) (i := .istore 6) (n := 2) ((TL_Law_places_0 101).trans (lk_head rfl))).trans rfl
theorem i_Law_places_103 : opAt m_Law_places 103 = sIld 6 105 := (opAt_of (M := m_Law_places) (i := .iload 6) (n := 2) ((TL_Law_places_0 103).trans (lk_head rfl))).trans rfl
theorem i_Law_places_105 : opAt m_Law_places 105 = sPush (.int (Int32.ofInt 4)) 106 := (opAt_of (M := m_Law_places) (i := .iconst 4) (n := 1) ((TL_Law_places_1 105 (by omega)).trans (lk_head rfl))).trans rfl
theorem i_Law_places_106 : opAt m_Law_places 106 = sCm .ge 366 109 := (opAt_of (M := m_Law_places) (i := .if_icmp .ge 260) (n := 3) ((TL_Law_places_1 106 (by omega)).trans (lk_head rfl))).trans rfl
theorem i_Law_places_109 : opAt m_Law_places 109 = sAld 2 110 := (opAt_of (M := m_Law_places) (i := .aload_n 2) (n := 1) ((TL_Law_places_1 109 (by omega)).trans (lk_head rfl))).trans rfl
theorem i_Law_places_110 : opAt m_Law_places 110 = sPush (.int (Int8.ofInt 48).toInt32) 112 := (opAt_of (M := m_Law_places) (i := .bipush 48) (n := 2) ((TL_Law_places_1 110 (by omega)).trans (lk_head rfl))).trans rfl
theorem i_Law_places_112 : opAt m_Law_places 112 = sIal 113 := (opAt_of (M := m_Law_places) (i := .iaload) (n := 1) ((TL_Law_places_1 112 (by omega)).trans (lk_head rfl))).trans rfl
theorem i_Law_places_113 : opAt m_Law_places 113 = sPush (.int (Int32.ofInt 1)) 114 := (opAt_of (M := m_Law_places) (i := .iconst 1) (n := 1) ((TL_Law_places_1 113 (by omega)).trans (lk_head rfl))).trans rfl
theorem i_Law_places_114 : opAt m_Law_places 114 = sCm .le 366 117 := (opAt_of (M := m_Law_places) (i := .if_icmp .le 252) (n := 3) ((TL_Law_places_1 114 (by omega)).trans (lk_head rfl))).trans rfl
theorem i_Law_places_117 : opAt m_Law_places 117 = sPush (.int (Int32.ofInt 1)) 118 := (opAt_of (M := m_Law_places) (i := .iconst 1) (n := 1) ((TL_Law_places_1 117 (by omega)).trans (lk_head rfl))).trans rfl
theorem i_Law_places_118 : opAt m_Law_places 118 = sAld 1 119 := (opAt_of (M := m_Law_places) (i := .aload_n 1) (n := 1) ((TL_Law_places_1 118 (by omega)).trans (lk_head rfl))).trans rfl
theorem i_Law_places_119 : opAt m_Law_places 119 = sPush (.int (Int8.ofInt 23).toInt32) 121 := (opAt_of (M := m_Law_places) (i := .bipush 23) (n := 2) ((TL_Law_places_1 119 (by omega)).trans (lk_head rfl))).trans rfl
theorem i_Law_places_121 : opAt m_Law_places 121 = sIld 6 123 := (opAt_of (M := m_Law_places) (i := .iload 6) (n := 2) ((TL_Law_places_1 121 (by omega)).trans (lk_head rfl))).trans rfl
theorem i_Law_places_123 : opAt m_Law_places 123 = sBI (fun x y => x + y) 124 := (opAt_of (M := m_Law_places) (i := .iadd) (n := 1) ((TL_Law_places_1 123 (by omega)).trans (lk_head rfl))).trans rfl
theorem i_Law_places_124 : opAt m_Law_places 124 = sSta m_Law_cell 0 2 127 := (opAt_of (M := m_Law_places) (i := .invokestatic 8) (n := 3) ((TL_Law_places_1 124 (by omega)).trans (lk_head rfl))).trans rfl
theorem i_Law_places_127 : opAt m_Law_places 127 = sAld 2 128 := (opAt_of (M := m_Law_places) (i := .aload_n 2) (n := 1) ((TL_Law_places_1 127 (by omega)).trans (lk_head rfl))).trans rfl
theorem i_Law_places_128 : opAt m_Law_places 128 = sPush (.int (Int8.ofInt 48).toInt32) 130 := (opAt_of (M := m_Law_places) (i := .bipush 48) (n := 2) ((TL_Law_places_1 128 (by omega)).trans (lk_head rfl))).trans rfl
theorem i_Law_places_130 : opAt m_Law_places 130 = sIal 131 := (opAt_of (M := m_Law_places) (i := .iaload) (n := 1) ((TL_Law_places_1 130 (by omega)).trans (lk_head rfl))).trans rfl
theorem i_Law_places_131 : opAt m_Law_places 131 = sPush (.int (Int32.ofInt 1)) 132 := (opAt_of (M := m_Law_places) (i := .iconst 1) (n := 1) ((TL_Law_places_1 131 (by omega)).trans (lk_head rfl))).trans rfl
theorem i_Law_places_132 : opAt m_Law_places 132 = sBI (fun x y => x - y) 133 := (opAt_of (M := m_Law_places) (i := .isub) (n := 1) ((TL_Law_places_1 132 (by omega)).trans (lk_head rfl))).trans rfl
theorem i_Law_places_133 : opAt m_Law_places 133 = sSta m_Law_at 0 2 136 := (opAt_of (M := m_Law_places) (i := .invokestatic 14) (n := 3) ((TL_Law_places_1 133 (by omega)).trans (lk_head rfl))).trans rfl
theorem i_Law_places_136 : opAt m_Law_places 136 = sBI (fun x y => x + y) 137 := (opAt_of (M := m_Law_places) (i := .iadd) (n := 1) ((TL_Law_places_1 136 (by omega)).trans (lk_head rfl))).trans rfl
theorem i_Law_places_137 : opAt m_Law_places 137 = sIst 7 139 := (opAt_of (M := m_Law_places) (i := .istore 7) (n := 2) ((TL_Law_places_1 137 (by omega)).trans (lk_head rfl))).trans rfl
theorem i_Law_places_139 : opAt m_Law_places 139 = sPush (.int (Int32.ofInt (-1))) 140 := (opAt_of (M := m_Law_places) (i := .iconst (-1)) (n := 1) ((TL_Law_places_1 139 (by omega)).trans (lk_head rfl))).trans rfl
theorem i_Law_places_140 : opAt m_Law_places 140 = sIst 8 142 := (opAt_of (M := m_Law_places) (i := .istore 8) (n := 2) ((TL_Law_places_1 140 (by omega)).trans (lk_head rfl))).trans rfl
theorem i_Law_places_142 : opAt m_Law_places 142 = sPush (.int (Int8.ofInt 99).toInt32) 144 := (opAt_of (M := m_Law_places) (i := .bipush 99) (n := 2) ((TL_Law_places_1 142 (by omega)).trans (lk_head rfl))).trans rfl
theorem i_Law_places_144 : opAt m_Law_places 144 = sIst 9 146 := (opAt_of (M := m_Law_places) (i := .istore 9) (n := 2) ((TL_Law_places_1 144 (by omega)).trans (lk_head rfl))).trans rfl
theorem i_Law_places_146 : opAt m_Law_places 146 = sIld 9 148 := (opAt_of (M := m_Law_places) (i := .iload 9) (n := 2) ((TL_Law_places_1 146 (by omega)).trans (lk_head rfl))).trans rfl
theorem i_Law_places_148 : opAt m_Law_places 148 = sIf .lt 240 151 := (opAt_of (M := m_Law_places) (i := .ifCond .lt 92) (n := 3) ((TL_Law_places_1 148 (by omega)).trans (lk_head rfl))).trans rfl
theorem i_Law_places_151 : opAt m_Law_places 151 = sPush (.int (Int32.ofInt 1)) 152 := (opAt_of (M := m_Law_places) (i := .iconst 1) (n := 1) ((TL_Law_places_1 151 (by omega)).trans (lk_head rfl))).trans rfl
theorem i_Law_places_152 : opAt m_Law_places 152 = sIst 10 154 := (opAt_of (M := m_Law_places) (i := .istore 10) (n := 2) ((TL_Law_places_1 152 (by omega)).trans (lk_head rfl))).trans rfl
theorem i_Law_places_154 : opAt m_Law_places 154 = sPush (.int (Int32.ofInt 0)) 155 := (opAt_of (M := m_Law_places) (i := .iconst 0) (n := 1) ((TL_Law_places_1 154 (by omega)).trans (lk_head rfl))).trans rfl
theorem i_Law_places_155 : opAt m_Law_places 155 = sIst 11 157 := (opAt_of (M := m_Law_places) (i := .istore 11) (n := 2) ((TL_Law_places_1 155 (by omega)).trans (lk_head rfl))).trans rfl
theorem i_Law_places_157 : opAt m_Law_places 157 = sIld 11 159 := (opAt_of (M := m_Law_places) (i := .iload 11) (n := 2) ((TL_Law_places_1 157 (by omega)).trans (lk_head rfl))).trans rfl
theorem i_Law_places_159 : opAt m_Law_places 159 = sIld 3 160 := (opAt_of (M := m_Law_places) (i := .iload_n 3) (n := 1) ((TL_Law_places_1 159 (by omega)).trans (lk_head rfl))).trans rfl
theorem i_Law_places_160 : opAt m_Law_places 160 = sCm .ge 225 163 := (opAt_of (M := m_Law_places) (i := .if_icmp .ge 65) (n := 3) ((TL_Law_places_1 160 (by omega)).trans (lk_head rfl))).trans rfl
theorem i_Law_places_163 : opAt m_Law_places 163 = sAld 2 164 := (opAt_of (M := m_Law_places) (i := .aload_n 2) (n := 1) ((TL_Law_places_1 163 (by omega)).trans (lk_head rfl))).trans rfl
theorem i_Law_places_164 : opAt m_Law_places 164 = sAld 4 166 := (opAt_of (M := m_Law_places) (i := .aload 4) (n := 2) ((TL_Law_places_1 164 (by omega)).trans (lk_head rfl))).trans rfl
theorem i_Law_places_166 : opAt m_Law_places 166 = sIld 11 168 := (opAt_of (M := m_Law_places) (i := .iload 11) (n := 2) ((TL_Law_places_1 166 (by omega)).trans (lk_head rfl))).trans rfl
theorem i_Law_places_168 : opAt m_Law_places 168 = sIal 169 := (opAt_of (M := m_Law_places) (i := .iaload) (n := 1) ((TL_Law_places_1 168 (by omega)).trans (lk_head rfl))).trans rfl
theorem i_Law_places_169 : opAt m_Law_places 169 = sIld 7 171 := (opAt_of (M := m_Law_places) (i := .iload 7) (n := 2) ((TL_Law_places_1 169 (by omega)).trans (lk_head rfl))).trans rfl
theorem i_Law_places_171 : opAt m_Law_places 171 = sSta m_Law_last 0 3 174 := (opAt_of (M := m_Law_places) (i := .invokestatic 136) (n := 3) ((TL_Law_places_1 171 (by omega)).trans (lk_head rfl))).trans rfl
theorem i_Law_places_174 : opAt m_Law_places 174 = sIst 12 176 := (opAt_of (M := m_Law_places) (i := .istore 12) (n := 2) ((TL_Law_places_1 174 (by omega)).trans (lk_head rfl))).trans rfl
theorem i_Law_places_176 : opAt m_Law_places 176 = sAld 2 177 := (opAt_of (M := m_Law_places) (i := .aload_n 2) (n := 1) ((TL_Law_places_1 176 (by omega)).trans (lk_head rfl))).trans rfl
theorem i_Law_places_177 : opAt m_Law_places 177 = sAld 4 179 := (opAt_of (M := m_Law_places) (i := .aload 4) (n := 2) ((TL_Law_places_1 177 (by omega)).trans (lk_head rfl))).trans rfl
theorem i_Law_places_179 : opAt m_Law_places 179 = sIld 11 181 := (opAt_of (M := m_Law_places) (i := .iload 11) (n := 2) ((TL_Law_places_1 179 (by omega)).trans (lk_head rfl))).trans rfl
theorem i_Law_places_181 : opAt m_Law_places 181 = sIal 182 := (opAt_of (M := m_Law_places) (i := .iaload) (n := 1) ((TL_Law_places_1 181 (by omega)).trans (lk_head rfl))).trans rfl
theorem i_Law_places_182 : opAt m_Law_places 182 = sIld 7 184 := (opAt_of (M := m_Law_places) (i := .iload 7) (n := 2) ((TL_Law_places_1 182 (by omega)).trans (lk_head rfl))).trans rfl
theorem i_Law_places_184 : opAt m_Law_places 184 = sSta m_Law_first 0 3 187 := (opAt_of (M := m_Law_places) (i := .invokestatic 140) (n := 3) ((TL_Law_places_1 184 (by omega)).trans (lk_head rfl))).trans rfl
theorem i_Law_places_187 : opAt m_Law_places 187 = sIst 13 189 := (opAt_of (M := m_Law_places) (i := .istore 13) (n := 2) ((TL_Law_places_1 187 (by omega)).trans (lk_head rfl))).trans rfl
theorem i_Law_places_189 : opAt m_Law_places 189 = sIld 12 191 := (opAt_of (M := m_Law_places) (i := .iload 12) (n := 2) ((TL_Law_places_1 189 (by omega)).trans (lk_head rfl))).trans rfl
theorem i_Law_places_191 : opAt m_Law_places 191 = sIf .lt 219 194 := (opAt_of (M := m_Law_places) (i := .ifCond .lt 28) (n := 3) ((TL_Law_places_1 191 (by omega)).trans (lk_head rfl))).trans rfl
theorem i_Law_places_194 : opAt m_Law_places 194 = sIld 13 196 := (opAt_of (M := m_Law_places) (i := .iload 13) (n := 2) ((TL_Law_places_1 194 (by omega)).trans (lk_head rfl))).trans rfl
theorem i_Law_places_196 : opAt m_Law_places 196 = sIf .lt 219 199 := (opAt_of (M := m_Law_places) (i := .ifCond .lt 23) (n := 3) ((TL_Law_places_1 196 (by omega)).trans (lk_head rfl))).trans rfl
theorem i_Law_places_199 : opAt m_Law_places 199 = sIld 13 201 := (opAt_of (M := m_Law_places) (i := .iload 13) (n := 2) ((TL_Law_places_1 199 (by omega)).trans (lk_head rfl))).trans rfl
theorem i_Law_places_201 : opAt m_Law_places 201 = sIld 9 203 := (opAt_of (M := m_Law_places) (i := .iload 9) (n := 2) ((TL_Law_places_1 201 (by omega)).trans (lk_head rfl))).trans rfl
theorem i_Law_places_203 : opAt m_Law_places 203 = sBI (fun x y => x + y) 204 := (opAt_of (M := m_Law_places) (i := .iadd) (n := 1) ((TL_Law_places_1 203 (by omega)).trans (lk_head rfl))).trans rfl
theorem i_Law_places_204 : opAt m_Law_places 204 = sIld 12 206 := (opAt_of (M := m_Law_places) (i := .iload 12) (n := 2) ((TL_Law_places_1 204 (by omega)).trans (lk_head rfl))).trans rfl
theorem i_Law_places_206 : opAt m_Law_places 206 = sBI (fun x y => x - y) 207 := (opAt_of (M := m_Law_places) (i := .isub) (n := 1) ((TL_Law_places_1 206 (by omega)).trans (lk_head rfl))).trans rfl
theorem i_Law_places_207 : opAt m_Law_places 207 = sAld 5 209 := (opAt_of (M := m_Law_places) (i := .aload 5) (n := 2) ((TL_Law_places_1 207 (by omega)).trans (lk_head rfl))).trans rfl
theorem i_Law_places_209 : opAt m_Law_places 209 = sIld 11 211 := (opAt_of (M := m_Law_places) (i := .iload 11) (n := 2) ((TL_Law_places_1 209 (by omega)).trans (lk_head rfl))).trans rfl
theorem i_Law_places_211 : opAt m_Law_places 211 = sIal 212 := (opAt_of (M := m_Law_places) (i := .iaload) (n := 1) ((TL_Law_places_1 211 (by omega)).trans (lk_head rfl))).trans rfl
theorem i_Law_places_212 : opAt m_Law_places 212 = sDI (fun x y => x - x / y * y) 213 := (opAt_of (M := m_Law_places) (i := .irem) (n := 1) ((TL_Law_places_2 212 (by omega)).trans (lk_head rfl))).trans rfl
theorem i_Law_places_213 : opAt m_Law_places 213 = sIf .eq 219 216 := (opAt_of (M := m_Law_places) (i := .ifCond .eq 6) (n := 3) ((TL_Law_places_2 213 (by omega)).trans (lk_head rfl))).trans rfl
theorem i_Law_places_216 : opAt m_Law_places 216 = sPush (.int (Int32.ofInt 0)) 217 := (opAt_of (M := m_Law_places) (i := .iconst 0) (n := 1) ((TL_Law_places_2 216 (by omega)).trans (lk_head rfl))).trans rfl
theorem i_Law_places_217 : opAt m_Law_places 217 = sIst 10 219 := (opAt_of (M := m_Law_places) (i := .istore 10) (n := 2) ((TL_Law_places_2 217 (by omega)).trans (lk_head rfl))).trans rfl
theorem i_Law_places_219 : opAt m_Law_places 219 = sInc 11 1 222 := (opAt_of (M := m_Law_places) (i := .iinc 11 1) (n := 3) ((TL_Law_places_2 219 (by omega)).trans (lk_head rfl))).trans rfl
theorem i_Law_places_222 : opAt m_Law_places 222 = sGo 157 := (opAt_of (M := m_Law_places) (i := .goto (-65)) (n := 3) ((TL_Law_places_2 222 (by omega)).trans (lk_head rfl))).trans rfl
theorem i_Law_places_225 : opAt m_Law_places 225 = sIld 10 227 := (opAt_of (M := m_Law_places) (i := .iload 10) (n := 2) ((TL_Law_places_2 225 (by omega)).trans (lk_head rfl))).trans rfl
theorem i_Law_places_227 : opAt m_Law_places 227 = sIf .eq 234 230 := (opAt_of (M := m_Law_places) (i := .ifCond .eq 7) (n := 3) ((TL_Law_places_2 227 (by omega)).trans (lk_head rfl))).trans rfl
theorem i_Law_places_230 : opAt m_Law_places 230 = sIld 9 232 := (opAt_of (M := m_Law_places) (i := .iload 9) (n := 2) ((TL_Law_places_2 230 (by omega)).trans (lk_head rfl))).trans rfl
theorem i_Law_places_232 : opAt m_Law_places 232 = sIst 8 234 := (opAt_of (M := m_Law_places) (i := .istore 8) (n := 2) ((TL_Law_places_2 232 (by omega)).trans (lk_head rfl))).trans rfl
theorem i_Law_places_234 : opAt m_Law_places 234 = sInc 9 (-1) 237 := (opAt_of (M := m_Law_places) (i := .iinc 9 (-1)) (n := 3) ((TL_Law_places_2 234 (by omega)).trans (lk_head rfl))).trans rfl
theorem i_Law_places_237 : opAt m_Law_places 237 = sGo 146 := (opAt_of (M := m_Law_places) (i := .goto (-91)) (n := 3) ((TL_Law_places_2 237 (by omega)).trans (lk_head rfl))).trans rfl
theorem i_Law_places_240 : opAt m_Law_places 240 = sAld 0 241 := (opAt_of (M := m_Law_places) (i := .aload_n 0) (n := 1) ((TL_Law_places_2 240 (by omega)).trans (lk_head rfl))).trans rfl
theorem i_Law_places_241 : opAt m_Law_places 241 = sPush (.int (Int32.ofInt 0)) 242 := (opAt_of (M := m_Law_places) (i := .iconst 0) (n := 1) ((TL_Law_places_2 241 (by omega)).trans (lk_head rfl))).trans rfl
theorem i_Law_places_242 : opAt m_Law_places 242 = sIld 7 244 := (opAt_of (M := m_Law_places) (i := .iload 7) (n := 2) ((TL_Law_places_2 242 (by omega)).trans (lk_head rfl))).trans rfl
theorem i_Law_places_244 : opAt m_Law_places 244 = sVir [(10, m_Fi_gone)] 0 2 247 := (opAt_of (M := m_Law_places) (i := .invokevirtual 143) (n := 3) ((TL_Law_places_2 244 (by omega)).trans (lk_head rfl))).trans rfl
theorem i_Law_places_247 : opAt m_Law_places 247 = sIld 8 249 := (opAt_of (M := m_Law_places) (i := .iload 8) (n := 2) ((TL_Law_places_2 247 (by omega)).trans (lk_head rfl))).trans rfl
theorem i_Law_places_249 : opAt m_Law_places 249 = sCm .eq 254 252 := (opAt_of (M := m_Law_places) (i := .if_icmp .eq 5) (n := 3) ((TL_Law_places_2 249 (by omega)).trans (lk_head rfl))).trans rfl
theorem i_Law_places_252 : opAt m_Law_places 252 = sPush (.int (Int32.ofInt 0)) 253 := (opAt_of (M := m_Law_places) (i := .iconst 0) (n := 1) ((TL_Law_places_2 252 (by omega)).trans (lk_head rfl))).trans rfl
theorem i_Law_places_253 : opAt m_Law_places 253 = sIret .boolean := (opAt_of (M := m_Law_places) (i := .ireturn) (n := 1) ((TL_Law_places_2 253 (by omega)).trans (lk_head rfl))).trans rfl
theorem i_Law_places_254 : opAt m_Law_places 254 = sAld 1 255 := (opAt_of (M := m_Law_places) (i := .aload_n 1) (n := 1) ((TL_Law_places_2 254 (by omega)).trans (lk_head rfl))).trans rfl
theorem i_Law_places_255 : opAt m_Law_places 255 = sPush (.int (Int8.ofInt 23).toInt32) 257 := (opAt_of (M := m_Law_places) (i := .bipush 23) (n := 2) ((TL_Law_places_2 255 (by omega)).trans (lk_head rfl))).trans rfl
theorem i_Law_places_257 : opAt m_Law_places 257 = sIld 6 259 := (opAt_of (M := m_Law_places) (i := .iload 6) (n := 2) ((TL_Law_places_2 257 (by omega)).trans (lk_head rfl))).trans rfl
theorem i_Law_places_259 : opAt m_Law_places 259 = sBI (fun x y => x + y) 260 := (opAt_of (M := m_Law_places) (i := .iadd) (n := 1) ((TL_Law_places_2 259 (by omega)).trans (lk_head rfl))).trans rfl
theorem i_Law_places_260 : opAt m_Law_places 260 = sSta m_Law_cell 0 2 263 := (opAt_of (M := m_Law_places) (i := .invokestatic 8) (n := 3) ((TL_Law_places_2 260 (by omega)).trans (lk_head rfl))).trans rfl
theorem i_Law_places_263 : opAt m_Law_places 263 = sPush (.int (Int8.ofInt 7).toInt32) 265 := (opAt_of (M := m_Law_places) (i := .bipush 7) (n := 2) ((TL_Law_places_2 263 (by omega)).trans (lk_head rfl))).trans rfl
theorem i_Law_places_265 : opAt m_Law_places 265 = sBI (fun x y => x >>> (y &&& 31)) 266 := (opAt_of (M := m_Law_places) (i := .ishr) (n := 1) ((TL_Law_places_2 265 (by omega)).trans (lk_head rfl))).trans rfl
theorem i_Law_places_266 : opAt m_Law_places 266 = sPush (.int (Int8.ofInt 8).toInt32) 268 := (opAt_of (M := m_Law_places) (i := .bipush 8) (n := 2) ((TL_Law_places_2 266 (by omega)).trans (lk_head rfl))).trans rfl
theorem i_Law_places_268 : opAt m_Law_places 268 = sSta m_Law_at 0 2 271 := (opAt_of (M := m_Law_places) (i := .invokestatic 14) (n := 3) ((TL_Law_places_2 268 (by omega)).trans (lk_head rfl))).trans rfl
theorem i_Law_places_271 : opAt m_Law_places 271 = sIst 9 273 := (opAt_of (M := m_Law_places) (i := .istore 9) (n := 2) ((TL_Law_places_2 271 (by omega)).trans (lk_head rfl))).trans rfl
theorem i_Law_places_273 : opAt m_Law_places 273 = sPush (.int (Int32.ofInt 2)) 274 := (opAt_of (M := m_Law_places) (i := .iconst 2) (n := 1) ((TL_Law_places_2 273 (by omega)).trans (lk_head rfl))).trans rfl
theorem i_Law_places_274 : opAt m_Law_places 274 = sAld 1 275 := (opAt_of (M := m_Law_places) (i := .aload_n 1) (n := 1) ((TL_Law_places_2 274 (by omega)).trans (lk_head rfl))).trans rfl
theorem i_Law_places_275 : opAt m_Law_places 275 = sPush (.int (Int8.ofInt 23).toInt32) 277 := (opAt_of (M := m_Law_places) (i := .bipush 23) (n := 2) ((TL_Law_places_2 275 (by omega)).trans (lk_head rfl))).trans rfl
theorem i_Law_places_277 : opAt m_Law_places 277 = sIld 6 279 := (opAt_of (M := m_Law_places) (i := .iload 6) (n := 2) ((TL_Law_places_2 277 (by omega)).trans (lk_head rfl))).trans rfl
theorem i_Law_places_279 : opAt m_Law_places 279 = sBI (fun x y => x + y) 280 := (opAt_of (M := m_Law_places) (i := .iadd) (n := 1) ((TL_Law_places_2 279 (by omega)).trans (lk_head rfl))).trans rfl
theorem i_Law_places_280 : opAt m_Law_places 280 = sSta m_Law_cell 0 2 283 := (opAt_of (M := m_Law_places) (i := .invokestatic 8) (n := 3) ((TL_Law_places_2 280 (by omega)).trans (lk_head rfl))).trans rfl
theorem i_Law_places_283 : opAt m_Law_places 283 = sPush (.int (Int8.ofInt 10).toInt32) 285 := (opAt_of (M := m_Law_places) (i := .bipush 10) (n := 2) ((TL_Law_places_2 283 (by omega)).trans (lk_head rfl))).trans rfl
theorem i_Law_places_285 : opAt m_Law_places 285 = sBI (fun x y => x >>> (y &&& 31)) 286 := (opAt_of (M := m_Law_places) (i := .ishr) (n := 1) ((TL_Law_places_2 285 (by omega)).trans (lk_head rfl))).trans rfl
theorem i_Law_places_286 : opAt m_Law_places 286 = sPush (.int (Int8.ofInt 18).toInt32) 288 := (opAt_of (M := m_Law_places) (i := .bipush 18) (n := 2) ((TL_Law_places_2 286 (by omega)).trans (lk_head rfl))).trans rfl
theorem i_Law_places_288 : opAt m_Law_places 288 = sSta m_Law_at 0 2 291 := (opAt_of (M := m_Law_places) (i := .invokestatic 14) (n := 3) ((TL_Law_places_2 288 (by omega)).trans (lk_head rfl))).trans rfl
theorem i_Law_places_291 : opAt m_Law_places 291 = sBI (fun x y => x + y) 292 := (opAt_of (M := m_Law_places) (i := .iadd) (n := 1) ((TL_Law_places_2 291 (by omega)).trans (lk_head rfl))).trans rfl
theorem i_Law_places_292 : opAt m_Law_places 292 = sIst 10 294 := (opAt_of (M := m_Law_places) (i := .istore 10) (n := 2) ((TL_Law_places_2 292 (by omega)).trans (lk_head rfl))).trans rfl
theorem i_Law_places_294 : opAt m_Law_places 294 = sAld 2 295 := (opAt_of (M := m_Law_places) (i := .aload_n 2) (n := 1) ((TL_Law_places_2 294 (by omega)).trans (lk_head rfl))).trans rfl
theorem i_Law_places_295 : opAt m_Law_places 295 = sIld 9 297 := (opAt_of (M := m_Law_places) (i := .iload 9) (n := 2) ((TL_Law_places_2 295 (by omega)).trans (lk_head rfl))).trans rfl
theorem i_Law_places_297 : opAt m_Law_places 297 = sIld 7 299 := (opAt_of (M := m_Law_places) (i := .iload 7) (n := 2) ((TL_Law_places_2 297 (by omega)).trans (lk_head rfl))).trans rfl
theorem i_Law_places_299 : opAt m_Law_places 299 = sSta m_Law_last 0 3 302 := (opAt_of (M := m_Law_places) (i := .invokestatic 136) (n := 3) ((TL_Law_places_2 299 (by omega)).trans (lk_head rfl))).trans rfl
theorem i_Law_places_302 : opAt m_Law_places 302 = sIst 11 304 := (opAt_of (M := m_Law_places) (i := .istore 11) (n := 2) ((TL_Law_places_2 302 (by omega)).trans (lk_head rfl))).trans rfl
theorem i_Law_places_304 : opAt m_Law_places 304 = sAld 2 305 := (opAt_of (M := m_Law_places) (i := .aload_n 2) (n := 1) ((TL_Law_places_2 304 (by omega)).trans (lk_head rfl))).trans rfl
theorem i_Law_places_305 : opAt m_Law_places 305 = sIld 9 307 := (opAt_of (M := m_Law_places) (i := .iload 9) (n := 2) ((TL_Law_places_2 305 (by omega)).trans (lk_head rfl))).trans rfl
theorem i_Law_places_307 : opAt m_Law_places 307 = sIld 7 309 := (opAt_of (M := m_Law_places) (i := .iload 7) (n := 2) ((TL_Law_places_2 307 (by omega)).trans (lk_head rfl))).trans rfl
theorem i_Law_places_309 : opAt m_Law_places 309 = sSta m_Law_first 0 3 312 := (opAt_of (M := m_Law_places) (i := .invokestatic 140) (n := 3) ((TL_Law_places_2 309 (by omega)).trans (lk_head rfl))).trans rfl
theorem i_Law_places_312 : opAt m_Law_places 312 = sIst 12 314 := (opAt_of (M := m_Law_places) (i := .istore 12) (n := 2) ((TL_Law_places_2 312 (by omega)).trans (lk_head rfl))).trans rfl
theorem i_Law_places_314 : opAt m_Law_places 314 = sAld 0 315 := (opAt_of (M := m_Law_places) (i := .aload_n 0) (n := 1) ((TL_Law_places_2 314 (by omega)).trans (lk_head rfl))).trans rfl
theorem i_Law_places_315 : opAt m_Law_places 315 = sPush (.int (Int32.ofInt 0)) 316 := (opAt_of (M := m_Law_places) (i := .iconst 0) (n := 1) ((TL_Law_places_2 315 (by omega)).trans (lk_head rfl))).trans rfl
theorem i_Law_places_316 : opAt m_Law_places 316 = sIld 9 318 := (opAt_of (M := m_Law_places) (i := .iload 9) (n := 2) ((TL_Law_places_2 316 (by omega)).trans (lk_head rfl))).trans rfl
theorem i_Law_places_318 : opAt m_Law_places 318 = sIld 10 320 := (opAt_of (M := m_Law_places) (i := .iload 10) (n := 2) ((TL_Law_places_2 318 (by omega)).trans (lk_head rfl))).trans rfl
theorem i_Law_places_320 : opAt m_Law_places 320 = sIld 7 322 := (opAt_of (M := m_Law_places) (i := .iload 7) (n := 2) ((TL_Law_places_2 320 (by omega)).trans (lk_head rfl))).trans rfl
theorem i_Law_places_322 : opAt m_Law_places 322 = sVir [(10, m_Fi_earlier)] 0 4 325 := (opAt_of (M := m_Law_places) (i := .invokevirtual 146) (n := 3) ((TL_Law_places_2 322 (by omega)).trans (lk_head rfl))).trans rfl
theorem i_Law_places_325 : opAt m_Law_places 325 = sIld 11 327 := (opAt_of (M := m_Law_places) (i := .iload 11) (n := 2) ((TL_Law_places_2 325 (by omega)).trans (lk_head rfl))).trans rfl
theorem i_Law_places_327 : opAt m_Law_places 327 = sIf .lt 335 330 := (opAt_of (M := m_Law_places) (i := .ifCond .lt 8) (n := 3) ((TL_Law_places_2 327 (by omega)).trans (lk_head rfl))).trans rfl
theorem i_Law_places_330 : opAt m_Law_places 330 = sIld 12 332 := (opAt_of (M := m_Law_places) (i := .iload 12) (n := 2) ((TL_Law_places_3 330 (by omega)).trans (lk_head rfl))).trans rfl
theorem i_Law_places_332 : opAt m_Law_places 332 = sIf .ge 339 335 := (opAt_of (M := m_Law_places) (i := .ifCond .ge 7) (n := 3) ((TL_Law_places_3 332 (by omega)).trans (lk_head rfl))).trans rfl
theorem i_Law_places_335 : opAt m_Law_places 335 = sPush (.int (Int32.ofInt (-1))) 336 := (opAt_of (M := m_Law_places) (i := .iconst (-1)) (n := 1) ((TL_Law_places_3 335 (by omega)).trans (lk_head rfl))).trans rfl
theorem i_Law_places_336 : opAt m_Law_places 336 = sGo 355 := (opAt_of (M := m_Law_places) (i := .goto 19) (n := 3) ((TL_Law_places_3 336 (by omega)).trans (lk_head rfl))).trans rfl
theorem i_Law_places_339 : opAt m_Law_places 339 = sIld 12 341 := (opAt_of (M := m_Law_places) (i := .iload 12) (n := 2) ((TL_Law_places_3 339 (by omega)).trans (lk_head rfl))).trans rfl
theorem i_Law_places_341 : opAt m_Law_places 341 = sIld 11 343 := (opAt_of (M := m_Law_places) (i := .iload 11) (n := 2) ((TL_Law_places_3 341 (by omega)).trans (lk_head rfl))).trans rfl
theorem i_Law_places_343 : opAt m_Law_places 343 = sBI (fun x y => x - y) 344 := (opAt_of (M := m_Law_places) (i := .isub) (n := 1) ((TL_Law_places_3 343 (by omega)).trans (lk_head rfl))).trans rfl
theorem i_Law_places_344 : opAt m_Law_places 344 = sIld 10 346 := (opAt_of (M := m_Law_places) (i := .iload 10) (n := 2) ((TL_Law_places_3 344 (by omega)).trans (lk_head rfl))).trans rfl
theorem i_Law_places_346 : opAt m_Law_places 346 = sDI (fun x y => x - x / y * y) 347 := (opAt_of (M := m_Law_places) (i := .irem) (n := 1) ((TL_Law_places_3 346 (by omega)).trans (lk_head rfl))).trans rfl
theorem i_Law_places_347 : opAt m_Law_places 347 = sIf .ne 354 350 := (opAt_of (M := m_Law_places) (i := .ifCond .ne 7) (n := 3) ((TL_Law_places_3 347 (by omega)).trans (lk_head rfl))).trans rfl
theorem i_Law_places_350 : opAt m_Law_places 350 = sPush (.int (Int32.ofInt 0)) 351 := (opAt_of (M := m_Law_places) (i := .iconst 0) (n := 1) ((TL_Law_places_3 350 (by omega)).trans (lk_head rfl))).trans rfl
theorem i_Law_places_351 : opAt m_Law_places 351 = sGo 355 := (opAt_of (M := m_Law_places) (i := .goto 4) (n := 3) ((TL_Law_places_3 351 (by omega)).trans (lk_head rfl))).trans rfl
theorem i_Law_places_354 : opAt m_Law_places 354 = sPush (.int (Int32.ofInt 1)) 355 := (opAt_of (M := m_Law_places) (i := .iconst 1) (n := 1) ((TL_Law_places_3 354 (by omega)).trans (lk_head rfl))).trans rfl
theorem i_Law_places_355 : opAt m_Law_places 355 = sCm .eq 360 358 := (opAt_of (M := m_Law_places) (i := .if_icmp .eq 5) (n := 3) ((TL_Law_places_3 355 (by omega)).trans (lk_head rfl))).trans rfl
theorem i_Law_places_358 : opAt m_Law_places 358 = sPush (.int (Int32.ofInt 0)) 359 := (opAt_of (M := m_Law_places) (i := .iconst 0) (n := 1) ((TL_Law_places_3 358 (by omega)).trans (lk_head rfl))).trans rfl
theorem i_Law_places_359 : opAt m_Law_places 359 = sIret .boolean := (opAt_of (M := m_Law_places) (i := .ireturn) (n := 1) ((TL_Law_places_3 359 (by omega)).trans (lk_head rfl))).trans rfl
theorem i_Law_places_360 : opAt m_Law_places 360 = sInc 6 1 363 := (opAt_of (M := m_Law_places) (i := .iinc 6 1) (n := 3) ((TL_Law_places_3 360 (by omega)).trans (lk_head rfl))).trans rfl
theorem i_Law_places_363 : opAt m_Law_places 363 = sGo 103 := (opAt_of (M := m_Law_places) (i := .goto (-260)) (n := 3) ((TL_Law_places_3 363 (by omega)).trans (lk_head rfl))).trans rfl
theorem i_Law_places_366 : opAt m_Law_places 366 = sAld 0 367 := (opAt_of (M := m_Law_places) (i := .aload_n 0) (n := 1) ((TL_Law_places_3 366 (by omega)).trans (lk_head rfl))).trans rfl
theorem i_Law_places_367 : opAt m_Law_places 367 = sPush (.int (Int32.ofInt 0)) 368 := (opAt_of (M := m_Law_places) (i := .iconst 0) (n := 1) ((TL_Law_places_3 367 (by omega)).trans (lk_head rfl))).trans rfl
theorem i_Law_places_368 : opAt m_Law_places 368 = sPush (.int (Int32.ofInt 0)) 369 := (opAt_of (M := m_Law_places) (i := .iconst 0) (n := 1) ((TL_Law_places_3 368 (by omega)).trans (lk_head rfl))).trans rfl
theorem i_Law_places_369 : opAt m_Law_places 369 = sVir [(10, m_Fi_gone)] 0 2 372 := (opAt_of (M := m_Law_places) (i := .invokevirtual 143) (n := 3) ((TL_Law_places_3 369 (by omega)).trans (lk_head rfl))).trans rfl
theorem i_Law_places_372 : opAt m_Law_places 372 = sPush (.int (Int8.ofInt (-102)).toInt32) 374 := (opAt_of (M := m_Law_places) (i := .bipush (-102)) (n := 2) ((TL_Law_places_3 372 (by omega)).trans (lk_head rfl))).trans rfl
theorem i_Law_places_374 : opAt m_Law_places 374 = sCm .ne 471 377 := (opAt_of (M := m_Law_places) (i := .if_icmp .ne 97) (n := 3) ((TL_Law_places_3 374 (by omega)).trans (lk_head rfl))).trans rfl
theorem i_Law_places_377 : opAt m_Law_places 377 = sAld 0 378 := (opAt_of (M := m_Law_places) (i := .aload_n 0) (n := 1) ((TL_Law_places_3 377 (by omega)).trans (lk_head rfl))).trans rfl
theorem i_Law_places_378 : opAt m_Law_places 378 = sPush (.int (Int32.ofInt 0)) 379 := (opAt_of (M := m_Law_places) (i := .iconst 0) (n := 1) ((TL_Law_places_3 378 (by omega)).trans (lk_head rfl))).trans rfl
theorem i_Law_places_379 : opAt m_Law_places 379 = sAld 2 380 := (opAt_of (M := m_Law_places) (i := .aload_n 2) (n := 1) ((TL_Law_places_3 379 (by omega)).trans (lk_head rfl))).trans rfl
theorem i_Law_places_380 : opAt m_Law_places 380 = sPush (.int (Int8.ofInt 48).toInt32) 382 := (opAt_of (M := m_Law_places) (i := .bipush 48) (n := 2) ((TL_Law_places_3 380 (by omega)).trans (lk_head rfl))).trans rfl
theorem i_Law_places_382 : opAt m_Law_places 382 = sIal 383 := (opAt_of (M := m_Law_places) (i := .iaload) (n := 1) ((TL_Law_places_3 382 (by omega)).trans (lk_head rfl))).trans rfl
theorem i_Law_places_383 : opAt m_Law_places 383 = sVir [(10, m_Fi_gone)] 0 2 386 := (opAt_of (M := m_Law_places) (i := .invokevirtual 143) (n := 3) ((TL_Law_places_3 383 (by omega)).trans (lk_head rfl))).trans rfl
theorem i_Law_places_386 : opAt m_Law_places 386 = sPush (.int (Int8.ofInt (-102)).toInt32) 388 := (opAt_of (M := m_Law_places) (i := .bipush (-102)) (n := 2) ((TL_Law_places_3 386 (by omega)).trans (lk_head rfl))).trans rfl
theorem i_Law_places_388 : opAt m_Law_places 388 = sCm .ne 471 391 := (opAt_of (M := m_Law_places) (i := .if_icmp .ne 83) (n := 3) ((TL_Law_places_3 388 (by omega)).trans (lk_head rfl))).trans rfl
theorem i_Law_places_391 : opAt m_Law_places 391 = sAld 0 392 := (opAt_of (M := m_Law_places) (i := .aload_n 0) (n := 1) ((TL_Law_places_3 391 (by omega)).trans (lk_head rfl))).trans rfl
theorem i_Law_places_392 : opAt m_Law_places 392 = sPush (.int (Int32.ofInt 2)) 393 := (opAt_of (M := m_Law_places) (i := .iconst 2) (n := 1) ((TL_Law_places_3 392 (by omega)).trans (lk_head rfl))).trans rfl
theorem i_Law_places_393 : opAt m_Law_places 393 = sPush (.int (Int32.ofInt 1)) 394 := (opAt_of (M := m_Law_places) (i := .iconst 1) (n := 1) ((TL_Law_places_3 393 (by omega)).trans (lk_head rfl))).trans rfl
theorem i_Law_places_394 : opAt m_Law_places 394 = sVir [(10, m_Fi_gone)] 0 2 397 := (opAt_of (M := m_Law_places) (i := .invokevirtual 143) (n := 3) ((TL_Law_places_3 394 (by omega)).trans (lk_head rfl))).trans rfl
theorem i_Law_places_397 : opAt m_Law_places 397 = sPush (.int (Int8.ofInt (-101)).toInt32) 399 := (opAt_of (M := m_Law_places) (i := .bipush (-101)) (n := 2) ((TL_Law_places_3 397 (by omega)).trans (lk_head rfl))).trans rfl
theorem i_Law_places_399 : opAt m_Law_places 399 = sCm .ne 471 402 := (opAt_of (M := m_Law_places) (i := .if_icmp .ne 72) (n := 3) ((TL_Law_places_3 399 (by omega)).trans (lk_head rfl))).trans rfl
theorem i_Law_places_402 : opAt m_Law_places 402 = sAld 0 403 := (opAt_of (M := m_Law_places) (i := .aload_n 0) (n := 1) ((TL_Law_places_3 402 (by omega)).trans (lk_head rfl))).trans rfl
theorem i_Law_places_403 : opAt m_Law_places 403 = sPush (.int (Int32.ofInt 0)) 404 := (opAt_of (M := m_Law_places) (i := .iconst 0) (n := 1) ((TL_Law_places_3 403 (by omega)).trans (lk_head rfl))).trans rfl
theorem i_Law_places_404 : opAt m_Law_places 404 = sPush (.int (Int32.ofInt 0)) 405 := (opAt_of (M := m_Law_places) (i := .iconst 0) (n := 1) ((TL_Law_places_3 404 (by omega)).trans (lk_head rfl))).trans rfl
theorem i_Law_places_405 : opAt m_Law_places 405 = sPush (.int (Int32.ofInt 2)) 406 := (opAt_of (M := m_Law_places) (i := .iconst 2) (n := 1) ((TL_Law_places_3 405 (by omega)).trans (lk_head rfl))).trans rfl
theorem i_Law_places_406 : opAt m_Law_places 406 = sPush (.int (Int32.ofInt 0)) 407 := (opAt_of (M := m_Law_places) (i := .iconst 0) (n := 1) ((TL_Law_places_3 406 (by omega)).trans (lk_head rfl))).trans rfl
theorem i_Law_places_407 : opAt m_Law_places 407 = sVir [(10, m_Fi_earlier)] 0 4 410 := (opAt_of (M := m_Law_places) (i := .invokevirtual 146) (n := 3) ((TL_Law_places_3 407 (by omega)).trans (lk_head rfl))).trans rfl
theorem i_Law_places_410 : opAt m_Law_places 410 = sPush (.int (Int8.ofInt (-102)).toInt32) 412 := (opAt_of (M := m_Law_places) (i := .bipush (-102)) (n := 2) ((TL_Law_places_3 410 (by omega)).trans (lk_head rfl))).trans rfl
theorem i_Law_places_412 : opAt m_Law_places 412 = sCm .ne 471 415 := (opAt_of (M := m_Law_places) (i := .if_icmp .ne 59) (n := 3) ((TL_Law_places_3 412 (by omega)).trans (lk_head rfl))).trans rfl
theorem i_Law_places_415 : opAt m_Law_places 415 = sAld 0 416 := (opAt_of (M := m_Law_places) (i := .aload_n 0) (n := 1) ((TL_Law_places_3 415 (by omega)).trans (lk_head rfl))).trans rfl
theorem i_Law_places_416 : opAt m_Law_places 416 = sPush (.int (Int32.ofInt 2)) 417 := (opAt_of (M := m_Law_places) (i := .iconst 2) (n := 1) ((TL_Law_places_3 416 (by omega)).trans (lk_head rfl))).trans rfl
theorem i_Law_places_417 : opAt m_Law_places 417 = sPush (.int (Int32.ofInt 0)) 418 := (opAt_of (M := m_Law_places) (i := .iconst 0) (n := 1) ((TL_Law_places_3 417 (by omega)).trans (lk_head rfl))).trans rfl
theorem i_Law_places_418 : opAt m_Law_places 418 = sPush (.int (Int32.ofInt 2)) 419 := (opAt_of (M := m_Law_places) (i := .iconst 2) (n := 1) ((TL_Law_places_3 418 (by omega)).trans (lk_head rfl))).trans rfl
theorem i_Law_places_419 : opAt m_Law_places 419 = sPush (.int (Int32.ofInt 1)) 420 := (opAt_of (M := m_Law_places) (i := .iconst 1) (n := 1) ((TL_Law_places_3 419 (by omega)).trans (lk_head rfl))).trans rfl
theorem i_Law_places_420 : opAt m_Law_places 420 = sVir [(10, m_Fi_earlier)] 0 4 423 := (opAt_of (M := m_Law_places) (i := .invokevirtual 146) (n := 3) ((TL_Law_places_3 420 (by omega)).trans (lk_head rfl))).trans rfl
theorem i_Law_places_423 : opAt m_Law_places 423 = sPush (.int (Int8.ofInt (-101)).toInt32) 425 := (opAt_of (M := m_Law_places) (i := .bipush (-101)) (n := 2) ((TL_Law_places_3 423 (by omega)).trans (lk_head rfl))).trans rfl
theorem i_Law_places_425 : opAt m_Law_places 425 = sCm .ne 471 428 := (opAt_of (M := m_Law_places) (i := .if_icmp .ne 46) (n := 3) ((TL_Law_places_3 425 (by omega)).trans (lk_head rfl))).trans rfl
theorem i_Law_places_428 : opAt m_Law_places 428 = sAld 0 429 := (opAt_of (M := m_Law_places) (i := .aload_n 0) (n := 1) ((TL_Law_places_3 428 (by omega)).trans (lk_head rfl))).trans rfl
theorem i_Law_places_429 : opAt m_Law_places 429 = sPush (.int (Int8.ofInt 8).toInt32) 431 := (opAt_of (M := m_Law_places) (i := .bipush 8) (n := 2) ((TL_Law_places_3 429 (by omega)).trans (lk_head rfl))).trans rfl
theorem i_Law_places_431 : opAt m_Law_places 431 = sPush (.int (Int32.ofInt 2)) 432 := (opAt_of (M := m_Law_places) (i := .iconst 2) (n := 1) ((TL_Law_places_3 431 (by omega)).trans (lk_head rfl))).trans rfl
theorem i_Law_places_432 : opAt m_Law_places 432 = sVir [(10, m_Fi_trace)] 0 2 435 := (opAt_of (M := m_Law_places) (i := .invokevirtual 133) (n := 3) ((TL_Law_places_3 432 (by omega)).trans (lk_head rfl))).trans rfl
theorem i_Law_places_435 : opAt m_Law_places 435 = sPush (.int (Int8.ofInt (-102)).toInt32) 437 := (opAt_of (M := m_Law_places) (i := .bipush (-102)) (n := 2) ((TL_Law_places_3 435 (by omega)).trans (lk_head rfl))).trans rfl
theorem i_Law_places_437 : opAt m_Law_places 437 = sCm .ne 471 440 := (opAt_of (M := m_Law_places) (i := .if_icmp .ne 34) (n := 3) ((TL_Law_places_3 437 (by omega)).trans (lk_head rfl))).trans rfl
theorem i_Law_places_440 : opAt m_Law_places 440 = sAld 0 441 := (opAt_of (M := m_Law_places) (i := .aload_n 0) (n := 1) ((TL_Law_places_4 440 (by omega)).trans (rfl))).trans rfl
theorem i_Law_places_441 : opAt m_Law_places 441 = sPush (.int (Int32.ofInt 0)) 442 := (opAt_of (M := m_Law_places) (i := .iconst 0) (n := 1) ((TL_Law_places_4 441 (by omega)).trans (rfl))).trans rfl
theorem i_Law_places_442 : opAt m_Law_places 442 = sPush (.int (Int32.ofInt 1)) 443 := (opAt_of (M := m_Law_places) (i := .iconst 1) (n := 1) ((TL_Law_places_4 442 (by omega)).trans (rfl))).trans rfl
theorem i_Law_places_443 : opAt m_Law_places 443 = sVir [(10, m_Fi_trace)] 0 2 446 := (opAt_of (M := m_Law_places) (i := .invokevirtual 133) (n := 3) ((TL_Law_places_4 443 (by omega)).trans (rfl))).trans rfl
theorem i_Law_places_446 : opAt m_Law_places 446 = sPush (.int (Int8.ofInt (-102)).toInt32) 448 := (opAt_of (M := m_Law_places) (i := .bipush (-102)) (n := 2) ((TL_Law_places_4 446 (by omega)).trans (rfl))).trans rfl
theorem i_Law_places_448 : opAt m_Law_places 448 = sCm .ne 471 451 := (opAt_of (M := m_Law_places) (i := .if_icmp .ne 23) (n := 3) ((TL_Law_places_4 448 (by omega)).trans (rfl))).trans rfl
theorem i_Law_places_451 : opAt m_Law_places 451 = sAld 0 452 := (opAt_of (M := m_Law_places) (i := .aload_n 0) (n := 1) ((TL_Law_places_4 451 (by omega)).trans (rfl))).trans rfl
theorem i_Law_places_452 : opAt m_Law_places 452 = sVir [(10, m_Fi_clear)] 0 0 455 := (opAt_of (M := m_Law_places) (i := .invokevirtual 150) (n := 3) ((TL_Law_places_4 452 (by omega)).trans (rfl))).trans rfl
theorem i_Law_places_455 : opAt m_Law_places 455 = sIld 3 456 := (opAt_of (M := m_Law_places) (i := .iload_n 3) (n := 1) ((TL_Law_places_4 455 (by omega)).trans (rfl))).trans rfl
theorem i_Law_places_456 : opAt m_Law_places 456 = sCm .ne 471 459 := (opAt_of (M := m_Law_places) (i := .if_icmp .ne 15) (n := 3) ((TL_Law_places_4 456 (by omega)).trans (rfl))).trans rfl
theorem i_Law_places_459 : opAt m_Law_places 459 = sAld 0 460 := (opAt_of (M := m_Law_places) (i := .aload_n 0) (n := 1) ((TL_Law_places_4 459 (by omega)).trans (rfl))).trans rfl
theorem i_Law_places_460 : opAt m_Law_places 460 = sPush (.int (Int32.ofInt 4)) 461 := (opAt_of (M := m_Law_places) (i := .iconst 4) (n := 1) ((TL_Law_places_4 460 (by omega)).trans (rfl))).trans rfl
theorem i_Law_places_461 : opAt m_Law_places 461 = sVir [(10, m_Fi_count)] 0 1 464 := (opAt_of (M := m_Law_places) (i := .invokevirtual 153) (n := 3) ((TL_Law_places_4 461 (by omega)).trans (rfl))).trans rfl
theorem i_Law_places_464 : opAt m_Law_places 464 = sIf .ne 471 467 := (opAt_of (M := m_Law_places) (i := .ifCond .ne 7) (n := 3) ((TL_Law_places_4 464 (by omega)).trans (rfl))).trans rfl
theorem i_Law_places_467 : opAt m_Law_places 467 = sPush (.int (Int32.ofInt 1)) 468 := (opAt_of (M := m_Law_places) (i := .iconst 1) (n := 1) ((TL_Law_places_4 467 (by omega)).trans (rfl))).trans rfl
theorem i_Law_places_468 : opAt m_Law_places 468 = sGo 472 := (opAt_of (M := m_Law_places) (i := .goto 4) (n := 3) ((TL_Law_places_4 468 (by omega)).trans (rfl))).trans rfl
theorem i_Law_places_471 : opAt m_Law_places 471 = sPush (.int (Int32.ofInt 0)) 472 := (opAt_of (M := m_Law_places) (i := .iconst 0) (n := 1) ((TL_Law_places_4 471 (by omega)).trans (rfl))).trans rfl
theorem i_Law_places_472 : opAt m_Law_places 472 = sIret .boolean := (opAt_of (M := m_Law_places) (i := .ireturn) (n := 1) ((TL_Law_places_4 472 (by omega)).trans (rfl))).trans rfl
theorem al_Law_0 : t_Law_0.all (fun q => decide (q.1 < 109)) = true := by decide +kernel
theorem al_Law_1 : t_Law_1.all (fun q => decide (q.1 < 220)) = true := by decide +kernel
theorem al_Law_2 : t_Law_2.all (fun q => decide (q.1 < 364)) = true := by decide +kernel
theorem al_Law_3 : t_Law_3.all (fun q => decide (q.1 < 474)) = true := by decide +kernel
theorem al_Law_4 : t_Law_4.all (fun q => decide (q.1 < 587)) = true := by decide +kernel
theorem al_Law_5 : t_Law_5.all (fun q => decide (q.1 < 698)) = true := by decide +kernel
theorem al_Law_6 : t_Law_6.all (fun q => decide (q.1 < 809)) = true := by decide +kernel
theorem al_Law_7 : t_Law_7.all (fun q => decide (q.1 < 923)) = true := by decide +kernel
theorem al_Law_8 : t_Law_8.all (fun q => decide (q.1 < 1025)) = true := by decide +kernel
theorem TL_Law_0 (pc : Nat) : t_Law.lookup pc = (t_Law_0 ++ (t_Law_1 ++ (t_Law_2 ++ (t_Law_3 ++ (t_Law_4 ++ (t_Law_5 ++ (t_Law_6 ++ (t_Law_7 ++ (t_Law_8 ++ (t_Law_9)))))))))).lookup pc := rfl
theorem TL_Law_1 (pc : Nat) (h : 109 ≤ pc) : t_Law.lookup pc = (t_Law_1 ++ (t_Law_2 ++ (t_Law_3 ++ (t_Law_4 ++ (t_Law_5 ++ (t_Law_6 ++ (t_Law_7 ++ (t_Law_8 ++ (t_Law_9))))))))).lookup pc := (TL_Law_0 pc).trans (lk_app (lk_none 109 h al_Law_0))
theorem TL_Law_2 (pc : Nat) (h : 220 ≤ pc) : t_Law.lookup pc = (t_Law_2 ++ (t_Law_3 ++ (t_Law_4 ++ (t_Law_5 ++ (t_Law_6 ++ (t_Law_7 ++ (t_Law_8 ++ (t_Law_9)))))))).lookup pc := (TL_Law_1 pc (by omega)).trans (lk_app (lk_none 220 h al_Law_1))
theorem TL_Law_3 (pc : Nat) (h : 364 ≤ pc) : t_Law.lookup pc = (t_Law_3 ++ (t_Law_4 ++ (t_Law_5 ++ (t_Law_6 ++ (t_Law_7 ++ (t_Law_8 ++ (t_Law_9))))))).lookup pc := (TL_Law_2 pc (by omega)).trans (lk_app (lk_none 364 h al_Law_2))
theorem TL_Law_4 (pc : Nat) (h : 474 ≤ pc) : t_Law.lookup pc = (t_Law_4 ++ (t_Law_5 ++ (t_Law_6 ++ (t_Law_7 ++ (t_Law_8 ++ (t_Law_9)))))).lookup pc := (TL_Law_3 pc (by omega)).trans (lk_app (lk_none 474 h al_Law_3))
theorem TL_Law_5 (pc : Nat) (h : 587 ≤ pc) : t_Law.lookup pc = (t_Law_5 ++ (t_Law_6 ++ (t_Law_7 ++ (t_Law_8 ++ (t_Law_9))))).lookup pc := (TL_Law_4 pc (by omega)).trans (lk_app (lk_none 587 h al_Law_4))
theorem TL_Law_6 (pc : Nat) (h : 698 ≤ pc) : t_Law.lookup pc = (t_Law_6 ++ (t_Law_7 ++ (t_Law_8 ++ (t_Law_9)))).lookup pc := (TL_Law_5 pc (by omega)).trans (lk_app (lk_none 698 h al_Law_5))
theorem TL_Law_7 (pc : Nat) (h : 809 ≤ pc) : t_Law.lookup pc = (t_Law_7 ++ (t_Law_8 ++ (t_Law_9))).lookup pc := (TL_Law_6 pc (by omega)).trans (lk_app (lk_none 809 h al_Law_6))
theorem TL_Law_8 (pc : Nat) (h : 923 ≤ pc) : t_Law.lookup pc = (t_Law_8 ++ (t_Law_9)).lookup pc := (TL_Law_7 pc (by omega)).trans (lk_app (lk_none 923 h al_Law_7))
theorem TL_Law_9 (pc : Nat) (h : 1025 ≤ pc) : t_Law.lookup pc = (t_Law_9).lookup pc := (TL_Law_8 pc (by omega)).trans (lk_app (lk_none 1025 h al_Law_8))
theorem i_Law_0 : opAt m_Law 0 = sNew 10 [.null, .null, .int 0, .null, .null, .int 0, .null, .null, .int 0] 3 := (opAt_of (M := m_Law) (i := .new 23) (n := 3) ((TL_Law_0 0).trans (lk_head rfl))).trans rfl
theorem i_Law_3 : opAt m_Law 3 = sDup 4 := (opAt_of (M := m_Law) (i := .dup) (n := 1) ((TL_Law_0 3).trans (lk_head rfl))).trans rfl
theorem i_Law_4 : opAt m_Law 4 = sSpe m_Fi_init 137 0 7 := (opAt_of (M := m_Law) (i := .invokespecial 49) (n := 3) ((TL_Law_0 4).trans (lk_head rfl))).trans rfl
theorem i_Law_7 : opAt m_Law 7 = sAst 1 8 := (opAt_of (M := m_Law) (i := .astore_n 1) (n := 1) ((TL_Law_0 7).trans (lk_head rfl))).trans rfl
theorem i_Law_8 : opAt m_Law 8 = sPush (.int (Int8.ofInt 17).toInt32) 10 := (opAt_of (M := m_Law) (i := .bipush 17) (n := 2) ((TL_Law_0 8).trans (lk_head rfl))).trans rfl
theorem i_Law_10 : opAt m_Law 10 = sNar 0 zI 12 := (opAt_of (M := m_Law) (i := .newarray .int) (n := 2) ((TL_Law_0 10).trans (lk_head rfl))).trans rfl
theorem i_Law_12 : opAt m_Law 12 = sAst 2 13 := (opAt_of (M := m_Law) (i := .astore_n 2) (n := 1) ((TL_Law_0 12).trans (lk_head rfl))).trans rfl
theorem i_Law_13 : opAt m_Law 13 = sPush (.int (Int8.ofInt 17).toInt32) 15 := (opAt_of (M := m_Law) (i := .bipush 17) (n := 2) ((TL_Law_0 13).trans (lk_head rfl))).trans rfl
theorem i_Law_15 : opAt m_Law 15 = sNar 0 zI 17 := (opAt_of (M := m_Law) (i := .newarray .int) (n := 2) ((TL_Law_0 15).trans (lk_head rfl))).trans rfl
theorem i_Law_17 : opAt m_Law 17 = sAst 3 18 := (opAt_of (M := m_Law) (i := .astore_n 3) (n := 1) ((TL_Law_0 17).trans (lk_head rfl))).trans rfl
theorem i_Law_18 : opAt m_Law 18 = sPush (.int (Int8.ofInt 48).toInt32) 20 := (opAt_of (M := m_Law) (i := .bipush 48) (n := 2) ((TL_Law_0 18).trans (lk_head rfl))).trans rfl
theorem i_Law_20 : opAt m_Law 20 = sNar 0 zI 22 := (opAt_of (M := m_Law) (i := .newarray .int) (n := 2) ((TL_Law_0 20).trans (lk_head rfl))).trans rfl
theorem i_Law_22 : opAt m_Law 22 = sAst 4 24 := (opAt_of (M := m_Law) (i := .astore 4) (n := 2) ((TL_Law_0 22).trans (lk_head rfl))).trans rfl
theorem i_Law_24 : opAt m_Law 24 = sAld 0 25 := (opAt_of (M := m_Law) (i := .aload_n 0) (n := 1) ((TL_Law_0 24).trans (lk_head rfl))).trans rfl
theorem i_Law_25 : opAt m_Law 25 = sPush (.int (Int32.ofInt 0)) 26 := (opAt_of (M := m_Law) (i := .iconst 0) (n := 1) ((TL_Law_0 25).trans (lk_head rfl))).trans rfl
theorem i_Law_26 : opAt m_Law 26 = sAld 2 27 := (opAt_of (M := m_Law) (i := .aload_n 2) (n := 1) ((TL_Law_0 26).trans (lk_head rfl))).trans rfl
theorem i_Law_27 : opAt m_Law 27 = sAld 4 29 := (opAt_of (M := m_Law) (i := .aload 4) (n := 2) ((TL_Law_0 27).trans (lk_head rfl))).trans rfl
theorem i_Law_29 : opAt m_Law 29 = sSta m_Law_machineText 0 4 32 := (opAt_of (M := m_Law) (i := .invokestatic 50) (n := 3) ((TL_Law_0 29).trans (lk_head rfl))).trans rfl
theorem i_Law_32 : opAt m_Law 32 = sIst 5 34 := (opAt_of (M := m_Law) (i := .istore 5) (n := 2) ((TL_Law_0 32).trans (lk_head rfl))).trans rfl
theorem i_Law_34 : opAt m_Law 34 = sIld 5 36 := (opAt_of (M := m_Law) (i := .iload 5) (n := 2) ((TL_Law_0 34).trans (lk_head rfl))).trans rfl
theorem i_Law_36 : opAt m_Law 36 = sPush (.int (Int8.ofInt 40).toInt32) 38 := (opAt_of (M := m_Law) (i := .bipush 40) (n := 2) ((TL_Law_0 36).trans (lk_head rfl))).trans rfl
theorem i_Law_38 : opAt m_Law 38 = sCm .le 43 41 := (opAt_of (M := m_Law) (i := .if_icmp .le 5) (n := 3) ((TL_Law_0 38).trans (lk_head rfl))).trans rfl
theorem i_Law_41 : opAt m_Law 41 = sPush (.int (Int32.ofInt 1)) 42 := (opAt_of (M := m_Law) (i := .iconst 1) (n := 1) ((TL_Law_0 41).trans (lk_head rfl))).trans rfl
theorem i_Law_42 : opAt m_Law 42 = sIret .boolean := (opAt_of (M := m_Law) (i := .ireturn) (n := 1) ((TL_Law_0 42).trans (lk_head rfl))).trans rfl
theorem i_Law_43 : opAt m_Law 43 = sAld 1 44 := (opAt_of (M := m_Law) (i := .aload_n 1) (n := 1) ((TL_Law_0 43).trans (lk_head rfl))).trans rfl
theorem i_Law_44 : opAt m_Law 44 = sAld 4 46 := (opAt_of (M := m_Law) (i := .aload 4) (n := 2) ((TL_Law_0 44).trans (lk_head rfl))).trans rfl
theorem i_Law_46 : opAt m_Law 46 = sIld 5 48 := (opAt_of (M := m_Law) (i := .iload 5) (n := 2) ((TL_Law_0 46).trans (lk_head rfl))).trans rfl
theorem i_Law_48 : opAt m_Law 48 = sSta m_Law_write 0 3 51 := (opAt_of (M := m_Law) (i := .invokestatic 54) (n := 3) ((TL_Law_0 48).trans (lk_head rfl))).trans rfl
theorem i_Law_51 : opAt m_Law 51 = sIf .eq 61 54 := (opAt_of (M := m_Law) (i := .ifCond .eq 10) (n := 3) ((TL_Law_0 51).trans (lk_head rfl))).trans rfl
theorem i_Law_54 : opAt m_Law 54 = sAld 1 55 := (opAt_of (M := m_Law) (i := .aload_n 1) (n := 1) ((TL_Law_0 54).trans (lk_head rfl))).trans rfl
theorem i_Law_55 : opAt m_Law 55 = sVir [(10, m_Fi_machine)] 6 0 58 := (opAt_of (M := m_Law) (i := .invokevirtual 58) (n := 3) ((TL_Law_0 55).trans (lk_head rfl))).trans rfl
theorem i_Law_58 : opAt m_Law 58 = sIf .eq 63 61 := (opAt_of (M := m_Law) (i := .ifCond .eq 5) (n := 3) ((TL_Law_0 58).trans (lk_head rfl))).trans rfl
theorem i_Law_61 : opAt m_Law 61 = sPush (.int (Int32.ofInt 0)) 62 := (opAt_of (M := m_Law) (i := .iconst 0) (n := 1) ((TL_Law_0 61).trans (lk_head rfl))).trans rfl
theorem i_Law_62 : opAt m_Law 62 = sIret .boolean := (opAt_of (M := m_Law) (i := .ireturn) (n := 1) ((TL_Law_0 62).trans (lk_head rfl))).trans rfl
theorem i_Law_63 : opAt m_Law 63 = sAld 0 64 := (opAt_of (M := m_Law) (i := .aload_n 0) (n := 1) ((TL_Law_0 63).trans (lk_head rfl))).trans rfl
theorem i_Law_64 : opAt m_Law 64 = sPush (.int (Int32.ofInt 4)) 65 := (opAt_of (M := m_Law) (i := .iconst 4) (n := 1) ((TL_Law_0 64).trans (lk_head rfl))).trans rfl
theorem i_Law_65 : opAt m_Law 65 = sAld 3 66 := (opAt_of (M := m_Law) (i := .aload_n 3) (n := 1) ((TL_Law_0 65).trans (lk_head rfl))).trans rfl
theorem i_Law_66 : opAt m_Law 66 = sAld 4 68 := (opAt_of (M := m_Law) (i := .aload 4) (n := 2) ((TL_Law_0 66).trans (lk_head rfl))).trans rfl
theorem i_Law_68 : opAt m_Law 68 = sSta m_Law_machineText 0 4 71 := (opAt_of (M := m_Law) (i := .invokestatic 50) (n := 3) ((TL_Law_0 68).trans (lk_head rfl))).trans rfl
theorem i_Law_71 : opAt m_Law 71 = sIst 5 73 := (opAt_of (M := m_Law) (i := .istore 5) (n := 2) ((TL_Law_0 71).trans (lk_head rfl))).trans rfl
theorem i_Law_73 : opAt m_Law 73 = sAld 1 74 := (opAt_of (M := m_Law) (i := .aload_n 1) (n := 1) ((TL_Law_0 73).trans (lk_head rfl))).trans rfl
theorem i_Law_74 : opAt m_Law 74 = sAld 4 76 := (opAt_of (M := m_Law) (i := .aload 4) (n := 2) ((TL_Law_0 74).trans (lk_head rfl))).trans rfl
theorem i_Law_76 : opAt m_Law 76 = sIld 5 78 := (opAt_of (M := m_Law) (i := .iload 5) (n := 2) ((TL_Law_0 76).trans (lk_head rfl))).trans rfl
theorem i_Law_78 : opAt m_Law 78 = sSta m_Law_write 0 3 81 := (opAt_of (M := m_Law) (i := .invokestatic 54) (n := 3) ((TL_Law_0 78).trans (lk_head rfl))).trans rfl
theorem i_Law_81 : opAt m_Law 81 = sIf .eq 92 84 := (opAt_of (M := m_Law) (i := .ifCond .eq 11) (n := 3) ((TL_Law_0 81).trans (lk_head rfl))).trans rfl
theorem i_Law_84 : opAt m_Law 84 = sAld 1 85 := (opAt_of (M := m_Law) (i := .aload_n 1) (n := 1) ((TL_Law_0 84).trans (lk_head rfl))).trans rfl
theorem i_Law_85 : opAt m_Law 85 = sVir [(10, m_Fi_machine)] 6 0 88 := (opAt_of (M := m_Law) (i := .invokevirtual 58) (n := 3) ((TL_Law_0 85).trans (lk_head rfl))).trans rfl
theorem i_Law_88 : opAt m_Law 88 = sPush (.int (Int32.ofInt 1)) 89 := (opAt_of (M := m_Law) (i := .iconst 1) (n := 1) ((TL_Law_0 88).trans (lk_head rfl))).trans rfl
theorem i_Law_89 : opAt m_Law 89 = sCm .eq 94 92 := (opAt_of (M := m_Law) (i := .if_icmp .eq 5) (n := 3) ((TL_Law_0 89).trans (lk_head rfl))).trans rfl
theorem i_Law_92 : opAt m_Law 92 = sPush (.int (Int32.ofInt 0)) 93 := (opAt_of (M := m_Law) (i := .iconst 0) (n := 1) ((TL_Law_0 92).trans (lk_head rfl))).trans rfl
theorem i_Law_93 : opAt m_Law 93 = sIret .boolean := (opAt_of (M := m_Law) (i := .ireturn) (n := 1) ((TL_Law_0 93).trans (lk_head rfl))).trans rfl
theorem i_Law_94 : opAt m_Law 94 = sPush (.int (Int32.ofInt 0)) 95 := (opAt_of (M := m_Law) (i := .iconst 0) (n := 1) ((TL_Law_0 94).trans (lk_head rfl))).trans rfl
theorem i_Law_95 : opAt m_Law 95 = sIst 6 97 := (opAt_of (M := m_Law) (i := .istore 6) (n := 2) ((TL_Law_0 95).trans (lk_head rfl))).trans rfl
theorem i_Law_97 : opAt m_Law 97 = sIld 6 99 := (opAt_of (M := m_Law) (i := .iload 6) (n := 2) ((TL_Law_0 97).trans (lk_head rfl))).trans rfl
theorem i_Law_99 : opAt m_Law 99 = sAld 2 100 := (opAt_of (M := m_Law) (i := .aload_n 2) (n := 1) ((TL_Law_0 99).trans (lk_head rfl))).trans rfl
theorem i_Law_100 : opAt m_Law 100 = sPush (.int (Int8.ofInt 16).toInt32) 102 := (opAt_of (M := m_Law) (i := .bipush 16) (n := 2) ((TL_Law_0 100).trans (lk_head rfl))).trans rfl
theorem i_Law_102 : opAt m_Law 102 = sIal 103 := (opAt_of (M := m_Law) (i := .iaload) (n := 1) ((TL_Law_0 102).trans (lk_head rfl))).trans rfl
theorem i_Law_103 : opAt m_Law 103 = sCm .ge 218 106 := (opAt_of (M := m_Law) (i := .if_icmp .ge 115) (n := 3) ((TL_Law_0 103).trans (lk_head rfl))).trans rfl
theorem i_Law_106 : opAt m_Law 106 = sPush (.int (Int32.ofInt 0)) 107 := (opAt_of (M := m_Law) (i := .iconst 0) (n := 1) ((TL_Law_0 106).trans (lk_head rfl))).trans rfl
theorem i_Law_107 : opAt m_Law 107 = sIst 7 109 := (opAt_of (M := m_Law) (i := .istore 7) (n := 2) ((TL_Law_0 107).trans (lk_head rfl))).trans rfl
theorem i_Law_109 : opAt m_Law 109 = sIld 7 111 := (opAt_of (M := m_Law) (i := .iload 7) (n := 2) ((TL_Law_1 109 (by omega)).trans (lk_head rfl))).trans rfl
theorem i_Law_111 : opAt m_Law 111 = sPush (.int (Int32.ofInt 5)) 112 := (opAt_of (M := m_Law) (i := .iconst 5) (n := 1) ((TL_Law_1 111 (by omega)).trans (lk_head rfl))).trans rfl
theorem i_Law_112 : opAt m_Law 112 = sCm .ge 212 115 := (opAt_of (M := m_Law) (i := .if_icmp .ge 100) (n := 3) ((TL_Law_1 112 (by omega)).trans (lk_head rfl))).trans rfl
theorem i_Law_115 : opAt m_Law 115 = sIld 7 117 := (opAt_of (M := m_Law) (i := .iload 7) (n := 2) ((TL_Law_1 115 (by omega)).trans (lk_head rfl))).trans rfl
theorem i_Law_117 : opAt m_Law 117 = sIf .eq 147 120 := (opAt_of (M := m_Law) (i := .ifCond .eq 30) (n := 3) ((TL_Law_1 117 (by omega)).trans (lk_head rfl))).trans rfl
theorem i_Law_120 : opAt m_Law 120 = sIld 7 122 := (opAt_of (M := m_Law) (i := .iload 7) (n := 2) ((TL_Law_1 120 (by omega)).trans (lk_head rfl))).trans rfl
theorem i_Law_122 : opAt m_Law 122 = sAld 2 123 := (opAt_of (M := m_Law) (i := .aload_n 2) (n := 1) ((TL_Law_1 122 (by omega)).trans (lk_head rfl))).trans rfl
theorem i_Law_123 : opAt m_Law 123 = sPush (.int (Int32.ofInt 4)) 124 := (opAt_of (M := m_Law) (i := .iconst 4) (n := 1) ((TL_Law_1 123 (by omega)).trans (lk_head rfl))).trans rfl
theorem i_Law_124 : opAt m_Law 124 = sIld 6 126 := (opAt_of (M := m_Law) (i := .iload 6) (n := 2) ((TL_Law_1 124 (by omega)).trans (lk_head rfl))).trans rfl
theorem i_Law_126 : opAt m_Law 126 = sBI (fun x y => x * y) 127 := (opAt_of (M := m_Law) (i := .imul) (n := 1) ((TL_Law_1 126 (by omega)).trans (lk_head rfl))).trans rfl
theorem i_Law_127 : opAt m_Law 127 = sIal 128 := (opAt_of (M := m_Law) (i := .iaload) (n := 1) ((TL_Law_1 127 (by omega)).trans (lk_head rfl))).trans rfl
theorem i_Law_128 : opAt m_Law 128 = sCm .eq 147 131 := (opAt_of (M := m_Law) (i := .if_icmp .eq 19) (n := 3) ((TL_Law_1 128 (by omega)).trans (lk_head rfl))).trans rfl
theorem i_Law_131 : opAt m_Law 131 = sIld 7 133 := (opAt_of (M := m_Law) (i := .iload 7) (n := 2) ((TL_Law_1 131 (by omega)).trans (lk_head rfl))).trans rfl
theorem i_Law_133 : opAt m_Law 133 = sPush (.int (Int32.ofInt 2)) 134 := (opAt_of (M := m_Law) (i := .iconst 2) (n := 1) ((TL_Law_1 133 (by omega)).trans (lk_head rfl))).trans rfl
theorem i_Law_134 : opAt m_Law 134 = sCm .ne 151 137 := (opAt_of (M := m_Law) (i := .if_icmp .ne 17) (n := 3) ((TL_Law_1 134 (by omega)).trans (lk_head rfl))).trans rfl
theorem i_Law_137 : opAt m_Law 137 = sAld 2 138 := (opAt_of (M := m_Law) (i := .aload_n 2) (n := 1) ((TL_Law_1 137 (by omega)).trans (lk_head rfl))).trans rfl
theorem i_Law_138 : opAt m_Law 138 = sPush (.int (Int32.ofInt 4)) 139 := (opAt_of (M := m_Law) (i := .iconst 4) (n := 1) ((TL_Law_1 138 (by omega)).trans (lk_head rfl))).trans rfl
theorem i_Law_139 : opAt m_Law 139 = sIld 6 141 := (opAt_of (M := m_Law) (i := .iload 6) (n := 2) ((TL_Law_1 139 (by omega)).trans (lk_head rfl))).trans rfl
theorem i_Law_141 : opAt m_Law 141 = sBI (fun x y => x * y) 142 := (opAt_of (M := m_Law) (i := .imul) (n := 1) ((TL_Law_1 141 (by omega)).trans (lk_head rfl))).trans rfl
theorem i_Law_142 : opAt m_Law 142 = sIal 143 := (opAt_of (M := m_Law) (i := .iaload) (n := 1) ((TL_Law_1 142 (by omega)).trans (lk_head rfl))).trans rfl
theorem i_Law_143 : opAt m_Law 143 = sPush (.int (Int32.ofInt 3)) 144 := (opAt_of (M := m_Law) (i := .iconst 3) (n := 1) ((TL_Law_1 143 (by omega)).trans (lk_head rfl))).trans rfl
theorem i_Law_144 : opAt m_Law 144 = sCm .ne 151 147 := (opAt_of (M := m_Law) (i := .if_icmp .ne 7) (n := 3) ((TL_Law_1 144 (by omega)).trans (lk_head rfl))).trans rfl
theorem i_Law_147 : opAt m_Law 147 = sPush (.int (Int32.ofInt 1)) 148 := (opAt_of (M := m_Law) (i := .iconst 1) (n := 1) ((TL_Law_1 147 (by omega)).trans (lk_head rfl))).trans rfl
theorem i_Law_148 : opAt m_Law 148 = sGo 152 := (opAt_of (M := m_Law) (i := .goto 4) (n := 3) ((TL_Law_1 148 (by omega)).trans (lk_head rfl))).trans rfl
theorem i_Law_151 : opAt m_Law 151 = sPush (.int (Int32.ofInt 0)) 152 := (opAt_of (M := m_Law) (i := .iconst 0) (n := 1) ((TL_Law_1 151 (by omega)).trans (lk_head rfl))).trans rfl
theorem i_Law_152 : opAt m_Law 152 = sIst 8 154 := (opAt_of (M := m_Law) (i := .istore 8) (n := 2) ((TL_Law_1 152 (by omega)).trans (lk_head rfl))).trans rfl
theorem i_Law_154 : opAt m_Law 154 = sAld 1 155 := (opAt_of (M := m_Law) (i := .aload_n 1) (n := 1) ((TL_Law_1 154 (by omega)).trans (lk_head rfl))).trans rfl
theorem i_Law_155 : opAt m_Law 155 = sPush (.int (Int32.ofInt 0)) 156 := (opAt_of (M := m_Law) (i := .iconst 0) (n := 1) ((TL_Law_1 155 (by omega)).trans (lk_head rfl))).trans rfl
theorem i_Law_156 : opAt m_Law 156 = sIld 6 158 := (opAt_of (M := m_Law) (i := .iload 6) (n := 2) ((TL_Law_1 156 (by omega)).trans (lk_head rfl))).trans rfl
theorem i_Law_158 : opAt m_Law 158 = sIld 7 160 := (opAt_of (M := m_Law) (i := .iload 7) (n := 2) ((TL_Law_1 158 (by omega)).trans (lk_head rfl))).trans rfl
theorem i_Law_160 : opAt m_Law 160 = sVir [(10, m_Fi_as)] 0 3 163 := (opAt_of (M := m_Law) (i := .invokevirtual 62) (n := 3) ((TL_Law_1 160 (by omega)).trans (lk_head rfl))).trans rfl
theorem i_Law_163 : opAt m_Law 163 = sIld 8 165 := (opAt_of (M := m_Law) (i := .iload 8) (n := 2) ((TL_Law_1 163 (by omega)).trans (lk_head rfl))).trans rfl
theorem i_Law_165 : opAt m_Law 165 = sIf .eq 173 168 := (opAt_of (M := m_Law) (i := .ifCond .eq 8) (n := 3) ((TL_Law_1 165 (by omega)).trans (lk_head rfl))).trans rfl
theorem i_Law_168 : opAt m_Law 168 = sIld 6 170 := (opAt_of (M := m_Law) (i := .iload 6) (n := 2) ((TL_Law_1 168 (by omega)).trans (lk_head rfl))).trans rfl
theorem i_Law_170 : opAt m_Law 170 = sGo 174 := (opAt_of (M := m_Law) (i := .goto 4) (n := 3) ((TL_Law_1 170 (by omega)).trans (lk_head rfl))).trans rfl
theorem i_Law_173 : opAt m_Law 173 = sPush (.int (Int32.ofInt (-1))) 174 := (opAt_of (M := m_Law) (i := .iconst (-1)) (n := 1) ((TL_Law_1 173 (by omega)).trans (lk_head rfl))).trans rfl
theorem i_Law_174 : opAt m_Law 174 = sCm .ne 204 177 := (opAt_of (M := m_Law) (i := .if_icmp .ne 30) (n := 3) ((TL_Law_1 174 (by omega)).trans (lk_head rfl))).trans rfl
theorem i_Law_177 : opAt m_Law 177 = sIld 7 179 := (opAt_of (M := m_Law) (i := .iload 7) (n := 2) ((TL_Law_1 177 (by omega)).trans (lk_head rfl))).trans rfl
theorem i_Law_179 : opAt m_Law 179 = sPush (.int (Int32.ofInt 4)) 180 := (opAt_of (M := m_Law) (i := .iconst 4) (n := 1) ((TL_Law_1 179 (by omega)).trans (lk_head rfl))).trans rfl
theorem i_Law_180 : opAt m_Law 180 = sCm .ge 206 183 := (opAt_of (M := m_Law) (i := .if_icmp .ge 26) (n := 3) ((TL_Law_1 180 (by omega)).trans (lk_head rfl))).trans rfl
theorem i_Law_183 : opAt m_Law 183 = sAld 1 184 := (opAt_of (M := m_Law) (i := .aload_n 1) (n := 1) ((TL_Law_1 183 (by omega)).trans (lk_head rfl))).trans rfl
theorem i_Law_184 : opAt m_Law 184 = sPush (.int (Int32.ofInt 0)) 185 := (opAt_of (M := m_Law) (i := .iconst 0) (n := 1) ((TL_Law_1 184 (by omega)).trans (lk_head rfl))).trans rfl
theorem i_Law_185 : opAt m_Law 185 = sIld 6 187 := (opAt_of (M := m_Law) (i := .iload 6) (n := 2) ((TL_Law_1 185 (by omega)).trans (lk_head rfl))).trans rfl
theorem i_Law_187 : opAt m_Law 187 = sIld 7 189 := (opAt_of (M := m_Law) (i := .iload 7) (n := 2) ((TL_Law_1 187 (by omega)).trans (lk_head rfl))).trans rfl
theorem i_Law_189 : opAt m_Law 189 = sVir [(10, m_Fi_part)] 0 3 192 := (opAt_of (M := m_Law) (i := .invokevirtual 65) (n := 3) ((TL_Law_1 189 (by omega)).trans (lk_head rfl))).trans rfl
theorem i_Law_192 : opAt m_Law 192 = sAld 2 193 := (opAt_of (M := m_Law) (i := .aload_n 2) (n := 1) ((TL_Law_1 192 (by omega)).trans (lk_head rfl))).trans rfl
theorem i_Law_193 : opAt m_Law 193 = sPush (.int (Int32.ofInt 4)) 194 := (opAt_of (M := m_Law) (i := .iconst 4) (n := 1) ((TL_Law_1 193 (by omega)).trans (lk_head rfl))).trans rfl
theorem i_Law_194 : opAt m_Law 194 = sIld 6 196 := (opAt_of (M := m_Law) (i := .iload 6) (n := 2) ((TL_Law_1 194 (by omega)).trans (lk_head rfl))).trans rfl
theorem i_Law_196 : opAt m_Law 196 = sBI (fun x y => x * y) 197 := (opAt_of (M := m_Law) (i := .imul) (n := 1) ((TL_Law_1 196 (by omega)).trans (lk_head rfl))).trans rfl
theorem i_Law_197 : opAt m_Law 197 = sIld 7 199 := (opAt_of (M := m_Law) (i := .iload 7) (n := 2) ((TL_Law_1 197 (by omega)).trans (lk_head rfl))).trans rfl
theorem i_Law_199 : opAt m_Law 199 = sBI (fun x y => x + y) 200 := (opAt_of (M := m_Law) (i := .iadd) (n := 1) ((TL_Law_1 199 (by omega)).trans (lk_head rfl))).trans rfl
theorem i_Law_200 : opAt m_Law 200 = sIal 201 := (opAt_of (M := m_Law) (i := .iaload) (n := 1) ((TL_Law_1 200 (by omega)).trans (lk_head rfl))).trans rfl
theorem i_Law_201 : opAt m_Law 201 = sCm .eq 206 204 := (opAt_of (M := m_Law) (i := .if_icmp .eq 5) (n := 3) ((TL_Law_1 201 (by omega)).trans (lk_head rfl))).trans rfl
theorem i_Law_204 : opAt m_Law 204 = sPush (.int (Int32.ofInt 0)) 205 := (opAt_of (M := m_Law) (i := .iconst 0) (n := 1) ((TL_Law_1 204 (by omega)).trans (lk_head rfl))).trans rfl
theorem i_Law_205 : opAt m_Law 205 = sIret .boolean := (opAt_of (M := m_Law) (i := .ireturn) (n := 1) ((TL_Law_1 205 (by omega)).trans (lk_head rfl))).trans rfl
theorem i_Law_206 : opAt m_Law 206 = sInc 7 1 209 := (opAt_of (M := m_Law) (i := .iinc 7 1) (n := 3) ((TL_Law_1 206 (by omega)).trans (lk_head rfl))).trans rfl
theorem i_Law_209 : opAt m_Law 209 = sGo 109 := (opAt_of (M := m_Law) (i := .goto (-100)) (n := 3) ((TL_Law_1 209 (by omega)).trans (lk_head rfl))).trans rfl
theorem i_Law_212 : opAt m_Law 212 = sInc 6 1 215 := (opAt_of (M := m_Law) (i := .iinc 6 1) (n := 3) ((TL_Law_1 212 (by omega)).trans (lk_head rfl))).trans rfl
theorem i_Law_215 : opAt m_Law 215 = sGo 97 := (opAt_of (M := m_Law) (i := .goto (-118)) (n := 3) ((TL_Law_1 215 (by omega)).trans (lk_head rfl))).trans rfl
theorem i_Law_218 : opAt m_Law 218 = sPush (.int (Int8.ofInt 49).toInt32) 220 := (opAt_of (M := m_Law) (i := .bipush 49) (n := 2) ((TL_Law_1 218 (by omega)).trans (lk_head rfl))).trans rfl
theorem i_Law_220 : opAt m_Law 220 = sNar 0 zI 222 := (opAt_of (M := m_Law) (i := .newarray .int) (n := 2) ((TL_Law_2 220 (by omega)).trans (lk_head rfl))).trans rfl
theorem i_Law_222 : opAt m_Law 222 = sAst 6 224 := (opAt_of (M := m_Law) (i := .astore 6) (n := 2) ((TL_Law_2 222 (by omega)).trans (lk_head rfl))).trans rfl
theorem i_Law_224 : opAt m_Law 224 = sPush (.int (Int8.ofInt 49).toInt32) 226 := (opAt_of (M := m_Law) (i := .bipush 49) (n := 2) ((TL_Law_2 224 (by omega)).trans (lk_head rfl))).trans rfl
theorem i_Law_226 : opAt m_Law 226 = sNar 0 zI 228 := (opAt_of (M := m_Law) (i := .newarray .int) (n := 2) ((TL_Law_2 226 (by omega)).trans (lk_head rfl))).trans rfl
theorem i_Law_228 : opAt m_Law 228 = sAst 7 230 := (opAt_of (M := m_Law) (i := .astore 7) (n := 2) ((TL_Law_2 228 (by omega)).trans (lk_head rfl))).trans rfl
theorem i_Law_230 : opAt m_Law 230 = sAld 7 232 := (opAt_of (M := m_Law) (i := .aload 7) (n := 2) ((TL_Law_2 230 (by omega)).trans (lk_head rfl))).trans rfl
theorem i_Law_232 : opAt m_Law 232 = sPush (.int (Int8.ofInt 48).toInt32) 234 := (opAt_of (M := m_Law) (i := .bipush 48) (n := 2) ((TL_Law_2 232 (by omega)).trans (lk_head rfl))).trans rfl
theorem i_Law_234 : opAt m_Law 234 = sPush (.int (Int32.ofInt 0)) 235 := (opAt_of (M := m_Law) (i := .iconst 0) (n := 1) ((TL_Law_2 234 (by omega)).trans (lk_head rfl))).trans rfl
theorem i_Law_235 : opAt m_Law 235 = sIas 236 := (opAt_of (M := m_Law) (i := .iastore) (n := 1) ((TL_Law_2 235 (by omega)).trans (lk_head rfl))).trans rfl
theorem i_Law_236 : opAt m_Law 236 = sAld 1 237 := (opAt_of (M := m_Law) (i := .aload_n 1) (n := 1) ((TL_Law_2 236 (by omega)).trans (lk_head rfl))).trans rfl
theorem i_Law_237 : opAt m_Law 237 = sAld 6 239 := (opAt_of (M := m_Law) (i := .aload 6) (n := 2) ((TL_Law_2 237 (by omega)).trans (lk_head rfl))).trans rfl
theorem i_Law_239 : opAt m_Law 239 = sPush (.int (Int32.ofInt 1)) 240 := (opAt_of (M := m_Law) (i := .iconst 1) (n := 1) ((TL_Law_2 239 (by omega)).trans (lk_head rfl))).trans rfl
theorem i_Law_240 : opAt m_Law 240 = sAld 0 241 := (opAt_of (M := m_Law) (i := .aload_n 0) (n := 1) ((TL_Law_2 240 (by omega)).trans (lk_head rfl))).trans rfl
theorem i_Law_241 : opAt m_Law 241 = sPush (.int (Int8.ofInt 8).toInt32) 243 := (opAt_of (M := m_Law) (i := .bipush 8) (n := 2) ((TL_Law_2 241 (by omega)).trans (lk_head rfl))).trans rfl
theorem i_Law_243 : opAt m_Law 243 = sSta m_Law_cell 0 2 246 := (opAt_of (M := m_Law) (i := .invokestatic 8) (n := 3) ((TL_Law_2 243 (by omega)).trans (lk_head rfl))).trans rfl
theorem i_Law_246 : opAt m_Law 246 = sPush (.int (Int8.ofInt 48).toInt32) 248 := (opAt_of (M := m_Law) (i := .bipush 48) (n := 2) ((TL_Law_2 246 (by omega)).trans (lk_head rfl))).trans rfl
theorem i_Law_248 : opAt m_Law 248 = sSta m_Law_at 0 2 251 := (opAt_of (M := m_Law) (i := .invokestatic 14) (n := 3) ((TL_Law_2 248 (by omega)).trans (lk_head rfl))).trans rfl
theorem i_Law_251 : opAt m_Law 251 = sBI (fun x y => x + y) 252 := (opAt_of (M := m_Law) (i := .iadd) (n := 1) ((TL_Law_2 251 (by omega)).trans (lk_head rfl))).trans rfl
theorem i_Law_252 : opAt m_Law 252 = sSta m_Law_start 0 2 255 := (opAt_of (M := m_Law) (i := .invokestatic 68) (n := 3) ((TL_Law_2 252 (by omega)).trans (lk_head rfl))).trans rfl
theorem i_Law_255 : opAt m_Law 255 = sVir [(10, m_Fi_print)] 0 1 258 := (opAt_of (M := m_Law) (i := .invokevirtual 71) (n := 3) ((TL_Law_2 255 (by omega)).trans (lk_head rfl))).trans rfl
theorem i_Law_258 : opAt m_Law 258 = sIf .eq 263 261 := (opAt_of (M := m_Law) (i := .ifCond .eq 5) (n := 3) ((TL_Law_2 258 (by omega)).trans (lk_head rfl))).trans rfl
theorem i_Law_261 : opAt m_Law 261 = sPush (.int (Int32.ofInt 0)) 262 := (opAt_of (M := m_Law) (i := .iconst 0) (n := 1) ((TL_Law_2 261 (by omega)).trans (lk_head rfl))).trans rfl
theorem i_Law_262 : opAt m_Law 262 = sIret .boolean := (opAt_of (M := m_Law) (i := .ireturn) (n := 1) ((TL_Law_2 262 (by omega)).trans (lk_head rfl))).trans rfl
theorem i_Law_263 : opAt m_Law 263 = sPush (.int (Int32.ofInt 0)) 264 := (opAt_of (M := m_Law) (i := .iconst 0) (n := 1) ((TL_Law_2 263 (by omega)).trans (lk_head rfl))).trans rfl
theorem i_Law_264 : opAt m_Law 264 = sIst 8 266 := (opAt_of (M := m_Law) (i := .istore 8) (n := 2) ((TL_Law_2 264 (by omega)).trans (lk_head rfl))).trans rfl
theorem i_Law_266 : opAt m_Law 266 = sIld 8 268 := (opAt_of (M := m_Law) (i := .iload 8) (n := 2) ((TL_Law_2 266 (by omega)).trans (lk_head rfl))).trans rfl
theorem i_Law_268 : opAt m_Law 268 = sPush (.int (Int8.ofInt 7).toInt32) 270 := (opAt_of (M := m_Law) (i := .bipush 7) (n := 2) ((TL_Law_2 268 (by omega)).trans (lk_head rfl))).trans rfl
theorem i_Law_270 : opAt m_Law 270 = sCm .ge 694 273 := (opAt_of (M := m_Law) (i := .if_icmp .ge 424) (n := 3) ((TL_Law_2 270 (by omega)).trans (lk_head rfl))).trans rfl
theorem i_Law_273 : opAt m_Law 273 = sAld 0 274 := (opAt_of (M := m_Law) (i := .aload_n 0) (n := 1) ((TL_Law_2 273 (by omega)).trans (lk_head rfl))).trans rfl
theorem i_Law_274 : opAt m_Law 274 = sPush (.int (Int8.ofInt 9).toInt32) 276 := (opAt_of (M := m_Law) (i := .bipush 9) (n := 2) ((TL_Law_2 274 (by omega)).trans (lk_head rfl))).trans rfl
theorem i_Law_276 : opAt m_Law 276 = sIld 8 278 := (opAt_of (M := m_Law) (i := .iload 8) (n := 2) ((TL_Law_2 276 (by omega)).trans (lk_head rfl))).trans rfl
theorem i_Law_278 : opAt m_Law 278 = sBI (fun x y => x + y) 279 := (opAt_of (M := m_Law) (i := .iadd) (n := 1) ((TL_Law_2 278 (by omega)).trans (lk_head rfl))).trans rfl
theorem i_Law_279 : opAt m_Law 279 = sSta m_Law_cell 0 2 282 := (opAt_of (M := m_Law) (i := .invokestatic 8) (n := 3) ((TL_Law_2 279 (by omega)).trans (lk_head rfl))).trans rfl
theorem i_Law_282 : opAt m_Law 282 = sIst 9 284 := (opAt_of (M := m_Law) (i := .istore 9) (n := 2) ((TL_Law_2 282 (by omega)).trans (lk_head rfl))).trans rfl
theorem i_Law_284 : opAt m_Law 284 = sIld 9 286 := (opAt_of (M := m_Law) (i := .iload 9) (n := 2) ((TL_Law_2 284 (by omega)).trans (lk_head rfl))).trans rfl
theorem i_Law_286 : opAt m_Law 286 = sPush (.int (Int32.ofInt 3)) 287 := (opAt_of (M := m_Law) (i := .iconst 3) (n := 1) ((TL_Law_2 286 (by omega)).trans (lk_head rfl))).trans rfl
theorem i_Law_287 : opAt m_Law 287 = sBI (fun x y => x >>> (y &&& 31)) 288 := (opAt_of (M := m_Law) (i := .ishr) (n := 1) ((TL_Law_2 287 (by omega)).trans (lk_head rfl))).trans rfl
theorem i_Law_288 : opAt m_Law 288 = sAld 6 290 := (opAt_of (M := m_Law) (i := .aload 6) (n := 2) ((TL_Law_2 288 (by omega)).trans (lk_head rfl))).trans rfl
theorem i_Law_290 : opAt m_Law 290 = sPush (.int (Int8.ofInt 48).toInt32) 292 := (opAt_of (M := m_Law) (i := .bipush 48) (n := 2) ((TL_Law_2 290 (by omega)).trans (lk_head rfl))).trans rfl
theorem i_Law_292 : opAt m_Law 292 = sIal 293 := (opAt_of (M := m_Law) (i := .iaload) (n := 1) ((TL_Law_2 292 (by omega)).trans (lk_head rfl))).trans rfl
theorem i_Law_293 : opAt m_Law 293 = sSta m_Law_at 0 2 296 := (opAt_of (M := m_Law) (i := .invokestatic 14) (n := 3) ((TL_Law_2 293 (by omega)).trans (lk_head rfl))).trans rfl
theorem i_Law_296 : opAt m_Law 296 = sIst 10 298 := (opAt_of (M := m_Law) (i := .istore 10) (n := 2) ((TL_Law_2 296 (by omega)).trans (lk_head rfl))).trans rfl
theorem i_Law_298 : opAt m_Law 298 = sIld 10 300 := (opAt_of (M := m_Law) (i := .iload 10) (n := 2) ((TL_Law_2 298 (by omega)).trans (lk_head rfl))).trans rfl
theorem i_Law_300 : opAt m_Law 300 = sIld 9 302 := (opAt_of (M := m_Law) (i := .iload 9) (n := 2) ((TL_Law_2 300 (by omega)).trans (lk_head rfl))).trans rfl
theorem i_Law_302 : opAt m_Law 302 = sPush (.int (Int8.ofInt 9).toInt32) 304 := (opAt_of (M := m_Law) (i := .bipush 9) (n := 2) ((TL_Law_2 302 (by omega)).trans (lk_head rfl))).trans rfl
theorem i_Law_304 : opAt m_Law 304 = sBI (fun x y => x >>> (y &&& 31)) 305 := (opAt_of (M := m_Law) (i := .ishr) (n := 1) ((TL_Law_2 304 (by omega)).trans (lk_head rfl))).trans rfl
theorem i_Law_305 : opAt m_Law 305 = sPush (.int (Int32.ofInt 5)) 306 := (opAt_of (M := m_Law) (i := .iconst 5) (n := 1) ((TL_Law_2 305 (by omega)).trans (lk_head rfl))).trans rfl
theorem i_Law_306 : opAt m_Law 306 = sSta m_Law_at 0 2 309 := (opAt_of (M := m_Law) (i := .invokestatic 14) (n := 3) ((TL_Law_2 306 (by omega)).trans (lk_head rfl))).trans rfl
theorem i_Law_309 : opAt m_Law 309 = sBI (fun x y => x + y) 310 := (opAt_of (M := m_Law) (i := .iadd) (n := 1) ((TL_Law_2 309 (by omega)).trans (lk_head rfl))).trans rfl
theorem i_Law_310 : opAt m_Law 310 = sIst 11 312 := (opAt_of (M := m_Law) (i := .istore 11) (n := 2) ((TL_Law_2 310 (by omega)).trans (lk_head rfl))).trans rfl
theorem i_Law_312 : opAt m_Law 312 = sIld 9 314 := (opAt_of (M := m_Law) (i := .iload 9) (n := 2) ((TL_Law_2 312 (by omega)).trans (lk_head rfl))).trans rfl
theorem i_Law_314 : opAt m_Law 314 = sPush (.int (Int8.ofInt 6).toInt32) 316 := (opAt_of (M := m_Law) (i := .bipush 6) (n := 2) ((TL_Law_2 314 (by omega)).trans (lk_head rfl))).trans rfl
theorem i_Law_316 : opAt m_Law 316 = sSta m_Law_at 0 2 319 := (opAt_of (M := m_Law) (i := .invokestatic 14) (n := 3) ((TL_Law_2 316 (by omega)).trans (lk_head rfl))).trans rfl
theorem i_Law_319 : opAt m_Law 319 = sSw [(0, 352), (1, 352), (2, 352), (3, 420), (4, 489)] 518 := (opAt_of (M := m_Law) (i := .tableswitch 199 0 4 #[33, 33, 33, 101, 170]) (n := 33) ((TL_Law_2 319 (by omega)).trans (lk_head rfl))).trans rfl
theorem i_Law_352 : opAt m_Law 352 = sIld 9 354 := (opAt_of (M := m_Law) (i := .iload 9) (n := 2) ((TL_Law_2 352 (by omega)).trans (lk_head rfl))).trans rfl
theorem i_Law_354 : opAt m_Law 354 = sPush (.int (Int8.ofInt 12).toInt32) 356 := (opAt_of (M := m_Law) (i := .bipush 12) (n := 2) ((TL_Law_2 354 (by omega)).trans (lk_head rfl))).trans rfl
theorem i_Law_356 : opAt m_Law 356 = sBI (fun x y => x >>> (y &&& 31)) 357 := (opAt_of (M := m_Law) (i := .ishr) (n := 1) ((TL_Law_2 356 (by omega)).trans (lk_head rfl))).trans rfl
theorem i_Law_357 : opAt m_Law 357 = sPush (.int (Int32.ofInt 3)) 358 := (opAt_of (M := m_Law) (i := .iconst 3) (n := 1) ((TL_Law_2 357 (by omega)).trans (lk_head rfl))).trans rfl
theorem i_Law_358 : opAt m_Law 358 = sSta m_Law_at 0 2 361 := (opAt_of (M := m_Law) (i := .invokestatic 14) (n := 3) ((TL_Law_2 358 (by omega)).trans (lk_head rfl))).trans rfl
theorem i_Law_361 : opAt m_Law 361 = sIf .ne 368 364 := (opAt_of (M := m_Law) (i := .ifCond .ne 7) (n := 3) ((TL_Law_2 361 (by omega)).trans (lk_head rfl))).trans rfl
theorem i_Law_364 : opAt m_Law 364 = sPush (.int (Int32.ofInt 1)) 365 := (opAt_of (M := m_Law) (i := .iconst 1) (n := 1) ((TL_Law_3 364 (by omega)).trans (lk_head rfl))).trans rfl
theorem i_Law_365 : opAt m_Law 365 = sGo 369 := (opAt_of (M := m_Law) (i := .goto 4) (n := 3) ((TL_Law_3 365 (by omega)).trans (lk_head rfl))).trans rfl
theorem i_Law_368 : opAt m_Law 368 = sPush (.int (Int32.ofInt 0)) 369 := (opAt_of (M := m_Law) (i := .iconst 0) (n := 1) ((TL_Law_3 368 (by omega)).trans (lk_head rfl))).trans rfl
theorem i_Law_369 : opAt m_Law 369 = sIst 12 371 := (opAt_of (M := m_Law) (i := .istore 12) (n := 2) ((TL_Law_3 369 (by omega)).trans (lk_head rfl))).trans rfl
theorem i_Law_371 : opAt m_Law 371 = sIld 9 373 := (opAt_of (M := m_Law) (i := .iload 9) (n := 2) ((TL_Law_3 371 (by omega)).trans (lk_head rfl))).trans rfl
theorem i_Law_373 : opAt m_Law 373 = sPush (.int (Int8.ofInt 14).toInt32) 375 := (opAt_of (M := m_Law) (i := .bipush 14) (n := 2) ((TL_Law_3 373 (by omega)).trans (lk_head rfl))).trans rfl
theorem i_Law_375 : opAt m_Law 375 = sBI (fun x y => x >>> (y &&& 31)) 376 := (opAt_of (M := m_Law) (i := .ishr) (n := 1) ((TL_Law_3 375 (by omega)).trans (lk_head rfl))).trans rfl
theorem i_Law_376 : opAt m_Law 376 = sPush (.int (Int32.ofInt 2)) 377 := (opAt_of (M := m_Law) (i := .iconst 2) (n := 1) ((TL_Law_3 376 (by omega)).trans (lk_head rfl))).trans rfl
theorem i_Law_377 : opAt m_Law 377 = sSta m_Law_at 0 2 380 := (opAt_of (M := m_Law) (i := .invokestatic 14) (n := 3) ((TL_Law_3 377 (by omega)).trans (lk_head rfl))).trans rfl
theorem i_Law_380 : opAt m_Law 380 = sIf .ne 387 383 := (opAt_of (M := m_Law) (i := .ifCond .ne 7) (n := 3) ((TL_Law_3 380 (by omega)).trans (lk_head rfl))).trans rfl
theorem i_Law_383 : opAt m_Law 383 = sAld 2 384 := (opAt_of (M := m_Law) (i := .aload_n 2) (n := 1) ((TL_Law_3 383 (by omega)).trans (lk_head rfl))).trans rfl
theorem i_Law_384 : opAt m_Law 384 = sGo 388 := (opAt_of (M := m_Law) (i := .goto 4) (n := 3) ((TL_Law_3 384 (by omega)).trans (lk_head rfl))).trans rfl
theorem i_Law_387 : opAt m_Law 387 = sAld 3 388 := (opAt_of (M := m_Law) (i := .aload_n 3) (n := 1) ((TL_Law_3 387 (by omega)).trans (lk_head rfl))).trans rfl
theorem i_Law_388 : opAt m_Law 388 = sAst 13 390 := (opAt_of (M := m_Law) (i := .astore 13) (n := 2) ((TL_Law_3 388 (by omega)).trans (lk_head rfl))).trans rfl
theorem i_Law_390 : opAt m_Law 390 = sAld 1 391 := (opAt_of (M := m_Law) (i := .aload_n 1) (n := 1) ((TL_Law_3 390 (by omega)).trans (lk_head rfl))).trans rfl
theorem i_Law_391 : opAt m_Law 391 = sPush (.int (Int32.ofInt 0)) 392 := (opAt_of (M := m_Law) (i := .iconst 0) (n := 1) ((TL_Law_3 391 (by omega)).trans (lk_head rfl))).trans rfl
theorem i_Law_392 : opAt m_Law 392 = sIld 9 394 := (opAt_of (M := m_Law) (i := .iload 9) (n := 2) ((TL_Law_3 392 (by omega)).trans (lk_head rfl))).trans rfl
theorem i_Law_394 : opAt m_Law 394 = sPush (.int (Int8.ofInt 14).toInt32) 396 := (opAt_of (M := m_Law) (i := .bipush 14) (n := 2) ((TL_Law_3 394 (by omega)).trans (lk_head rfl))).trans rfl
theorem i_Law_396 : opAt m_Law 396 = sBI (fun x y => x >>> (y &&& 31)) 397 := (opAt_of (M := m_Law) (i := .ishr) (n := 1) ((TL_Law_3 396 (by omega)).trans (lk_head rfl))).trans rfl
theorem i_Law_397 : opAt m_Law 397 = sPush (.int (Int32.ofInt 2)) 398 := (opAt_of (M := m_Law) (i := .iconst 2) (n := 1) ((TL_Law_3 397 (by omega)).trans (lk_head rfl))).trans rfl
theorem i_Law_398 : opAt m_Law 398 = sSta m_Law_at 0 2 401 := (opAt_of (M := m_Law) (i := .invokestatic 14) (n := 3) ((TL_Law_3 398 (by omega)).trans (lk_head rfl))).trans rfl
theorem i_Law_401 : opAt m_Law 401 = sIld 12 403 := (opAt_of (M := m_Law) (i := .iload 12) (n := 2) ((TL_Law_3 401 (by omega)).trans (lk_head rfl))).trans rfl
theorem i_Law_403 : opAt m_Law 403 = sVir [(10, m_Fi_run)] 0 3 406 := (opAt_of (M := m_Law) (i := .invokevirtual 74) (n := 3) ((TL_Law_3 403 (by omega)).trans (lk_head rfl))).trans rfl
theorem i_Law_406 : opAt m_Law 406 = sAld 6 408 := (opAt_of (M := m_Law) (i := .aload 6) (n := 2) ((TL_Law_3 406 (by omega)).trans (lk_head rfl))).trans rfl
theorem i_Law_408 : opAt m_Law 408 = sAld 13 410 := (opAt_of (M := m_Law) (i := .aload 13) (n := 2) ((TL_Law_3 408 (by omega)).trans (lk_head rfl))).trans rfl
theorem i_Law_410 : opAt m_Law 410 = sIld 12 412 := (opAt_of (M := m_Law) (i := .iload 12) (n := 2) ((TL_Law_3 410 (by omega)).trans (lk_head rfl))).trans rfl
theorem i_Law_412 : opAt m_Law 412 = sSta m_Law_run 0 3 415 := (opAt_of (M := m_Law) (i := .invokestatic 78) (n := 3) ((TL_Law_3 412 (by omega)).trans (lk_head rfl))).trans rfl
theorem i_Law_415 : opAt m_Law 415 = sCm .eq 658 418 := (opAt_of (M := m_Law) (i := .if_icmp .eq 243) (n := 3) ((TL_Law_3 415 (by omega)).trans (lk_head rfl))).trans rfl
theorem i_Law_418 : opAt m_Law 418 = sPush (.int (Int32.ofInt 0)) 419 := (opAt_of (M := m_Law) (i := .iconst 0) (n := 1) ((TL_Law_3 418 (by omega)).trans (lk_head rfl))).trans rfl
theorem i_Law_419 : opAt m_Law 419 = sIret .boolean := (opAt_of (M := m_Law) (i := .ireturn) (n := 1) ((TL_Law_3 419 (by omega)).trans (lk_head rfl))).trans rfl
theorem i_Law_420 : opAt m_Law 420 = sIld 11 422 := (opAt_of (M := m_Law) (i := .iload 11) (n := 2) ((TL_Law_3 420 (by omega)).trans (lk_head rfl))).trans rfl
theorem i_Law_422 : opAt m_Law 422 = sAld 6 424 := (opAt_of (M := m_Law) (i := .aload 6) (n := 2) ((TL_Law_3 422 (by omega)).trans (lk_head rfl))).trans rfl
theorem i_Law_424 : opAt m_Law 424 = sPush (.int (Int8.ofInt 48).toInt32) 426 := (opAt_of (M := m_Law) (i := .bipush 48) (n := 2) ((TL_Law_3 424 (by omega)).trans (lk_head rfl))).trans rfl
theorem i_Law_426 : opAt m_Law 426 = sIal 427 := (opAt_of (M := m_Law) (i := .iaload) (n := 1) ((TL_Law_3 426 (by omega)).trans (lk_head rfl))).trans rfl
theorem i_Law_427 : opAt m_Law 427 = sCm .ge 445 430 := (opAt_of (M := m_Law) (i := .if_icmp .ge 18) (n := 3) ((TL_Law_3 427 (by omega)).trans (lk_head rfl))).trans rfl
theorem i_Law_430 : opAt m_Law 430 = sIld 11 432 := (opAt_of (M := m_Law) (i := .iload 11) (n := 2) ((TL_Law_3 430 (by omega)).trans (lk_head rfl))).trans rfl
theorem i_Law_432 : opAt m_Law 432 = sIld 10 434 := (opAt_of (M := m_Law) (i := .iload 10) (n := 2) ((TL_Law_3 432 (by omega)).trans (lk_head rfl))).trans rfl
theorem i_Law_434 : opAt m_Law 434 = sBI (fun x y => x - y) 435 := (opAt_of (M := m_Law) (i := .isub) (n := 1) ((TL_Law_3 434 (by omega)).trans (lk_head rfl))).trans rfl
theorem i_Law_435 : opAt m_Law 435 = sPush (.int (Int32.ofInt 1)) 436 := (opAt_of (M := m_Law) (i := .iconst 1) (n := 1) ((TL_Law_3 435 (by omega)).trans (lk_head rfl))).trans rfl
theorem i_Law_436 : opAt m_Law 436 = sBI (fun x y => x + y) 437 := (opAt_of (M := m_Law) (i := .iadd) (n := 1) ((TL_Law_3 436 (by omega)).trans (lk_head rfl))).trans rfl
theorem i_Law_437 : opAt m_Law 437 = sAld 6 439 := (opAt_of (M := m_Law) (i := .aload 6) (n := 2) ((TL_Law_3 437 (by omega)).trans (lk_head rfl))).trans rfl
theorem i_Law_439 : opAt m_Law 439 = sPush (.int (Int8.ofInt 48).toInt32) 441 := (opAt_of (M := m_Law) (i := .bipush 48) (n := 2) ((TL_Law_3 439 (by omega)).trans (lk_head rfl))).trans rfl
theorem i_Law_441 : opAt m_Law 441 = sIal 442 := (opAt_of (M := m_Law) (i := .iaload) (n := 1) ((TL_Law_3 441 (by omega)).trans (lk_head rfl))).trans rfl
theorem i_Law_442 : opAt m_Law 442 = sCm .ne 461 445 := (opAt_of (M := m_Law) (i := .if_icmp .ne 19) (n := 3) ((TL_Law_3 442 (by omega)).trans (lk_head rfl))).trans rfl
theorem i_Law_445 : opAt m_Law 445 = sAld 1 446 := (opAt_of (M := m_Law) (i := .aload_n 1) (n := 1) ((TL_Law_3 445 (by omega)).trans (lk_head rfl))).trans rfl
theorem i_Law_446 : opAt m_Law 446 = sPush (.int (Int32.ofInt 0)) 447 := (opAt_of (M := m_Law) (i := .iconst 0) (n := 1) ((TL_Law_3 446 (by omega)).trans (lk_head rfl))).trans rfl
theorem i_Law_447 : opAt m_Law 447 = sIld 10 449 := (opAt_of (M := m_Law) (i := .iload 10) (n := 2) ((TL_Law_3 447 (by omega)).trans (lk_head rfl))).trans rfl
theorem i_Law_449 : opAt m_Law 449 = sIld 11 451 := (opAt_of (M := m_Law) (i := .iload 11) (n := 2) ((TL_Law_3 449 (by omega)).trans (lk_head rfl))).trans rfl
theorem i_Law_451 : opAt m_Law 451 = sVir [(10, m_Fi_mend)] 0 3 454 := (opAt_of (M := m_Law) (i := .invokevirtual 81) (n := 3) ((TL_Law_3 451 (by omega)).trans (lk_head rfl))).trans rfl
theorem i_Law_454 : opAt m_Law 454 = sPush (.int (Int8.ofInt (-102)).toInt32) 456 := (opAt_of (M := m_Law) (i := .bipush (-102)) (n := 2) ((TL_Law_3 454 (by omega)).trans (lk_head rfl))).trans rfl
theorem i_Law_456 : opAt m_Law 456 = sCm .eq 658 459 := (opAt_of (M := m_Law) (i := .if_icmp .eq 202) (n := 3) ((TL_Law_3 456 (by omega)).trans (lk_head rfl))).trans rfl
theorem i_Law_459 : opAt m_Law 459 = sPush (.int (Int32.ofInt 0)) 460 := (opAt_of (M := m_Law) (i := .iconst 0) (n := 1) ((TL_Law_3 459 (by omega)).trans (lk_head rfl))).trans rfl
theorem i_Law_460 : opAt m_Law 460 = sIret .boolean := (opAt_of (M := m_Law) (i := .ireturn) (n := 1) ((TL_Law_3 460 (by omega)).trans (lk_head rfl))).trans rfl
theorem i_Law_461 : opAt m_Law 461 = sAld 6 463 := (opAt_of (M := m_Law) (i := .aload 6) (n := 2) ((TL_Law_3 461 (by omega)).trans (lk_head rfl))).trans rfl
theorem i_Law_463 : opAt m_Law 463 = sIld 10 465 := (opAt_of (M := m_Law) (i := .iload 10) (n := 2) ((TL_Law_3 463 (by omega)).trans (lk_head rfl))).trans rfl
theorem i_Law_465 : opAt m_Law 465 = sIld 11 467 := (opAt_of (M := m_Law) (i := .iload 11) (n := 2) ((TL_Law_3 465 (by omega)).trans (lk_head rfl))).trans rfl
theorem i_Law_467 : opAt m_Law 467 = sSta m_Law_mend 0 3 470 := (opAt_of (M := m_Law) (i := .invokestatic 84) (n := 3) ((TL_Law_3 467 (by omega)).trans (lk_head rfl))).trans rfl
theorem i_Law_470 : opAt m_Law 470 = sAld 1 471 := (opAt_of (M := m_Law) (i := .aload_n 1) (n := 1) ((TL_Law_3 470 (by omega)).trans (lk_head rfl))).trans rfl
theorem i_Law_471 : opAt m_Law 471 = sPush (.int (Int32.ofInt 0)) 472 := (opAt_of (M := m_Law) (i := .iconst 0) (n := 1) ((TL_Law_3 471 (by omega)).trans (lk_head rfl))).trans rfl
theorem i_Law_472 : opAt m_Law 472 = sIld 10 474 := (opAt_of (M := m_Law) (i := .iload 10) (n := 2) ((TL_Law_3 472 (by omega)).trans (lk_head rfl))).trans rfl
theorem i_Law_474 : opAt m_Law 474 = sIld 11 476 := (opAt_of (M := m_Law) (i := .iload 11) (n := 2) ((TL_Law_4 474 (by omega)).trans (lk_head rfl))).trans rfl
theorem i_Law_476 : opAt m_Law 476 = sVir [(10, m_Fi_mend)] 0 3 479 := (opAt_of (M := m_Law) (i := .invokevirtual 81) (n := 3) ((TL_Law_4 476 (by omega)).trans (lk_head rfl))).trans rfl
theorem i_Law_479 : opAt m_Law 479 = sAld 6 481 := (opAt_of (M := m_Law) (i := .aload 6) (n := 2) ((TL_Law_4 479 (by omega)).trans (lk_head rfl))).trans rfl
theorem i_Law_481 : opAt m_Law 481 = sPush (.int (Int8.ofInt 48).toInt32) 483 := (opAt_of (M := m_Law) (i := .bipush 48) (n := 2) ((TL_Law_4 481 (by omega)).trans (lk_head rfl))).trans rfl
theorem i_Law_483 : opAt m_Law 483 = sIal 484 := (opAt_of (M := m_Law) (i := .iaload) (n := 1) ((TL_Law_4 483 (by omega)).trans (lk_head rfl))).trans rfl
theorem i_Law_484 : opAt m_Law 484 = sCm .eq 658 487 := (opAt_of (M := m_Law) (i := .if_icmp .eq 174) (n := 3) ((TL_Law_4 484 (by omega)).trans (lk_head rfl))).trans rfl
theorem i_Law_487 : opAt m_Law 487 = sPush (.int (Int32.ofInt 0)) 488 := (opAt_of (M := m_Law) (i := .iconst 0) (n := 1) ((TL_Law_4 487 (by omega)).trans (lk_head rfl))).trans rfl
theorem i_Law_488 : opAt m_Law 488 = sIret .boolean := (opAt_of (M := m_Law) (i := .ireturn) (n := 1) ((TL_Law_4 488 (by omega)).trans (lk_head rfl))).trans rfl
theorem i_Law_489 : opAt m_Law 489 = sAld 7 491 := (opAt_of (M := m_Law) (i := .aload 7) (n := 2) ((TL_Law_4 489 (by omega)).trans (lk_head rfl))).trans rfl
theorem i_Law_491 : opAt m_Law 491 = sPush (.int (Int8.ofInt 48).toInt32) 493 := (opAt_of (M := m_Law) (i := .bipush 48) (n := 2) ((TL_Law_4 491 (by omega)).trans (lk_head rfl))).trans rfl
theorem i_Law_493 : opAt m_Law 493 = sIal 494 := (opAt_of (M := m_Law) (i := .iaload) (n := 1) ((TL_Law_4 493 (by omega)).trans (lk_head rfl))).trans rfl
theorem i_Law_494 : opAt m_Law 494 = sIf .le 500 497 := (opAt_of (M := m_Law) (i := .ifCond .le 6) (n := 3) ((TL_Law_4 494 (by omega)).trans (lk_head rfl))).trans rfl
theorem i_Law_497 : opAt m_Law 497 = sGo 658 := (opAt_of (M := m_Law) (i := .goto 161) (n := 3) ((TL_Law_4 497 (by omega)).trans (lk_head rfl))).trans rfl
theorem i_Law_500 : opAt m_Law 500 = sAld 6 502 := (opAt_of (M := m_Law) (i := .aload 6) (n := 2) ((TL_Law_4 500 (by omega)).trans (lk_head rfl))).trans rfl
theorem i_Law_502 : opAt m_Law 502 = sAld 7 504 := (opAt_of (M := m_Law) (i := .aload 7) (n := 2) ((TL_Law_4 502 (by omega)).trans (lk_head rfl))).trans rfl
theorem i_Law_504 : opAt m_Law 504 = sSta m_Law_copy 0 2 507 := (opAt_of (M := m_Law) (i := .invokestatic 87) (n := 3) ((TL_Law_4 504 (by omega)).trans (lk_head rfl))).trans rfl
theorem i_Law_507 : opAt m_Law 507 = sAld 1 508 := (opAt_of (M := m_Law) (i := .aload_n 1) (n := 1) ((TL_Law_4 507 (by omega)).trans (lk_head rfl))).trans rfl
theorem i_Law_508 : opAt m_Law 508 = sPush (.int (Int32.ofInt 0)) 509 := (opAt_of (M := m_Law) (i := .iconst 0) (n := 1) ((TL_Law_4 508 (by omega)).trans (lk_head rfl))).trans rfl
theorem i_Law_509 : opAt m_Law 509 = sVir [(10, m_Fi_copy)] 0 1 512 := (opAt_of (M := m_Law) (i := .invokevirtual 91) (n := 3) ((TL_Law_4 509 (by omega)).trans (lk_head rfl))).trans rfl
theorem i_Law_512 : opAt m_Law 512 = sPush (.int (Int32.ofInt 1)) 513 := (opAt_of (M := m_Law) (i := .iconst 1) (n := 1) ((TL_Law_4 512 (by omega)).trans (lk_head rfl))).trans rfl
theorem i_Law_513 : opAt m_Law 513 = sCm .eq 658 516 := (opAt_of (M := m_Law) (i := .if_icmp .eq 145) (n := 3) ((TL_Law_4 513 (by omega)).trans (lk_head rfl))).trans rfl
theorem i_Law_516 : opAt m_Law 516 = sPush (.int (Int32.ofInt 0)) 517 := (opAt_of (M := m_Law) (i := .iconst 0) (n := 1) ((TL_Law_4 516 (by omega)).trans (lk_head rfl))).trans rfl
theorem i_Law_517 : opAt m_Law 517 = sIret .boolean := (opAt_of (M := m_Law) (i := .ireturn) (n := 1) ((TL_Law_4 517 (by omega)).trans (lk_head rfl))).trans rfl
theorem i_Law_518 : opAt m_Law 518 = sIld 9 520 := (opAt_of (M := m_Law) (i := .iload 9) (n := 2) ((TL_Law_4 518 (by omega)).trans (lk_head rfl))).trans rfl
theorem i_Law_520 : opAt m_Law 520 = sPush (.int (Int8.ofInt 12).toInt32) 522 := (opAt_of (M := m_Law) (i := .bipush 12) (n := 2) ((TL_Law_4 520 (by omega)).trans (lk_head rfl))).trans rfl
theorem i_Law_522 : opAt m_Law 522 = sBI (fun x y => x >>> (y &&& 31)) 523 := (opAt_of (M := m_Law) (i := .ishr) (n := 1) ((TL_Law_4 522 (by omega)).trans (lk_head rfl))).trans rfl
theorem i_Law_523 : opAt m_Law 523 = sPush (.int (Int8.ofInt 8).toInt32) 525 := (opAt_of (M := m_Law) (i := .bipush 8) (n := 2) ((TL_Law_4 523 (by omega)).trans (lk_head rfl))).trans rfl
theorem i_Law_525 : opAt m_Law 525 = sSta m_Law_at 0 2 528 := (opAt_of (M := m_Law) (i := .invokestatic 14) (n := 3) ((TL_Law_4 525 (by omega)).trans (lk_head rfl))).trans rfl
theorem i_Law_528 : opAt m_Law 528 = sIst 12 530 := (opAt_of (M := m_Law) (i := .istore 12) (n := 2) ((TL_Law_4 528 (by omega)).trans (lk_head rfl))).trans rfl
theorem i_Law_530 : opAt m_Law 530 = sIld 9 532 := (opAt_of (M := m_Law) (i := .iload 9) (n := 2) ((TL_Law_4 530 (by omega)).trans (lk_head rfl))).trans rfl
theorem i_Law_532 : opAt m_Law 532 = sPush (.int (Int8.ofInt 15).toInt32) 534 := (opAt_of (M := m_Law) (i := .bipush 15) (n := 2) ((TL_Law_4 532 (by omega)).trans (lk_head rfl))).trans rfl
theorem i_Law_534 : opAt m_Law 534 = sBI (fun x y => x >>> (y &&& 31)) 535 := (opAt_of (M := m_Law) (i := .ishr) (n := 1) ((TL_Law_4 534 (by omega)).trans (lk_head rfl))).trans rfl
theorem i_Law_535 : opAt m_Law 535 = sPush (.int (Int32.ofInt 2)) 536 := (opAt_of (M := m_Law) (i := .iconst 2) (n := 1) ((TL_Law_4 535 (by omega)).trans (lk_head rfl))).trans rfl
theorem i_Law_536 : opAt m_Law 536 = sSta m_Law_at 0 2 539 := (opAt_of (M := m_Law) (i := .invokestatic 14) (n := 3) ((TL_Law_4 536 (by omega)).trans (lk_head rfl))).trans rfl
theorem i_Law_539 : opAt m_Law 539 = sIst 13 541 := (opAt_of (M := m_Law) (i := .istore 13) (n := 2) ((TL_Law_4 539 (by omega)).trans (lk_head rfl))).trans rfl
theorem i_Law_541 : opAt m_Law 541 = sIld 9 543 := (opAt_of (M := m_Law) (i := .iload 9) (n := 2) ((TL_Law_4 541 (by omega)).trans (lk_head rfl))).trans rfl
theorem i_Law_543 : opAt m_Law 543 = sPush (.int (Int8.ofInt 16).toInt32) 545 := (opAt_of (M := m_Law) (i := .bipush 16) (n := 2) ((TL_Law_4 543 (by omega)).trans (lk_head rfl))).trans rfl
theorem i_Law_545 : opAt m_Law 545 = sBI (fun x y => x >>> (y &&& 31)) 546 := (opAt_of (M := m_Law) (i := .ishr) (n := 1) ((TL_Law_4 545 (by omega)).trans (lk_head rfl))).trans rfl
theorem i_Law_546 : opAt m_Law 546 = sPush (.int (Int32.ofInt 3)) 547 := (opAt_of (M := m_Law) (i := .iconst 3) (n := 1) ((TL_Law_4 546 (by omega)).trans (lk_head rfl))).trans rfl
theorem i_Law_547 : opAt m_Law 547 = sSta m_Law_at 0 2 550 := (opAt_of (M := m_Law) (i := .invokestatic 14) (n := 3) ((TL_Law_4 547 (by omega)).trans (lk_head rfl))).trans rfl
theorem i_Law_550 : opAt m_Law 550 = sIf .le 557 553 := (opAt_of (M := m_Law) (i := .ifCond .le 7) (n := 3) ((TL_Law_4 550 (by omega)).trans (lk_head rfl))).trans rfl
theorem i_Law_553 : opAt m_Law 553 = sPush (.int (Int32.ofInt 1)) 554 := (opAt_of (M := m_Law) (i := .iconst 1) (n := 1) ((TL_Law_4 553 (by omega)).trans (lk_head rfl))).trans rfl
theorem i_Law_554 : opAt m_Law 554 = sGo 558 := (opAt_of (M := m_Law) (i := .goto 4) (n := 3) ((TL_Law_4 554 (by omega)).trans (lk_head rfl))).trans rfl
theorem i_Law_557 : opAt m_Law 557 = sPush (.int (Int32.ofInt 0)) 558 := (opAt_of (M := m_Law) (i := .iconst 0) (n := 1) ((TL_Law_4 557 (by omega)).trans (lk_head rfl))).trans rfl
theorem i_Law_558 : opAt m_Law 558 = sIst 14 560 := (opAt_of (M := m_Law) (i := .istore 14) (n := 2) ((TL_Law_4 558 (by omega)).trans (lk_head rfl))).trans rfl
theorem i_Law_560 : opAt m_Law 560 = sPush (.int (Int32.ofInt 1)) 561 := (opAt_of (M := m_Law) (i := .iconst 1) (n := 1) ((TL_Law_4 560 (by omega)).trans (lk_head rfl))).trans rfl
theorem i_Law_561 : opAt m_Law 561 = sIld 13 563 := (opAt_of (M := m_Law) (i := .iload 13) (n := 2) ((TL_Law_4 561 (by omega)).trans (lk_head rfl))).trans rfl
theorem i_Law_563 : opAt m_Law 563 = sIf .ne 571 566 := (opAt_of (M := m_Law) (i := .ifCond .ne 8) (n := 3) ((TL_Law_4 563 (by omega)).trans (lk_head rfl))).trans rfl
theorem i_Law_566 : opAt m_Law 566 = sPush (.int (Int8.ofInt 6).toInt32) 568 := (opAt_of (M := m_Law) (i := .bipush 6) (n := 2) ((TL_Law_4 566 (by omega)).trans (lk_head rfl))).trans rfl
theorem i_Law_568 : opAt m_Law 568 = sGo 573 := (opAt_of (M := m_Law) (i := .goto 5) (n := 3) ((TL_Law_4 568 (by omega)).trans (lk_head rfl))).trans rfl
theorem i_Law_571 : opAt m_Law 571 = sPush (.int (Int8.ofInt 14).toInt32) 573 := (opAt_of (M := m_Law) (i := .bipush 14) (n := 2) ((TL_Law_4 571 (by omega)).trans (lk_head rfl))).trans rfl
theorem i_Law_573 : opAt m_Law 573 = sIld 12 575 := (opAt_of (M := m_Law) (i := .iload 12) (n := 2) ((TL_Law_4 573 (by omega)).trans (lk_head rfl))).trans rfl
theorem i_Law_575 : opAt m_Law 575 = sBI (fun x y => x + y) 576 := (opAt_of (M := m_Law) (i := .iadd) (n := 1) ((TL_Law_4 575 (by omega)).trans (lk_head rfl))).trans rfl
theorem i_Law_576 : opAt m_Law 576 = sBI (fun x y => x <<< (y &&& 31)) 577 := (opAt_of (M := m_Law) (i := .ishl) (n := 1) ((TL_Law_4 576 (by omega)).trans (lk_head rfl))).trans rfl
theorem i_Law_577 : opAt m_Law 577 = sIst 15 579 := (opAt_of (M := m_Law) (i := .istore 15) (n := 2) ((TL_Law_4 577 (by omega)).trans (lk_head rfl))).trans rfl
theorem i_Law_579 : opAt m_Law 579 = sAld 6 581 := (opAt_of (M := m_Law) (i := .aload 6) (n := 2) ((TL_Law_4 579 (by omega)).trans (lk_head rfl))).trans rfl
theorem i_Law_581 : opAt m_Law 581 = sIld 10 583 := (opAt_of (M := m_Law) (i := .iload 10) (n := 2) ((TL_Law_4 581 (by omega)).trans (lk_head rfl))).trans rfl
theorem i_Law_583 : opAt m_Law 583 = sIal 584 := (opAt_of (M := m_Law) (i := .iaload) (n := 1) ((TL_Law_4 583 (by omega)).trans (lk_head rfl))).trans rfl
theorem i_Law_584 : opAt m_Law 584 = sIld 15 586 := (opAt_of (M := m_Law) (i := .iload 15) (n := 2) ((TL_Law_4 584 (by omega)).trans (lk_head rfl))).trans rfl
theorem i_Law_586 : opAt m_Law 586 = sBI (fun x y => x &&& y) 587 := (opAt_of (M := m_Law) (i := .iand) (n := 1) ((TL_Law_4 586 (by omega)).trans (lk_head rfl))).trans rfl
theorem i_Law_587 : opAt m_Law 587 = sIf .le 594 590 := (opAt_of (M := m_Law) (i := .ifCond .le 7) (n := 3) ((TL_Law_5 587 (by omega)).trans (lk_head rfl))).trans rfl
theorem i_Law_590 : opAt m_Law 590 = sPush (.int (Int32.ofInt 1)) 591 := (opAt_of (M := m_Law) (i := .iconst 1) (n := 1) ((TL_Law_5 590 (by omega)).trans (lk_head rfl))).trans rfl
theorem i_Law_591 : opAt m_Law 591 = sGo 595 := (opAt_of (M := m_Law) (i := .goto 4) (n := 3) ((TL_Law_5 591 (by omega)).trans (lk_head rfl))).trans rfl
theorem i_Law_594 : opAt m_Law 594 = sPush (.int (Int32.ofInt 0)) 595 := (opAt_of (M := m_Law) (i := .iconst 0) (n := 1) ((TL_Law_5 594 (by omega)).trans (lk_head rfl))).trans rfl
theorem i_Law_595 : opAt m_Law 595 = sIst 16 597 := (opAt_of (M := m_Law) (i := .istore 16) (n := 2) ((TL_Law_5 595 (by omega)).trans (lk_head rfl))).trans rfl
theorem i_Law_597 : opAt m_Law 597 = sAld 1 598 := (opAt_of (M := m_Law) (i := .aload_n 1) (n := 1) ((TL_Law_5 597 (by omega)).trans (lk_head rfl))).trans rfl
theorem i_Law_598 : opAt m_Law 598 = sPush (.int (Int32.ofInt 0)) 599 := (opAt_of (M := m_Law) (i := .iconst 0) (n := 1) ((TL_Law_5 598 (by omega)).trans (lk_head rfl))).trans rfl
theorem i_Law_599 : opAt m_Law 599 = sIld 10 601 := (opAt_of (M := m_Law) (i := .iload 10) (n := 2) ((TL_Law_5 599 (by omega)).trans (lk_head rfl))).trans rfl
theorem i_Law_601 : opAt m_Law 601 = sIld 12 603 := (opAt_of (M := m_Law) (i := .iload 12) (n := 2) ((TL_Law_5 601 (by omega)).trans (lk_head rfl))).trans rfl
theorem i_Law_603 : opAt m_Law 603 = sIld 13 605 := (opAt_of (M := m_Law) (i := .iload 13) (n := 2) ((TL_Law_5 603 (by omega)).trans (lk_head rfl))).trans rfl
theorem i_Law_605 : opAt m_Law 605 = sIld 14 607 := (opAt_of (M := m_Law) (i := .iload 14) (n := 2) ((TL_Law_5 605 (by omega)).trans (lk_head rfl))).trans rfl
theorem i_Law_607 : opAt m_Law 607 = sVir [(10, m_Fi_mark)] 0 5 610 := (opAt_of (M := m_Law) (i := .invokevirtual 93) (n := 3) ((TL_Law_5 607 (by omega)).trans (lk_head rfl))).trans rfl
theorem i_Law_610 : opAt m_Law 610 = sIld 16 612 := (opAt_of (M := m_Law) (i := .iload 16) (n := 2) ((TL_Law_5 610 (by omega)).trans (lk_head rfl))).trans rfl
theorem i_Law_612 : opAt m_Law 612 = sIld 14 614 := (opAt_of (M := m_Law) (i := .iload 14) (n := 2) ((TL_Law_5 612 (by omega)).trans (lk_head rfl))).trans rfl
theorem i_Law_614 : opAt m_Law 614 = sCm .ne 621 617 := (opAt_of (M := m_Law) (i := .if_icmp .ne 7) (n := 3) ((TL_Law_5 614 (by omega)).trans (lk_head rfl))).trans rfl
theorem i_Law_617 : opAt m_Law 617 = sPush (.int (Int32.ofInt 0)) 618 := (opAt_of (M := m_Law) (i := .iconst 0) (n := 1) ((TL_Law_5 617 (by omega)).trans (lk_head rfl))).trans rfl
theorem i_Law_618 : opAt m_Law 618 = sGo 622 := (opAt_of (M := m_Law) (i := .goto 4) (n := 3) ((TL_Law_5 618 (by omega)).trans (lk_head rfl))).trans rfl
theorem i_Law_621 : opAt m_Law 621 = sPush (.int (Int32.ofInt 1)) 622 := (opAt_of (M := m_Law) (i := .iconst 1) (n := 1) ((TL_Law_5 621 (by omega)).trans (lk_head rfl))).trans rfl
theorem i_Law_622 : opAt m_Law 622 = sCm .eq 627 625 := (opAt_of (M := m_Law) (i := .if_icmp .eq 5) (n := 3) ((TL_Law_5 622 (by omega)).trans (lk_head rfl))).trans rfl
theorem i_Law_625 : opAt m_Law 625 = sPush (.int (Int32.ofInt 0)) 626 := (opAt_of (M := m_Law) (i := .iconst 0) (n := 1) ((TL_Law_5 625 (by omega)).trans (lk_head rfl))).trans rfl
theorem i_Law_626 : opAt m_Law 626 = sIret .boolean := (opAt_of (M := m_Law) (i := .ireturn) (n := 1) ((TL_Law_5 626 (by omega)).trans (lk_head rfl))).trans rfl
theorem i_Law_627 : opAt m_Law 627 = sAld 6 629 := (opAt_of (M := m_Law) (i := .aload 6) (n := 2) ((TL_Law_5 627 (by omega)).trans (lk_head rfl))).trans rfl
theorem i_Law_629 : opAt m_Law 629 = sIld 10 631 := (opAt_of (M := m_Law) (i := .iload 10) (n := 2) ((TL_Law_5 629 (by omega)).trans (lk_head rfl))).trans rfl
theorem i_Law_631 : opAt m_Law 631 = sIld 14 633 := (opAt_of (M := m_Law) (i := .iload 14) (n := 2) ((TL_Law_5 631 (by omega)).trans (lk_head rfl))).trans rfl
theorem i_Law_633 : opAt m_Law 633 = sIf .eq 647 636 := (opAt_of (M := m_Law) (i := .ifCond .eq 14) (n := 3) ((TL_Law_5 633 (by omega)).trans (lk_head rfl))).trans rfl
theorem i_Law_636 : opAt m_Law 636 = sAld 6 638 := (opAt_of (M := m_Law) (i := .aload 6) (n := 2) ((TL_Law_5 636 (by omega)).trans (lk_head rfl))).trans rfl
theorem i_Law_638 : opAt m_Law 638 = sIld 10 640 := (opAt_of (M := m_Law) (i := .iload 10) (n := 2) ((TL_Law_5 638 (by omega)).trans (lk_head rfl))).trans rfl
theorem i_Law_640 : opAt m_Law 640 = sIal 641 := (opAt_of (M := m_Law) (i := .iaload) (n := 1) ((TL_Law_5 640 (by omega)).trans (lk_head rfl))).trans rfl
theorem i_Law_641 : opAt m_Law 641 = sIld 15 643 := (opAt_of (M := m_Law) (i := .iload 15) (n := 2) ((TL_Law_5 641 (by omega)).trans (lk_head rfl))).trans rfl
theorem i_Law_643 : opAt m_Law 643 = sBI (fun x y => x ||| y) 644 := (opAt_of (M := m_Law) (i := .ior) (n := 1) ((TL_Law_5 643 (by omega)).trans (lk_head rfl))).trans rfl
theorem i_Law_644 : opAt m_Law 644 = sGo 657 := (opAt_of (M := m_Law) (i := .goto 13) (n := 3) ((TL_Law_5 644 (by omega)).trans (lk_head rfl))).trans rfl
theorem i_Law_647 : opAt m_Law 647 = sAld 6 649 := (opAt_of (M := m_Law) (i := .aload 6) (n := 2) ((TL_Law_5 647 (by omega)).trans (lk_head rfl))).trans rfl
theorem i_Law_649 : opAt m_Law 649 = sIld 10 651 := (opAt_of (M := m_Law) (i := .iload 10) (n := 2) ((TL_Law_5 649 (by omega)).trans (lk_head rfl))).trans rfl
theorem i_Law_651 : opAt m_Law 651 = sIal 652 := (opAt_of (M := m_Law) (i := .iaload) (n := 1) ((TL_Law_5 651 (by omega)).trans (lk_head rfl))).trans rfl
theorem i_Law_652 : opAt m_Law 652 = sIld 15 654 := (opAt_of (M := m_Law) (i := .iload 15) (n := 2) ((TL_Law_5 652 (by omega)).trans (lk_head rfl))).trans rfl
theorem i_Law_654 : opAt m_Law 654 = sPush (.int (Int32.ofInt (-1))) 655 := (opAt_of (M := m_Law) (i := .iconst (-1)) (n := 1) ((TL_Law_5 654 (by omega)).trans (lk_head rfl))).trans rfl
theorem i_Law_655 : opAt m_Law 655 = sBI (fun x y => x ^^^ y) 656 := (opAt_of (M := m_Law) (i := .ixor) (n := 1) ((TL_Law_5 655 (by omega)).trans (lk_head rfl))).trans rfl
theorem i_Law_656 : opAt m_Law 656 = sBI (fun x y => x &&& y) 657 := (opAt_of (M := m_Law) (i := .iand) (n := 1) ((TL_Law_5 656 (by omega)).trans (lk_head rfl))).trans rfl
theorem i_Law_657 : opAt m_Law 657 = sIas 658 := (opAt_of (M := m_Law) (i := .iastore) (n := 1) ((TL_Law_5 657 (by omega)).trans (lk_head rfl))).trans rfl
theorem i_Law_658 : opAt m_Law 658 = sAld 1 659 := (opAt_of (M := m_Law) (i := .aload_n 1) (n := 1) ((TL_Law_5 658 (by omega)).trans (lk_head rfl))).trans rfl
theorem i_Law_659 : opAt m_Law 659 = sAld 6 661 := (opAt_of (M := m_Law) (i := .aload 6) (n := 2) ((TL_Law_5 659 (by omega)).trans (lk_head rfl))).trans rfl
theorem i_Law_661 : opAt m_Law 661 = sPush (.int (Int32.ofInt 0)) 662 := (opAt_of (M := m_Law) (i := .iconst 0) (n := 1) ((TL_Law_5 661 (by omega)).trans (lk_head rfl))).trans rfl
theorem i_Law_662 : opAt m_Law 662 = sSta m_Law_stands 0 3 665 := (opAt_of (M := m_Law) (i := .invokestatic 97) (n := 3) ((TL_Law_5 662 (by omega)).trans (lk_head rfl))).trans rfl
theorem i_Law_665 : opAt m_Law 665 = sIf .eq 686 668 := (opAt_of (M := m_Law) (i := .ifCond .eq 21) (n := 3) ((TL_Law_5 665 (by omega)).trans (lk_head rfl))).trans rfl
theorem i_Law_668 : opAt m_Law 668 = sAld 7 670 := (opAt_of (M := m_Law) (i := .aload 7) (n := 2) ((TL_Law_5 668 (by omega)).trans (lk_head rfl))).trans rfl
theorem i_Law_670 : opAt m_Law 670 = sPush (.int (Int8.ofInt 48).toInt32) 672 := (opAt_of (M := m_Law) (i := .bipush 48) (n := 2) ((TL_Law_5 670 (by omega)).trans (lk_head rfl))).trans rfl
theorem i_Law_672 : opAt m_Law 672 = sIal 673 := (opAt_of (M := m_Law) (i := .iaload) (n := 1) ((TL_Law_5 672 (by omega)).trans (lk_head rfl))).trans rfl
theorem i_Law_673 : opAt m_Law 673 = sIf .le 688 676 := (opAt_of (M := m_Law) (i := .ifCond .le 15) (n := 3) ((TL_Law_5 673 (by omega)).trans (lk_head rfl))).trans rfl
theorem i_Law_676 : opAt m_Law 676 = sAld 1 677 := (opAt_of (M := m_Law) (i := .aload_n 1) (n := 1) ((TL_Law_5 676 (by omega)).trans (lk_head rfl))).trans rfl
theorem i_Law_677 : opAt m_Law 677 = sAld 7 679 := (opAt_of (M := m_Law) (i := .aload 7) (n := 2) ((TL_Law_5 677 (by omega)).trans (lk_head rfl))).trans rfl
theorem i_Law_679 : opAt m_Law 679 = sPush (.int (Int32.ofInt 1)) 680 := (opAt_of (M := m_Law) (i := .iconst 1) (n := 1) ((TL_Law_5 679 (by omega)).trans (lk_head rfl))).trans rfl
theorem i_Law_680 : opAt m_Law 680 = sSta m_Law_stands 0 3 683 := (opAt_of (M := m_Law) (i := .invokestatic 97) (n := 3) ((TL_Law_5 680 (by omega)).trans (lk_head rfl))).trans rfl
theorem i_Law_683 : opAt m_Law 683 = sIf .ne 688 686 := (opAt_of (M := m_Law) (i := .ifCond .ne 5) (n := 3) ((TL_Law_5 683 (by omega)).trans (lk_head rfl))).trans rfl
theorem i_Law_686 : opAt m_Law 686 = sPush (.int (Int32.ofInt 0)) 687 := (opAt_of (M := m_Law) (i := .iconst 0) (n := 1) ((TL_Law_5 686 (by omega)).trans (lk_head rfl))).trans rfl
theorem i_Law_687 : opAt m_Law 687 = sIret .boolean := (opAt_of (M := m_Law) (i := .ireturn) (n := 1) ((TL_Law_5 687 (by omega)).trans (lk_head rfl))).trans rfl
theorem i_Law_688 : opAt m_Law 688 = sInc 8 1 691 := (opAt_of (M := m_Law) (i := .iinc 8 1) (n := 3) ((TL_Law_5 688 (by omega)).trans (lk_head rfl))).trans rfl
theorem i_Law_691 : opAt m_Law 691 = sGo 266 := (opAt_of (M := m_Law) (i := .goto (-425)) (n := 3) ((TL_Law_5 691 (by omega)).trans (lk_head rfl))).trans rfl
theorem i_Law_694 : opAt m_Law 694 = sAld 1 695 := (opAt_of (M := m_Law) (i := .aload_n 1) (n := 1) ((TL_Law_5 694 (by omega)).trans (lk_head rfl))).trans rfl
theorem i_Law_695 : opAt m_Law 695 = sAld 0 696 := (opAt_of (M := m_Law) (i := .aload_n 0) (n := 1) ((TL_Law_5 695 (by omega)).trans (lk_head rfl))).trans rfl
theorem i_Law_696 : opAt m_Law 696 = sAld 6 698 := (opAt_of (M := m_Law) (i := .aload 6) (n := 2) ((TL_Law_5 696 (by omega)).trans (lk_head rfl))).trans rfl
theorem i_Law_698 : opAt m_Law 698 = sPush (.int (Int32.ofInt 0)) 699 := (opAt_of (M := m_Law) (i := .iconst 0) (n := 1) ((TL_Law_6 698 (by omega)).trans (lk_head rfl))).trans rfl
theorem i_Law_699 : opAt m_Law 699 = sSta m_Law_rounds 1 4 702 := (opAt_of (M := m_Law) (i := .invokestatic 100) (n := 3) ((TL_Law_6 699 (by omega)).trans (lk_head rfl))).trans rfl
theorem i_Law_702 : opAt m_Law 702 = sIf .eq 724 705 := (opAt_of (M := m_Law) (i := .ifCond .eq 22) (n := 3) ((TL_Law_6 702 (by omega)).trans (lk_head rfl))).trans rfl
theorem i_Law_705 : opAt m_Law 705 = sAld 7 707 := (opAt_of (M := m_Law) (i := .aload 7) (n := 2) ((TL_Law_6 705 (by omega)).trans (lk_head rfl))).trans rfl
theorem i_Law_707 : opAt m_Law 707 = sPush (.int (Int8.ofInt 48).toInt32) 709 := (opAt_of (M := m_Law) (i := .bipush 48) (n := 2) ((TL_Law_6 707 (by omega)).trans (lk_head rfl))).trans rfl
theorem i_Law_709 : opAt m_Law 709 = sIal 710 := (opAt_of (M := m_Law) (i := .iaload) (n := 1) ((TL_Law_6 709 (by omega)).trans (lk_head rfl))).trans rfl
theorem i_Law_710 : opAt m_Law 710 = sIf .le 726 713 := (opAt_of (M := m_Law) (i := .ifCond .le 16) (n := 3) ((TL_Law_6 710 (by omega)).trans (lk_head rfl))).trans rfl
theorem i_Law_713 : opAt m_Law 713 = sAld 1 714 := (opAt_of (M := m_Law) (i := .aload_n 1) (n := 1) ((TL_Law_6 713 (by omega)).trans (lk_head rfl))).trans rfl
theorem i_Law_714 : opAt m_Law 714 = sAld 0 715 := (opAt_of (M := m_Law) (i := .aload_n 0) (n := 1) ((TL_Law_6 714 (by omega)).trans (lk_head rfl))).trans rfl
theorem i_Law_715 : opAt m_Law 715 = sAld 7 717 := (opAt_of (M := m_Law) (i := .aload 7) (n := 2) ((TL_Law_6 715 (by omega)).trans (lk_head rfl))).trans rfl
theorem i_Law_717 : opAt m_Law 717 = sPush (.int (Int32.ofInt 1)) 718 := (opAt_of (M := m_Law) (i := .iconst 1) (n := 1) ((TL_Law_6 717 (by omega)).trans (lk_head rfl))).trans rfl
theorem i_Law_718 : opAt m_Law 718 = sSta m_Law_rounds 1 4 721 := (opAt_of (M := m_Law) (i := .invokestatic 100) (n := 3) ((TL_Law_6 718 (by omega)).trans (lk_head rfl))).trans rfl
theorem i_Law_721 : opAt m_Law 721 = sIf .ne 726 724 := (opAt_of (M := m_Law) (i := .ifCond .ne 5) (n := 3) ((TL_Law_6 721 (by omega)).trans (lk_head rfl))).trans rfl
theorem i_Law_724 : opAt m_Law 724 = sPush (.int (Int32.ofInt 0)) 725 := (opAt_of (M := m_Law) (i := .iconst 0) (n := 1) ((TL_Law_6 724 (by omega)).trans (lk_head rfl))).trans rfl
theorem i_Law_725 : opAt m_Law 725 = sIret .boolean := (opAt_of (M := m_Law) (i := .ireturn) (n := 1) ((TL_Law_6 725 (by omega)).trans (lk_head rfl))).trans rfl
theorem i_Law_726 : opAt m_Law 726 = sPush (.int (Int32.ofInt 0)) 727 := (opAt_of (M := m_Law) (i := .iconst 0) (n := 1) ((TL_Law_6 726 (by omega)).trans (lk_head rfl))).trans rfl
theorem i_Law_727 : opAt m_Law 727 = sIst 8 729 := (opAt_of (M := m_Law) (i := .istore 8) (n := 2) ((TL_Law_6 727 (by omega)).trans (lk_head rfl))).trans rfl
theorem i_Law_729 : opAt m_Law 729 = sPush (.int (Int32.ofInt 0)) 730 := (opAt_of (M := m_Law) (i := .iconst 0) (n := 1) ((TL_Law_6 729 (by omega)).trans (lk_head rfl))).trans rfl
theorem i_Law_730 : opAt m_Law 730 = sIst 9 732 := (opAt_of (M := m_Law) (i := .istore 9) (n := 2) ((TL_Law_6 730 (by omega)).trans (lk_head rfl))).trans rfl
theorem i_Law_732 : opAt m_Law 732 = sIld 9 734 := (opAt_of (M := m_Law) (i := .iload 9) (n := 2) ((TL_Law_6 732 (by omega)).trans (lk_head rfl))).trans rfl
theorem i_Law_734 : opAt m_Law 734 = sPush (.int (Int32.ofInt 2)) 735 := (opAt_of (M := m_Law) (i := .iconst 2) (n := 1) ((TL_Law_6 734 (by omega)).trans (lk_head rfl))).trans rfl
theorem i_Law_735 : opAt m_Law 735 = sCm .ge 863 738 := (opAt_of (M := m_Law) (i := .if_icmp .ge 128) (n := 3) ((TL_Law_6 735 (by omega)).trans (lk_head rfl))).trans rfl
theorem i_Law_738 : opAt m_Law 738 = sIld 9 740 := (opAt_of (M := m_Law) (i := .iload 9) (n := 2) ((TL_Law_6 738 (by omega)).trans (lk_head rfl))).trans rfl
theorem i_Law_740 : opAt m_Law 740 = sIf .ne 747 743 := (opAt_of (M := m_Law) (i := .ifCond .ne 7) (n := 3) ((TL_Law_6 740 (by omega)).trans (lk_head rfl))).trans rfl
theorem i_Law_743 : opAt m_Law 743 = sAld 2 744 := (opAt_of (M := m_Law) (i := .aload_n 2) (n := 1) ((TL_Law_6 743 (by omega)).trans (lk_head rfl))).trans rfl
theorem i_Law_744 : opAt m_Law 744 = sGo 748 := (opAt_of (M := m_Law) (i := .goto 4) (n := 3) ((TL_Law_6 744 (by omega)).trans (lk_head rfl))).trans rfl
theorem i_Law_747 : opAt m_Law 747 = sAld 3 748 := (opAt_of (M := m_Law) (i := .aload_n 3) (n := 1) ((TL_Law_6 747 (by omega)).trans (lk_head rfl))).trans rfl
theorem i_Law_748 : opAt m_Law 748 = sAst 10 750 := (opAt_of (M := m_Law) (i := .astore 10) (n := 2) ((TL_Law_6 748 (by omega)).trans (lk_head rfl))).trans rfl
theorem i_Law_750 : opAt m_Law 750 = sPush (.int (Int32.ofInt 1)) 751 := (opAt_of (M := m_Law) (i := .iconst 1) (n := 1) ((TL_Law_6 750 (by omega)).trans (lk_head rfl))).trans rfl
theorem i_Law_751 : opAt m_Law 751 = sIst 11 753 := (opAt_of (M := m_Law) (i := .istore 11) (n := 2) ((TL_Law_6 751 (by omega)).trans (lk_head rfl))).trans rfl
theorem i_Law_753 : opAt m_Law 753 = sPush (.int (Int32.ofInt 0)) 754 := (opAt_of (M := m_Law) (i := .iconst 0) (n := 1) ((TL_Law_6 753 (by omega)).trans (lk_head rfl))).trans rfl
theorem i_Law_754 : opAt m_Law 754 = sIst 12 756 := (opAt_of (M := m_Law) (i := .istore 12) (n := 2) ((TL_Law_6 754 (by omega)).trans (lk_head rfl))).trans rfl
theorem i_Law_756 : opAt m_Law 756 = sIld 12 758 := (opAt_of (M := m_Law) (i := .iload 12) (n := 2) ((TL_Law_6 756 (by omega)).trans (lk_head rfl))).trans rfl
theorem i_Law_758 : opAt m_Law 758 = sAld 10 760 := (opAt_of (M := m_Law) (i := .aload 10) (n := 2) ((TL_Law_6 758 (by omega)).trans (lk_head rfl))).trans rfl
theorem i_Law_760 : opAt m_Law 760 = sPush (.int (Int8.ofInt 16).toInt32) 762 := (opAt_of (M := m_Law) (i := .bipush 16) (n := 2) ((TL_Law_6 760 (by omega)).trans (lk_head rfl))).trans rfl
theorem i_Law_762 : opAt m_Law 762 = sIal 763 := (opAt_of (M := m_Law) (i := .iaload) (n := 1) ((TL_Law_6 762 (by omega)).trans (lk_head rfl))).trans rfl
theorem i_Law_763 : opAt m_Law 763 = sCm .ge 839 766 := (opAt_of (M := m_Law) (i := .if_icmp .ge 76) (n := 3) ((TL_Law_6 763 (by omega)).trans (lk_head rfl))).trans rfl
theorem i_Law_766 : opAt m_Law 766 = sPush (.int (Int32.ofInt 0)) 767 := (opAt_of (M := m_Law) (i := .iconst 0) (n := 1) ((TL_Law_6 766 (by omega)).trans (lk_head rfl))).trans rfl
theorem i_Law_767 : opAt m_Law 767 = sIst 13 769 := (opAt_of (M := m_Law) (i := .istore 13) (n := 2) ((TL_Law_6 767 (by omega)).trans (lk_head rfl))).trans rfl
theorem i_Law_769 : opAt m_Law 769 = sIld 13 771 := (opAt_of (M := m_Law) (i := .iload 13) (n := 2) ((TL_Law_6 769 (by omega)).trans (lk_head rfl))).trans rfl
theorem i_Law_771 : opAt m_Law 771 = sAld 6 773 := (opAt_of (M := m_Law) (i := .aload 6) (n := 2) ((TL_Law_6 771 (by omega)).trans (lk_head rfl))).trans rfl
theorem i_Law_773 : opAt m_Law 773 = sPush (.int (Int8.ofInt 48).toInt32) 775 := (opAt_of (M := m_Law) (i := .bipush 48) (n := 2) ((TL_Law_6 773 (by omega)).trans (lk_head rfl))).trans rfl
theorem i_Law_775 : opAt m_Law 775 = sIal 776 := (opAt_of (M := m_Law) (i := .iaload) (n := 1) ((TL_Law_6 775 (by omega)).trans (lk_head rfl))).trans rfl
theorem i_Law_776 : opAt m_Law 776 = sCm .ge 833 779 := (opAt_of (M := m_Law) (i := .if_icmp .ge 57) (n := 3) ((TL_Law_6 776 (by omega)).trans (lk_head rfl))).trans rfl
theorem i_Law_779 : opAt m_Law 779 = sIld 11 781 := (opAt_of (M := m_Law) (i := .iload 11) (n := 2) ((TL_Law_6 779 (by omega)).trans (lk_head rfl))).trans rfl
theorem i_Law_781 : opAt m_Law 781 = sAld 10 783 := (opAt_of (M := m_Law) (i := .aload 10) (n := 2) ((TL_Law_6 781 (by omega)).trans (lk_head rfl))).trans rfl
theorem i_Law_783 : opAt m_Law 783 = sPush (.int (Int32.ofInt 4)) 784 := (opAt_of (M := m_Law) (i := .iconst 4) (n := 1) ((TL_Law_6 783 (by omega)).trans (lk_head rfl))).trans rfl
theorem i_Law_784 : opAt m_Law 784 = sIld 12 786 := (opAt_of (M := m_Law) (i := .iload 12) (n := 2) ((TL_Law_6 784 (by omega)).trans (lk_head rfl))).trans rfl
theorem i_Law_786 : opAt m_Law 786 = sBI (fun x y => x * y) 787 := (opAt_of (M := m_Law) (i := .imul) (n := 1) ((TL_Law_6 786 (by omega)).trans (lk_head rfl))).trans rfl
theorem i_Law_787 : opAt m_Law 787 = sIld 13 789 := (opAt_of (M := m_Law) (i := .iload 13) (n := 2) ((TL_Law_6 787 (by omega)).trans (lk_head rfl))).trans rfl
theorem i_Law_789 : opAt m_Law 789 = sSta m_Law_leaves 0 3 792 := (opAt_of (M := m_Law) (i := .invokestatic 35) (n := 3) ((TL_Law_6 789 (by omega)).trans (lk_head rfl))).trans rfl
theorem i_Law_792 : opAt m_Law 792 = sIf .eq 819 795 := (opAt_of (M := m_Law) (i := .ifCond .eq 27) (n := 3) ((TL_Law_6 792 (by omega)).trans (lk_head rfl))).trans rfl
theorem i_Law_795 : opAt m_Law 795 = sAld 6 797 := (opAt_of (M := m_Law) (i := .aload 6) (n := 2) ((TL_Law_6 795 (by omega)).trans (lk_head rfl))).trans rfl
theorem i_Law_797 : opAt m_Law 797 = sIld 13 799 := (opAt_of (M := m_Law) (i := .iload 13) (n := 2) ((TL_Law_6 797 (by omega)).trans (lk_head rfl))).trans rfl
theorem i_Law_799 : opAt m_Law 799 = sIal 800 := (opAt_of (M := m_Law) (i := .iaload) (n := 1) ((TL_Law_6 799 (by omega)).trans (lk_head rfl))).trans rfl
theorem i_Law_800 : opAt m_Law 800 = sSta m_Law_black 0 1 803 := (opAt_of (M := m_Law) (i := .invokestatic 28) (n := 3) ((TL_Law_6 800 (by omega)).trans (lk_head rfl))).trans rfl
theorem i_Law_803 : opAt m_Law 803 = sAld 10 805 := (opAt_of (M := m_Law) (i := .aload 10) (n := 2) ((TL_Law_6 803 (by omega)).trans (lk_head rfl))).trans rfl
theorem i_Law_805 : opAt m_Law 805 = sPush (.int (Int32.ofInt 4)) 806 := (opAt_of (M := m_Law) (i := .iconst 4) (n := 1) ((TL_Law_6 805 (by omega)).trans (lk_head rfl))).trans rfl
theorem i_Law_806 : opAt m_Law 806 = sIld 12 808 := (opAt_of (M := m_Law) (i := .iload 12) (n := 2) ((TL_Law_6 806 (by omega)).trans (lk_head rfl))).trans rfl
theorem i_Law_808 : opAt m_Law 808 = sBI (fun x y => x * y) 809 := (opAt_of (M := m_Law) (i := .imul) (n := 1) ((TL_Law_6 808 (by omega)).trans (lk_head rfl))).trans rfl
theorem i_Law_809 : opAt m_Law 809 = sPush (.int (Int32.ofInt 1)) 810 := (opAt_of (M := m_Law) (i := .iconst 1) (n := 1) ((TL_Law_7 809 (by omega)).trans (lk_head rfl))).trans rfl
theorem i_Law_810 : opAt m_Law 810 = sBI (fun x y => x + y) 811 := (opAt_of (M := m_Law) (i := .iadd) (n := 1) ((TL_Law_7 810 (by omega)).trans (lk_head rfl))).trans rfl
theorem i_Law_811 : opAt m_Law 811 = sIal 812 := (opAt_of (M := m_Law) (i := .iaload) (n := 1) ((TL_Law_7 811 (by omega)).trans (lk_head rfl))).trans rfl
theorem i_Law_812 : opAt m_Law 812 = sBI (fun x y => x >>> (y &&& 31)) 813 := (opAt_of (M := m_Law) (i := .ishr) (n := 1) ((TL_Law_7 812 (by omega)).trans (lk_head rfl))).trans rfl
theorem i_Law_813 : opAt m_Law 813 = sPush (.int (Int32.ofInt 1)) 814 := (opAt_of (M := m_Law) (i := .iconst 1) (n := 1) ((TL_Law_7 813 (by omega)).trans (lk_head rfl))).trans rfl
theorem i_Law_814 : opAt m_Law 814 = sBI (fun x y => x &&& y) 815 := (opAt_of (M := m_Law) (i := .iand) (n := 1) ((TL_Law_7 814 (by omega)).trans (lk_head rfl))).trans rfl
theorem i_Law_815 : opAt m_Law 815 = sPush (.int (Int32.ofInt 1)) 816 := (opAt_of (M := m_Law) (i := .iconst 1) (n := 1) ((TL_Law_7 815 (by omega)).trans (lk_head rfl))).trans rfl
theorem i_Law_816 : opAt m_Law 816 = sCm .ne 823 819 := (opAt_of (M := m_Law) (i := .if_icmp .ne 7) (n := 3) ((TL_Law_7 816 (by omega)).trans (lk_head rfl))).trans rfl
theorem i_Law_819 : opAt m_Law 819 = sPush (.int (Int32.ofInt 1)) 820 := (opAt_of (M := m_Law) (i := .iconst 1) (n := 1) ((TL_Law_7 819 (by omega)).trans (lk_head rfl))).trans rfl
theorem i_Law_820 : opAt m_Law 820 = sGo 824 := (opAt_of (M := m_Law) (i := .goto 4) (n := 3) ((TL_Law_7 820 (by omega)).trans (lk_head rfl))).trans rfl
theorem i_Law_823 : opAt m_Law 823 = sPush (.int (Int32.ofInt 0)) 824 := (opAt_of (M := m_Law) (i := .iconst 0) (n := 1) ((TL_Law_7 823 (by omega)).trans (lk_head rfl))).trans rfl
theorem i_Law_824 : opAt m_Law 824 = sBI (fun x y => x &&& y) 825 := (opAt_of (M := m_Law) (i := .iand) (n := 1) ((TL_Law_7 824 (by omega)).trans (lk_head rfl))).trans rfl
theorem i_Law_825 : opAt m_Law 825 = sIst 11 827 := (opAt_of (M := m_Law) (i := .istore 11) (n := 2) ((TL_Law_7 825 (by omega)).trans (lk_head rfl))).trans rfl
theorem i_Law_827 : opAt m_Law 827 = sInc 13 1 830 := (opAt_of (M := m_Law) (i := .iinc 13 1) (n := 3) ((TL_Law_7 827 (by omega)).trans (lk_head rfl))).trans rfl
theorem i_Law_830 : opAt m_Law 830 = sGo 769 := (opAt_of (M := m_Law) (i := .goto (-61)) (n := 3) ((TL_Law_7 830 (by omega)).trans (lk_head rfl))).trans rfl
theorem i_Law_833 : opAt m_Law 833 = sInc 12 1 836 := (opAt_of (M := m_Law) (i := .iinc 12 1) (n := 3) ((TL_Law_7 833 (by omega)).trans (lk_head rfl))).trans rfl
theorem i_Law_836 : opAt m_Law 836 = sGo 756 := (opAt_of (M := m_Law) (i := .goto (-80)) (n := 3) ((TL_Law_7 836 (by omega)).trans (lk_head rfl))).trans rfl
theorem i_Law_839 : opAt m_Law 839 = sIld 8 841 := (opAt_of (M := m_Law) (i := .iload 8) (n := 2) ((TL_Law_7 839 (by omega)).trans (lk_head rfl))).trans rfl
theorem i_Law_841 : opAt m_Law 841 = sIld 11 843 := (opAt_of (M := m_Law) (i := .iload 11) (n := 2) ((TL_Law_7 841 (by omega)).trans (lk_head rfl))).trans rfl
theorem i_Law_843 : opAt m_Law 843 = sIf .eq 853 846 := (opAt_of (M := m_Law) (i := .ifCond .eq 10) (n := 3) ((TL_Law_7 843 (by omega)).trans (lk_head rfl))).trans rfl
theorem i_Law_846 : opAt m_Law 846 = sPush (.int (Int32.ofInt 1)) 847 := (opAt_of (M := m_Law) (i := .iconst 1) (n := 1) ((TL_Law_7 846 (by omega)).trans (lk_head rfl))).trans rfl
theorem i_Law_847 : opAt m_Law 847 = sIld 9 849 := (opAt_of (M := m_Law) (i := .iload 9) (n := 2) ((TL_Law_7 847 (by omega)).trans (lk_head rfl))).trans rfl
theorem i_Law_849 : opAt m_Law 849 = sBI (fun x y => x <<< (y &&& 31)) 850 := (opAt_of (M := m_Law) (i := .ishl) (n := 1) ((TL_Law_7 849 (by omega)).trans (lk_head rfl))).trans rfl
theorem i_Law_850 : opAt m_Law 850 = sGo 854 := (opAt_of (M := m_Law) (i := .goto 4) (n := 3) ((TL_Law_7 850 (by omega)).trans (lk_head rfl))).trans rfl
theorem i_Law_853 : opAt m_Law 853 = sPush (.int (Int32.ofInt 0)) 854 := (opAt_of (M := m_Law) (i := .iconst 0) (n := 1) ((TL_Law_7 853 (by omega)).trans (lk_head rfl))).trans rfl
theorem i_Law_854 : opAt m_Law 854 = sBI (fun x y => x ||| y) 855 := (opAt_of (M := m_Law) (i := .ior) (n := 1) ((TL_Law_7 854 (by omega)).trans (lk_head rfl))).trans rfl
theorem i_Law_855 : opAt m_Law 855 = sIst 8 857 := (opAt_of (M := m_Law) (i := .istore 8) (n := 2) ((TL_Law_7 855 (by omega)).trans (lk_head rfl))).trans rfl
theorem i_Law_857 : opAt m_Law 857 = sInc 9 1 860 := (opAt_of (M := m_Law) (i := .iinc 9 1) (n := 3) ((TL_Law_7 857 (by omega)).trans (lk_head rfl))).trans rfl
theorem i_Law_860 : opAt m_Law 860 = sGo 732 := (opAt_of (M := m_Law) (i := .goto (-128)) (n := 3) ((TL_Law_7 860 (by omega)).trans (lk_head rfl))).trans rfl
theorem i_Law_863 : opAt m_Law 863 = sAld 1 864 := (opAt_of (M := m_Law) (i := .aload_n 1) (n := 1) ((TL_Law_7 863 (by omega)).trans (lk_head rfl))).trans rfl
theorem i_Law_864 : opAt m_Law 864 = sPush (.int (Int32.ofInt 0)) 865 := (opAt_of (M := m_Law) (i := .iconst 0) (n := 1) ((TL_Law_7 864 (by omega)).trans (lk_head rfl))).trans rfl
theorem i_Law_865 : opAt m_Law 865 = sVir [(10, m_Fi_whose)] 0 1 868 := (opAt_of (M := m_Law) (i := .invokevirtual 104) (n := 3) ((TL_Law_7 865 (by omega)).trans (lk_head rfl))).trans rfl
theorem i_Law_868 : opAt m_Law 868 = sIld 8 870 := (opAt_of (M := m_Law) (i := .iload 8) (n := 2) ((TL_Law_7 868 (by omega)).trans (lk_head rfl))).trans rfl
theorem i_Law_870 : opAt m_Law 870 = sCm .ne 1104 873 := (opAt_of (M := m_Law) (i := .if_icmp .ne 234) (n := 3) ((TL_Law_7 870 (by omega)).trans (lk_head rfl))).trans rfl
theorem i_Law_873 : opAt m_Law 873 = sAld 1 874 := (opAt_of (M := m_Law) (i := .aload_n 1) (n := 1) ((TL_Law_7 873 (by omega)).trans (lk_head rfl))).trans rfl
theorem i_Law_874 : opAt m_Law 874 = sAld 0 875 := (opAt_of (M := m_Law) (i := .aload_n 0) (n := 1) ((TL_Law_7 874 (by omega)).trans (lk_head rfl))).trans rfl
theorem i_Law_875 : opAt m_Law 875 = sAld 6 877 := (opAt_of (M := m_Law) (i := .aload 6) (n := 2) ((TL_Law_7 875 (by omega)).trans (lk_head rfl))).trans rfl
theorem i_Law_877 : opAt m_Law 877 = sSta m_Law_places 2 3 880 := (opAt_of (M := m_Law) (i := .invokestatic 107) (n := 3) ((TL_Law_7 877 (by omega)).trans (lk_head rfl))).trans rfl
theorem i_Law_880 : opAt m_Law 880 = sIf .eq 1104 883 := (opAt_of (M := m_Law) (i := .ifCond .eq 224) (n := 3) ((TL_Law_7 880 (by omega)).trans (lk_head rfl))).trans rfl
theorem i_Law_883 : opAt m_Law 883 = sAld 1 884 := (opAt_of (M := m_Law) (i := .aload_n 1) (n := 1) ((TL_Law_7 883 (by omega)).trans (lk_head rfl))).trans rfl
theorem i_Law_884 : opAt m_Law 884 = sPush (.int (Int32.ofInt 2)) 885 := (opAt_of (M := m_Law) (i := .iconst 2) (n := 1) ((TL_Law_7 884 (by omega)).trans (lk_head rfl))).trans rfl
theorem i_Law_885 : opAt m_Law 885 = sVir [(10, m_Fi_whose)] 0 1 888 := (opAt_of (M := m_Law) (i := .invokevirtual 104) (n := 3) ((TL_Law_7 885 (by omega)).trans (lk_head rfl))).trans rfl
theorem i_Law_888 : opAt m_Law 888 = sPush (.int (Int8.ofInt (-101)).toInt32) 890 := (opAt_of (M := m_Law) (i := .bipush (-101)) (n := 2) ((TL_Law_7 888 (by omega)).trans (lk_head rfl))).trans rfl
theorem i_Law_890 : opAt m_Law 890 = sCm .ne 1104 893 := (opAt_of (M := m_Law) (i := .if_icmp .ne 214) (n := 3) ((TL_Law_7 890 (by omega)).trans (lk_head rfl))).trans rfl
theorem i_Law_893 : opAt m_Law 893 = sAld 1 894 := (opAt_of (M := m_Law) (i := .aload_n 1) (n := 1) ((TL_Law_7 893 (by omega)).trans (lk_head rfl))).trans rfl
theorem i_Law_894 : opAt m_Law 894 = sPush (.int (Int32.ofInt 0)) 895 := (opAt_of (M := m_Law) (i := .iconst 0) (n := 1) ((TL_Law_7 894 (by omega)).trans (lk_head rfl))).trans rfl
theorem i_Law_895 : opAt m_Law 895 = sVir [(10, m_Fi_print)] 0 1 898 := (opAt_of (M := m_Law) (i := .invokevirtual 71) (n := 3) ((TL_Law_7 895 (by omega)).trans (lk_head rfl))).trans rfl
theorem i_Law_898 : opAt m_Law 898 = sPush (.int (Int8.ofInt (-102)).toInt32) 900 := (opAt_of (M := m_Law) (i := .bipush (-102)) (n := 2) ((TL_Law_7 898 (by omega)).trans (lk_head rfl))).trans rfl
theorem i_Law_900 : opAt m_Law 900 = sCm .ne 1104 903 := (opAt_of (M := m_Law) (i := .if_icmp .ne 204) (n := 3) ((TL_Law_7 900 (by omega)).trans (lk_head rfl))).trans rfl
theorem i_Law_903 : opAt m_Law 903 = sAld 1 904 := (opAt_of (M := m_Law) (i := .aload_n 1) (n := 1) ((TL_Law_7 903 (by omega)).trans (lk_head rfl))).trans rfl
theorem i_Law_904 : opAt m_Law 904 = sPush (.int (Int8.ofInt 49).toInt32) 906 := (opAt_of (M := m_Law) (i := .bipush 49) (n := 2) ((TL_Law_7 904 (by omega)).trans (lk_head rfl))).trans rfl
theorem i_Law_906 : opAt m_Law 906 = sVir [(10, m_Fi_print)] 0 1 909 := (opAt_of (M := m_Law) (i := .invokevirtual 71) (n := 3) ((TL_Law_7 906 (by omega)).trans (lk_head rfl))).trans rfl
theorem i_Law_909 : opAt m_Law 909 = sPush (.int (Int8.ofInt (-102)).toInt32) 911 := (opAt_of (M := m_Law) (i := .bipush (-102)) (n := 2) ((TL_Law_7 909 (by omega)).trans (lk_head rfl))).trans rfl
theorem i_Law_911 : opAt m_Law 911 = sCm .ne 1104 914 := (opAt_of (M := m_Law) (i := .if_icmp .ne 193) (n := 3) ((TL_Law_7 911 (by omega)).trans (lk_head rfl))).trans rfl
theorem i_Law_914 : opAt m_Law 914 = sAld 1 915 := (opAt_of (M := m_Law) (i := .aload_n 1) (n := 1) ((TL_Law_7 914 (by omega)).trans (lk_head rfl))).trans rfl
theorem i_Law_915 : opAt m_Law 915 = sPush (.int (Int32.ofInt 0)) 916 := (opAt_of (M := m_Law) (i := .iconst 0) (n := 1) ((TL_Law_7 915 (by omega)).trans (lk_head rfl))).trans rfl
theorem i_Law_916 : opAt m_Law 916 = sPush (.int (Int32.ofInt 2)) 917 := (opAt_of (M := m_Law) (i := .iconst 2) (n := 1) ((TL_Law_7 916 (by omega)).trans (lk_head rfl))).trans rfl
theorem i_Law_917 : opAt m_Law 917 = sPush (.int (Int32.ofInt 1)) 918 := (opAt_of (M := m_Law) (i := .iconst 1) (n := 1) ((TL_Law_7 917 (by omega)).trans (lk_head rfl))).trans rfl
theorem i_Law_918 : opAt m_Law 918 = sVir [(10, m_Fi_run)] 0 3 921 := (opAt_of (M := m_Law) (i := .invokevirtual 74) (n := 3) ((TL_Law_7 918 (by omega)).trans (lk_head rfl))).trans rfl
theorem i_Law_921 : opAt m_Law 921 = sPush (.int (Int8.ofInt (-101)).toInt32) 923 := (opAt_of (M := m_Law) (i := .bipush (-101)) (n := 2) ((TL_Law_7 921 (by omega)).trans (lk_head rfl))).trans rfl
theorem i_Law_923 : opAt m_Law 923 = sCm .ne 1104 926 := (opAt_of (M := m_Law) (i := .if_icmp .ne 181) (n := 3) ((TL_Law_8 923 (by omega)).trans (lk_head rfl))).trans rfl
theorem i_Law_926 : opAt m_Law 926 = sAld 1 927 := (opAt_of (M := m_Law) (i := .aload_n 1) (n := 1) ((TL_Law_8 926 (by omega)).trans (lk_head rfl))).trans rfl
theorem i_Law_927 : opAt m_Law 927 = sPush (.int (Int32.ofInt 2)) 928 := (opAt_of (M := m_Law) (i := .iconst 2) (n := 1) ((TL_Law_8 927 (by omega)).trans (lk_head rfl))).trans rfl
theorem i_Law_928 : opAt m_Law 928 = sPush (.int (Int32.ofInt 0)) 929 := (opAt_of (M := m_Law) (i := .iconst 0) (n := 1) ((TL_Law_8 928 (by omega)).trans (lk_head rfl))).trans rfl
theorem i_Law_929 : opAt m_Law 929 = sPush (.int (Int32.ofInt 1)) 930 := (opAt_of (M := m_Law) (i := .iconst 1) (n := 1) ((TL_Law_8 929 (by omega)).trans (lk_head rfl))).trans rfl
theorem i_Law_930 : opAt m_Law 930 = sVir [(10, m_Fi_run)] 0 3 933 := (opAt_of (M := m_Law) (i := .invokevirtual 74) (n := 3) ((TL_Law_8 930 (by omega)).trans (lk_head rfl))).trans rfl
theorem i_Law_933 : opAt m_Law 933 = sPush (.int (Int8.ofInt (-101)).toInt32) 935 := (opAt_of (M := m_Law) (i := .bipush (-101)) (n := 2) ((TL_Law_8 933 (by omega)).trans (lk_head rfl))).trans rfl
theorem i_Law_935 : opAt m_Law 935 = sCm .ne 1104 938 := (opAt_of (M := m_Law) (i := .if_icmp .ne 169) (n := 3) ((TL_Law_8 935 (by omega)).trans (lk_head rfl))).trans rfl
theorem i_Law_938 : opAt m_Law 938 = sAld 1 939 := (opAt_of (M := m_Law) (i := .aload_n 1) (n := 1) ((TL_Law_8 938 (by omega)).trans (lk_head rfl))).trans rfl
theorem i_Law_939 : opAt m_Law 939 = sPush (.int (Int32.ofInt 0)) 940 := (opAt_of (M := m_Law) (i := .iconst 0) (n := 1) ((TL_Law_8 939 (by omega)).trans (lk_head rfl))).trans rfl
theorem i_Law_940 : opAt m_Law 940 = sPush (.int (Int32.ofInt 0)) 941 := (opAt_of (M := m_Law) (i := .iconst 0) (n := 1) ((TL_Law_8 940 (by omega)).trans (lk_head rfl))).trans rfl
theorem i_Law_941 : opAt m_Law 941 = sAld 6 943 := (opAt_of (M := m_Law) (i := .aload 6) (n := 2) ((TL_Law_8 941 (by omega)).trans (lk_head rfl))).trans rfl
theorem i_Law_943 : opAt m_Law 943 = sPush (.int (Int8.ofInt 48).toInt32) 945 := (opAt_of (M := m_Law) (i := .bipush 48) (n := 2) ((TL_Law_8 943 (by omega)).trans (lk_head rfl))).trans rfl
theorem i_Law_945 : opAt m_Law 945 = sIal 946 := (opAt_of (M := m_Law) (i := .iaload) (n := 1) ((TL_Law_8 945 (by omega)).trans (lk_head rfl))).trans rfl
theorem i_Law_946 : opAt m_Law 946 = sPush (.int (Int32.ofInt 1)) 947 := (opAt_of (M := m_Law) (i := .iconst 1) (n := 1) ((TL_Law_8 946 (by omega)).trans (lk_head rfl))).trans rfl
theorem i_Law_947 : opAt m_Law 947 = sBI (fun x y => x - y) 948 := (opAt_of (M := m_Law) (i := .isub) (n := 1) ((TL_Law_8 947 (by omega)).trans (lk_head rfl))).trans rfl
theorem i_Law_948 : opAt m_Law 948 = sVir [(10, m_Fi_mend)] 0 3 951 := (opAt_of (M := m_Law) (i := .invokevirtual 81) (n := 3) ((TL_Law_8 948 (by omega)).trans (lk_head rfl))).trans rfl
theorem i_Law_951 : opAt m_Law 951 = sPush (.int (Int8.ofInt (-102)).toInt32) 953 := (opAt_of (M := m_Law) (i := .bipush (-102)) (n := 2) ((TL_Law_8 951 (by omega)).trans (lk_head rfl))).trans rfl
theorem i_Law_953 : opAt m_Law 953 = sCm .ne 1104 956 := (opAt_of (M := m_Law) (i := .if_icmp .ne 151) (n := 3) ((TL_Law_8 953 (by omega)).trans (lk_head rfl))).trans rfl
theorem i_Law_956 : opAt m_Law 956 = sAld 1 957 := (opAt_of (M := m_Law) (i := .aload_n 1) (n := 1) ((TL_Law_8 956 (by omega)).trans (lk_head rfl))).trans rfl
theorem i_Law_957 : opAt m_Law 957 = sPush (.int (Int32.ofInt 0)) 958 := (opAt_of (M := m_Law) (i := .iconst 0) (n := 1) ((TL_Law_8 957 (by omega)).trans (lk_head rfl))).trans rfl
theorem i_Law_958 : opAt m_Law 958 = sPush (.int (Int32.ofInt (-1))) 959 := (opAt_of (M := m_Law) (i := .iconst (-1)) (n := 1) ((TL_Law_8 958 (by omega)).trans (lk_head rfl))).trans rfl
theorem i_Law_959 : opAt m_Law 959 = sPush (.int (Int32.ofInt 0)) 960 := (opAt_of (M := m_Law) (i := .iconst 0) (n := 1) ((TL_Law_8 959 (by omega)).trans (lk_head rfl))).trans rfl
theorem i_Law_960 : opAt m_Law 960 = sVir [(10, m_Fi_mend)] 0 3 963 := (opAt_of (M := m_Law) (i := .invokevirtual 81) (n := 3) ((TL_Law_8 960 (by omega)).trans (lk_head rfl))).trans rfl
theorem i_Law_963 : opAt m_Law 963 = sPush (.int (Int8.ofInt (-102)).toInt32) 965 := (opAt_of (M := m_Law) (i := .bipush (-102)) (n := 2) ((TL_Law_8 963 (by omega)).trans (lk_head rfl))).trans rfl
theorem i_Law_965 : opAt m_Law 965 = sCm .ne 1104 968 := (opAt_of (M := m_Law) (i := .if_icmp .ne 139) (n := 3) ((TL_Law_8 965 (by omega)).trans (lk_head rfl))).trans rfl
theorem i_Law_968 : opAt m_Law 968 = sAld 1 969 := (opAt_of (M := m_Law) (i := .aload_n 1) (n := 1) ((TL_Law_8 968 (by omega)).trans (lk_head rfl))).trans rfl
theorem i_Law_969 : opAt m_Law 969 = sPush (.int (Int32.ofInt 2)) 970 := (opAt_of (M := m_Law) (i := .iconst 2) (n := 1) ((TL_Law_8 969 (by omega)).trans (lk_head rfl))).trans rfl
theorem i_Law_970 : opAt m_Law 970 = sPush (.int (Int32.ofInt 0)) 971 := (opAt_of (M := m_Law) (i := .iconst 0) (n := 1) ((TL_Law_8 970 (by omega)).trans (lk_head rfl))).trans rfl
theorem i_Law_971 : opAt m_Law 971 = sPush (.int (Int32.ofInt 0)) 972 := (opAt_of (M := m_Law) (i := .iconst 0) (n := 1) ((TL_Law_8 971 (by omega)).trans (lk_head rfl))).trans rfl
theorem i_Law_972 : opAt m_Law 972 = sVir [(10, m_Fi_mend)] 0 3 975 := (opAt_of (M := m_Law) (i := .invokevirtual 81) (n := 3) ((TL_Law_8 972 (by omega)).trans (lk_head rfl))).trans rfl
theorem i_Law_975 : opAt m_Law 975 = sPush (.int (Int8.ofInt (-101)).toInt32) 977 := (opAt_of (M := m_Law) (i := .bipush (-101)) (n := 2) ((TL_Law_8 975 (by omega)).trans (lk_head rfl))).trans rfl
theorem i_Law_977 : opAt m_Law 977 = sCm .ne 1104 980 := (opAt_of (M := m_Law) (i := .if_icmp .ne 127) (n := 3) ((TL_Law_8 977 (by omega)).trans (lk_head rfl))).trans rfl
theorem i_Law_980 : opAt m_Law 980 = sAld 1 981 := (opAt_of (M := m_Law) (i := .aload_n 1) (n := 1) ((TL_Law_8 980 (by omega)).trans (lk_head rfl))).trans rfl
theorem i_Law_981 : opAt m_Law 981 = sPush (.int (Int32.ofInt 2)) 982 := (opAt_of (M := m_Law) (i := .iconst 2) (n := 1) ((TL_Law_8 981 (by omega)).trans (lk_head rfl))).trans rfl
theorem i_Law_982 : opAt m_Law 982 = sVir [(10, m_Fi_copy)] 0 1 985 := (opAt_of (M := m_Law) (i := .invokevirtual 91) (n := 3) ((TL_Law_8 982 (by omega)).trans (lk_head rfl))).trans rfl
theorem i_Law_985 : opAt m_Law 985 = sPush (.int (Int8.ofInt (-101)).toInt32) 987 := (opAt_of (M := m_Law) (i := .bipush (-101)) (n := 2) ((TL_Law_8 985 (by omega)).trans (lk_head rfl))).trans rfl
theorem i_Law_987 : opAt m_Law 987 = sCm .ne 1104 990 := (opAt_of (M := m_Law) (i := .if_icmp .ne 117) (n := 3) ((TL_Law_8 987 (by omega)).trans (lk_head rfl))).trans rfl
theorem i_Law_990 : opAt m_Law 990 = sAld 1 991 := (opAt_of (M := m_Law) (i := .aload_n 1) (n := 1) ((TL_Law_8 990 (by omega)).trans (lk_head rfl))).trans rfl
theorem i_Law_991 : opAt m_Law 991 = sPush (.int (Int32.ofInt 0)) 992 := (opAt_of (M := m_Law) (i := .iconst 0) (n := 1) ((TL_Law_8 991 (by omega)).trans (lk_head rfl))).trans rfl
theorem i_Law_992 : opAt m_Law 992 = sAld 6 994 := (opAt_of (M := m_Law) (i := .aload 6) (n := 2) ((TL_Law_8 992 (by omega)).trans (lk_head rfl))).trans rfl
theorem i_Law_994 : opAt m_Law 994 = sPush (.int (Int8.ofInt 48).toInt32) 996 := (opAt_of (M := m_Law) (i := .bipush 48) (n := 2) ((TL_Law_8 994 (by omega)).trans (lk_head rfl))).trans rfl
theorem i_Law_996 : opAt m_Law 996 = sIal 997 := (opAt_of (M := m_Law) (i := .iaload) (n := 1) ((TL_Law_8 996 (by omega)).trans (lk_head rfl))).trans rfl
theorem i_Law_997 : opAt m_Law 997 = sPush (.int (Int32.ofInt 0)) 998 := (opAt_of (M := m_Law) (i := .iconst 0) (n := 1) ((TL_Law_8 997 (by omega)).trans (lk_head rfl))).trans rfl
theorem i_Law_998 : opAt m_Law 998 = sPush (.int (Int32.ofInt 0)) 999 := (opAt_of (M := m_Law) (i := .iconst 0) (n := 1) ((TL_Law_8 998 (by omega)).trans (lk_head rfl))).trans rfl
theorem i_Law_999 : opAt m_Law 999 = sPush (.int (Int32.ofInt 1)) 1000 := (opAt_of (M := m_Law) (i := .iconst 1) (n := 1) ((TL_Law_8 999 (by omega)).trans (lk_head rfl))).trans rfl
theorem i_Law_1000 : opAt m_Law 1000 = sVir [(10, m_Fi_mark)] 0 5 1003 := (opAt_of (M := m_Law) (i := .invokevirtual 93) (n := 3) ((TL_Law_8 1000 (by omega)).trans (lk_head rfl))).trans rfl
theorem i_Law_1003 : opAt m_Law 1003 = sPush (.int (Int8.ofInt (-101)).toInt32) 1005 := (opAt_of (M := m_Law) (i := .bipush (-101)) (n := 2) ((TL_Law_8 1003 (by omega)).trans (lk_head rfl))).trans rfl
theorem i_Law_1005 : opAt m_Law 1005 = sCm .ne 1104 1008 := (opAt_of (M := m_Law) (i := .if_icmp .ne 99) (n := 3) ((TL_Law_8 1005 (by omega)).trans (lk_head rfl))).trans rfl
theorem i_Law_1008 : opAt m_Law 1008 = sAld 1 1009 := (opAt_of (M := m_Law) (i := .aload_n 1) (n := 1) ((TL_Law_8 1008 (by omega)).trans (lk_head rfl))).trans rfl
theorem i_Law_1009 : opAt m_Law 1009 = sPush (.int (Int32.ofInt 0)) 1010 := (opAt_of (M := m_Law) (i := .iconst 0) (n := 1) ((TL_Law_8 1009 (by omega)).trans (lk_head rfl))).trans rfl
theorem i_Law_1010 : opAt m_Law 1010 = sPush (.int (Int32.ofInt 0)) 1011 := (opAt_of (M := m_Law) (i := .iconst 0) (n := 1) ((TL_Law_8 1010 (by omega)).trans (lk_head rfl))).trans rfl
theorem i_Law_1011 : opAt m_Law 1011 = sPush (.int (Int8.ofInt 8).toInt32) 1013 := (opAt_of (M := m_Law) (i := .bipush 8) (n := 2) ((TL_Law_8 1011 (by omega)).trans (lk_head rfl))).trans rfl
theorem i_Law_1013 : opAt m_Law 1013 = sPush (.int (Int32.ofInt 0)) 1014 := (opAt_of (M := m_Law) (i := .iconst 0) (n := 1) ((TL_Law_8 1013 (by omega)).trans (lk_head rfl))).trans rfl
theorem i_Law_1014 : opAt m_Law 1014 = sPush (.int (Int32.ofInt 1)) 1015 := (opAt_of (M := m_Law) (i := .iconst 1) (n := 1) ((TL_Law_8 1014 (by omega)).trans (lk_head rfl))).trans rfl
theorem i_Law_1015 : opAt m_Law 1015 = sVir [(10, m_Fi_mark)] 0 5 1018 := (opAt_of (M := m_Law) (i := .invokevirtual 93) (n := 3) ((TL_Law_8 1015 (by omega)).trans (lk_head rfl))).trans rfl
theorem i_Law_1018 : opAt m_Law 1018 = sPush (.int (Int8.ofInt (-102)).toInt32) 1020 := (opAt_of (M := m_Law) (i := .bipush (-102)) (n := 2) ((TL_Law_8 1018 (by omega)).trans (lk_head rfl))).trans rfl
theorem i_Law_1020 : opAt m_Law 1020 = sCm .ne 1104 1023 := (opAt_of (M := m_Law) (i := .if_icmp .ne 84) (n := 3) ((TL_Law_8 1020 (by omega)).trans (lk_head rfl))).trans rfl
theorem i_Law_1023 : opAt m_Law 1023 = sAld 1 1024 := (opAt_of (M := m_Law) (i := .aload_n 1) (n := 1) ((TL_Law_8 1023 (by omega)).trans (lk_head rfl))).trans rfl
theorem i_Law_1024 : opAt m_Law 1024 = sPush (.int (Int32.ofInt 0)) 1025 := (opAt_of (M := m_Law) (i := .iconst 0) (n := 1) ((TL_Law_8 1024 (by omega)).trans (lk_head rfl))).trans rfl
theorem i_Law_1025 : opAt m_Law 1025 = sPush (.int (Int32.ofInt 0)) 1026 := (opAt_of (M := m_Law) (i := .iconst 0) (n := 1) ((TL_Law_9 1025 (by omega)).trans (rfl))).trans rfl
theorem i_Law_1026 : opAt m_Law 1026 = sPush (.int (Int32.ofInt 0)) 1027 := (opAt_of (M := m_Law) (i := .iconst 0) (n := 1) ((TL_Law_9 1026 (by omega)).trans (rfl))).trans rfl
theorem i_Law_1027 : opAt m_Law 1027 = sPush (.int (Int32.ofInt 2)) 1028 := (opAt_of (M := m_Law) (i := .iconst 2) (n := 1) ((TL_Law_9 1027 (by omega)).trans (rfl))).trans rfl
theorem i_Law_1028 : opAt m_Law 1028 = sPush (.int (Int32.ofInt 1)) 1029 := (opAt_of (M := m_Law) (i := .iconst 1) (n := 1) ((TL_Law_9 1028 (by omega)).trans (rfl))).trans rfl
theorem i_Law_1029 : opAt m_Law 1029 = sVir [(10, m_Fi_mark)] 0 5 1032 := (opAt_of (M := m_Law) (i := .invokevirtual 93) (n := 3) ((TL_Law_9 1029 (by omega)).trans (rfl))).trans rfl
theorem i_Law_1032 : opAt m_Law 1032 = sPush (.int (Int8.ofInt (-102)).toInt32) 1034 := (opAt_of (M := m_Law) (i := .bipush (-102)) (n := 2) ((TL_Law_9 1032 (by omega)).trans (rfl))).trans rfl
theorem i_Law_1034 : opAt m_Law 1034 = sCm .ne 1104 1037 := (opAt_of (M := m_Law) (i := .if_icmp .ne 70) (n := 3) ((TL_Law_9 1034 (by omega)).trans (rfl))).trans rfl
theorem i_Law_1037 : opAt m_Law 1037 = sAld 1 1038 := (opAt_of (M := m_Law) (i := .aload_n 1) (n := 1) ((TL_Law_9 1037 (by omega)).trans (rfl))).trans rfl
theorem i_Law_1038 : opAt m_Law 1038 = sPush (.int (Int32.ofInt 0)) 1039 := (opAt_of (M := m_Law) (i := .iconst 0) (n := 1) ((TL_Law_9 1038 (by omega)).trans (rfl))).trans rfl
theorem i_Law_1039 : opAt m_Law 1039 = sAld 2 1040 := (opAt_of (M := m_Law) (i := .aload_n 2) (n := 1) ((TL_Law_9 1039 (by omega)).trans (rfl))).trans rfl
theorem i_Law_1040 : opAt m_Law 1040 = sPush (.int (Int8.ofInt 16).toInt32) 1042 := (opAt_of (M := m_Law) (i := .bipush 16) (n := 2) ((TL_Law_9 1040 (by omega)).trans (rfl))).trans rfl
theorem i_Law_1042 : opAt m_Law 1042 = sIal 1043 := (opAt_of (M := m_Law) (i := .iaload) (n := 1) ((TL_Law_9 1042 (by omega)).trans (rfl))).trans rfl
theorem i_Law_1043 : opAt m_Law 1043 = sPush (.int (Int32.ofInt 0)) 1044 := (opAt_of (M := m_Law) (i := .iconst 0) (n := 1) ((TL_Law_9 1043 (by omega)).trans (rfl))).trans rfl
theorem i_Law_1044 : opAt m_Law 1044 = sVir [(10, m_Fi_part)] 0 3 1047 := (opAt_of (M := m_Law) (i := .invokevirtual 65) (n := 3) ((TL_Law_9 1044 (by omega)).trans (rfl))).trans rfl
theorem i_Law_1047 : opAt m_Law 1047 = sPush (.int (Int8.ofInt (-101)).toInt32) 1049 := (opAt_of (M := m_Law) (i := .bipush (-101)) (n := 2) ((TL_Law_9 1047 (by omega)).trans (rfl))).trans rfl
theorem i_Law_1049 : opAt m_Law 1049 = sCm .ne 1104 1052 := (opAt_of (M := m_Law) (i := .if_icmp .ne 55) (n := 3) ((TL_Law_9 1049 (by omega)).trans (rfl))).trans rfl
theorem i_Law_1052 : opAt m_Law 1052 = sAld 1 1053 := (opAt_of (M := m_Law) (i := .aload_n 1) (n := 1) ((TL_Law_9 1052 (by omega)).trans (rfl))).trans rfl
theorem i_Law_1053 : opAt m_Law 1053 = sPush (.int (Int32.ofInt 0)) 1054 := (opAt_of (M := m_Law) (i := .iconst 0) (n := 1) ((TL_Law_9 1053 (by omega)).trans (rfl))).trans rfl
theorem i_Law_1054 : opAt m_Law 1054 = sPush (.int (Int32.ofInt 0)) 1055 := (opAt_of (M := m_Law) (i := .iconst 0) (n := 1) ((TL_Law_9 1054 (by omega)).trans (rfl))).trans rfl
theorem i_Law_1055 : opAt m_Law 1055 = sPush (.int (Int32.ofInt 4)) 1056 := (opAt_of (M := m_Law) (i := .iconst 4) (n := 1) ((TL_Law_9 1055 (by omega)).trans (rfl))).trans rfl
theorem i_Law_1056 : opAt m_Law 1056 = sVir [(10, m_Fi_part)] 0 3 1059 := (opAt_of (M := m_Law) (i := .invokevirtual 65) (n := 3) ((TL_Law_9 1056 (by omega)).trans (rfl))).trans rfl
theorem i_Law_1059 : opAt m_Law 1059 = sPush (.int (Int8.ofInt (-102)).toInt32) 1061 := (opAt_of (M := m_Law) (i := .bipush (-102)) (n := 2) ((TL_Law_9 1059 (by omega)).trans (rfl))).trans rfl
theorem i_Law_1061 : opAt m_Law 1061 = sCm .ne 1104 1064 := (opAt_of (M := m_Law) (i := .if_icmp .ne 43) (n := 3) ((TL_Law_9 1061 (by omega)).trans (rfl))).trans rfl
theorem i_Law_1064 : opAt m_Law 1064 = sAld 1 1065 := (opAt_of (M := m_Law) (i := .aload_n 1) (n := 1) ((TL_Law_9 1064 (by omega)).trans (rfl))).trans rfl
theorem i_Law_1065 : opAt m_Law 1065 = sPush (.int (Int32.ofInt 2)) 1066 := (opAt_of (M := m_Law) (i := .iconst 2) (n := 1) ((TL_Law_9 1065 (by omega)).trans (rfl))).trans rfl
theorem i_Law_1066 : opAt m_Law 1066 = sPush (.int (Int32.ofInt 0)) 1067 := (opAt_of (M := m_Law) (i := .iconst 0) (n := 1) ((TL_Law_9 1066 (by omega)).trans (rfl))).trans rfl
theorem i_Law_1067 : opAt m_Law 1067 = sPush (.int (Int32.ofInt 0)) 1068 := (opAt_of (M := m_Law) (i := .iconst 0) (n := 1) ((TL_Law_9 1067 (by omega)).trans (rfl))).trans rfl
theorem i_Law_1068 : opAt m_Law 1068 = sVir [(10, m_Fi_as)] 0 3 1071 := (opAt_of (M := m_Law) (i := .invokevirtual 62) (n := 3) ((TL_Law_9 1068 (by omega)).trans (rfl))).trans rfl
theorem i_Law_1071 : opAt m_Law 1071 = sPush (.int (Int8.ofInt (-101)).toInt32) 1073 := (opAt_of (M := m_Law) (i := .bipush (-101)) (n := 2) ((TL_Law_9 1071 (by omega)).trans (rfl))).trans rfl
theorem i_Law_1073 : opAt m_Law 1073 = sCm .ne 1104 1076 := (opAt_of (M := m_Law) (i := .if_icmp .ne 31) (n := 3) ((TL_Law_9 1073 (by omega)).trans (rfl))).trans rfl
theorem i_Law_1076 : opAt m_Law 1076 = sAld 1 1077 := (opAt_of (M := m_Law) (i := .aload_n 1) (n := 1) ((TL_Law_9 1076 (by omega)).trans (rfl))).trans rfl
theorem i_Law_1077 : opAt m_Law 1077 = sPush (.int (Int32.ofInt 0)) 1078 := (opAt_of (M := m_Law) (i := .iconst 0) (n := 1) ((TL_Law_9 1077 (by omega)).trans (rfl))).trans rfl
theorem i_Law_1078 : opAt m_Law 1078 = sPush (.int (Int32.ofInt 0)) 1079 := (opAt_of (M := m_Law) (i := .iconst 0) (n := 1) ((TL_Law_9 1078 (by omega)).trans (rfl))).trans rfl
theorem i_Law_1079 : opAt m_Law 1079 = sPush (.int (Int32.ofInt 5)) 1080 := (opAt_of (M := m_Law) (i := .iconst 5) (n := 1) ((TL_Law_9 1079 (by omega)).trans (rfl))).trans rfl
theorem i_Law_1080 : opAt m_Law 1080 = sVir [(10, m_Fi_as)] 0 3 1083 := (opAt_of (M := m_Law) (i := .invokevirtual 62) (n := 3) ((TL_Law_9 1080 (by omega)).trans (rfl))).trans rfl
theorem i_Law_1083 : opAt m_Law 1083 = sPush (.int (Int8.ofInt (-102)).toInt32) 1085 := (opAt_of (M := m_Law) (i := .bipush (-102)) (n := 2) ((TL_Law_9 1083 (by omega)).trans (rfl))).trans rfl
theorem i_Law_1085 : opAt m_Law 1085 = sCm .ne 1104 1088 := (opAt_of (M := m_Law) (i := .if_icmp .ne 19) (n := 3) ((TL_Law_9 1085 (by omega)).trans (rfl))).trans rfl
theorem i_Law_1088 : opAt m_Law 1088 = sAld 1 1089 := (opAt_of (M := m_Law) (i := .aload_n 1) (n := 1) ((TL_Law_9 1088 (by omega)).trans (rfl))).trans rfl
theorem i_Law_1089 : opAt m_Law 1089 = sPush (.int (Int32.ofInt 0)) 1090 := (opAt_of (M := m_Law) (i := .iconst 0) (n := 1) ((TL_Law_9 1089 (by omega)).trans (rfl))).trans rfl
theorem i_Law_1090 : opAt m_Law 1090 = sPush (.int (Int32.ofInt 0)) 1091 := (opAt_of (M := m_Law) (i := .iconst 0) (n := 1) ((TL_Law_9 1090 (by omega)).trans (rfl))).trans rfl
theorem i_Law_1091 : opAt m_Law 1091 = sPush (.int (Int32.ofInt 3)) 1092 := (opAt_of (M := m_Law) (i := .iconst 3) (n := 1) ((TL_Law_9 1091 (by omega)).trans (rfl))).trans rfl
theorem i_Law_1092 : opAt m_Law 1092 = sVir [(10, m_Fi_picture)] 0 3 1095 := (opAt_of (M := m_Law) (i := .invokevirtual 45) (n := 3) ((TL_Law_9 1092 (by omega)).trans (rfl))).trans rfl
theorem i_Law_1095 : opAt m_Law 1095 = sPush (.int (Int8.ofInt (-102)).toInt32) 1097 := (opAt_of (M := m_Law) (i := .bipush (-102)) (n := 2) ((TL_Law_9 1095 (by omega)).trans (rfl))).trans rfl
theorem i_Law_1097 : opAt m_Law 1097 = sCm .ne 1104 1100 := (opAt_of (M := m_Law) (i := .if_icmp .ne 7) (n := 3) ((TL_Law_9 1097 (by omega)).trans (rfl))).trans rfl
theorem i_Law_1100 : opAt m_Law 1100 = sPush (.int (Int32.ofInt 1)) 1101 := (opAt_of (M := m_Law) (i := .iconst 1) (n := 1) ((TL_Law_9 1100 (by omega)).trans (rfl))).trans rfl
theorem i_Law_1101 : opAt m_Law 1101 = sGo 1105 := (opAt_of (M := m_Law) (i := .goto 4) (n := 3) ((TL_Law_9 1101 (by omega)).trans (rfl))).trans rfl
theorem i_Law_1104 : opAt m_Law 1104 = sPush (.int (Int32.ofInt 0)) 1105 := (opAt_of (M := m_Law) (i := .iconst 0) (n := 1) ((TL_Law_9 1104 (by omega)).trans (rfl))).trans rfl
theorem i_Law_1105 : opAt m_Law 1105 = sIret .boolean := (opAt_of (M := m_Law) (i := .ireturn) (n := 1) ((TL_Law_9 1105 (by omega)).trans (rfl))).trans rfl
