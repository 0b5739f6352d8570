/-! THE LAW: each instruction as a step -/
theorem lk_app {α : Type} {B : List (Nat × α)} {k : Nat} : ∀ {A : List (Nat × α)}, A.lookup k = none → (A ++ B).lookup k = B.lookup k
  | [], _ => rfl
  | (a, v) :: A, h => by
    rw [List.lookup_cons] at h
    show List.lookup k ((a, v) :: (A ++ B)) = _
    rw [List.lookup_cons]
    cases c : k == a with
    | true => rw [c] at h; cases h
    | false => rw [c] at h; exact lk_app h
theorem lk_none {α : Type} {k : Nat} (hi : Nat) (hk : hi ≤ k) : ∀ {A : List (Nat × α)}, A.all (fun q => decide (q.1 < hi)) = true → A.lookup k = none
  | [], _ => rfl
  | (a, v) :: A, h => by
    rw [List.all_cons, Bool.and_eq_true] at h
    have h1 : a < hi := of_decide_eq_true h.1
    rw [List.lookup_cons]
    have c : (k == a) = false := by
      rw [beq_eq_false_iff_ne]
      omega
    rw [c]
    exact lk_none hi hk h.2
theorem lk_head {α : Type} {B : List (Nat × α)} {k : Nat} {v : α} : ∀ {A : List (Nat × α)}, A.lookup k = some v → (A ++ B).lookup k = some v
  | [], h => by cases h
  | (a, w) :: A, h => by
    rw [List.lookup_cons] at h
    show List.lookup k ((a, w) :: (A ++ B)) = _
    rw [List.lookup_cons]
    cases c : k == a with
    | true => rw [c] at h; exact h
    | false => rw [c] at h; exact lk_head h
theorem opAt_of {M : MR} {pc : Nat} {i : Instr} {n : Nat} (h : (mT M).lookup pc = some (i, n)) : opAt M pc = tr M pc i := by
  unfold opAt
  rw [h]
theorem al_Law_0 : t_Law_0.all (fun q => decide (q.1 < 216)) = true := by decide +kernel
theorem al_Law_1 : t_Law_1.all (fun q => decide (q.1 < 302)) = true := by decide +kernel
theorem al_Law_2 : t_Law_2.all (fun q => decide (q.1 < 374)) = true := by decide +kernel
theorem al_Law_3 : t_Law_3.all (fun q => decide (q.1 < 450)) = true := by decide +kernel
theorem al_Law_4 : t_Law_4.all (fun q => decide (q.1 < 520)) = true := by decide +kernel
theorem al_Law_5 : t_Law_5.all (fun q => decide (q.1 < 600)) = true := by decide +kernel
theorem al_Law_6 : t_Law_6.all (fun q => decide (q.1 < 668)) = true := by decide +kernel
theorem al_Law_7 : t_Law_7.all (fun q => decide (q.1 < 734)) = true := by decide +kernel
theorem al_Law_8 : t_Law_8.all (fun q => decide (q.1 < 801)) = true := by decide +kernel
theorem al_Law_9 : t_Law_9.all (fun q => decide (q.1 < 876)) = true := by decide +kernel
theorem al_Law_10 : t_Law_10.all (fun q => decide (q.1 < 948)) = true := by decide +kernel
theorem al_Law_11 : t_Law_11.all (fun q => decide (q.1 < 1026)) = true := by decide +kernel
theorem al_Law_12 : t_Law_12.all (fun q => decide (q.1 < 1096)) = true := by decide +kernel
theorem al_Law_13 : t_Law_13.all (fun q => decide (q.1 < 1164)) = true := by decide +kernel
theorem al_Law_14 : t_Law_14.all (fun q => decide (q.1 < 1258)) = true := by decide +kernel
theorem TL_0 (pc : Nat) : t_Law.lookup pc = (t_Law_0 ++ (t_Law_1 ++ (t_Law_2 ++ (t_Law_3 ++ (t_Law_4 ++ (t_Law_5 ++ (t_Law_6 ++ (t_Law_7 ++ (t_Law_8 ++ (t_Law_9 ++ (t_Law_10 ++ (t_Law_11 ++ (t_Law_12 ++ (t_Law_13 ++ (t_Law_14 ++ t_Law_15))))))))))))))).lookup pc := rfl
theorem TL_1 (pc : Nat) (h : 216 ≤ pc) : t_Law.lookup pc = (t_Law_1 ++ (t_Law_2 ++ (t_Law_3 ++ (t_Law_4 ++ (t_Law_5 ++ (t_Law_6 ++ (t_Law_7 ++ (t_Law_8 ++ (t_Law_9 ++ (t_Law_10 ++ (t_Law_11 ++ (t_Law_12 ++ (t_Law_13 ++ (t_Law_14 ++ t_Law_15)))))))))))))).lookup pc := (TL_0 pc).trans (lk_app (lk_none 216 h al_Law_0))
theorem TL_2 (pc : Nat) (h : 302 ≤ pc) : t_Law.lookup pc = (t_Law_2 ++ (t_Law_3 ++ (t_Law_4 ++ (t_Law_5 ++ (t_Law_6 ++ (t_Law_7 ++ (t_Law_8 ++ (t_Law_9 ++ (t_Law_10 ++ (t_Law_11 ++ (t_Law_12 ++ (t_Law_13 ++ (t_Law_14 ++ t_Law_15))))))))))))).lookup pc := (TL_1 pc (by omega)).trans (lk_app (lk_none 302 h al_Law_1))
theorem TL_3 (pc : Nat) (h : 374 ≤ pc) : t_Law.lookup pc = (t_Law_3 ++ (t_Law_4 ++ (t_Law_5 ++ (t_Law_6 ++ (t_Law_7 ++ (t_Law_8 ++ (t_Law_9 ++ (t_Law_10 ++ (t_Law_11 ++ (t_Law_12 ++ (t_Law_13 ++ (t_Law_14 ++ t_Law_15)))))))))))).lookup pc := (TL_2 pc (by omega)).trans (lk_app (lk_none 374 h al_Law_2))
theorem TL_4 (pc : Nat) (h : 450 ≤ pc) : t_Law.lookup pc = (t_Law_4 ++ (t_Law_5 ++ (t_Law_6 ++ (t_Law_7 ++ (t_Law_8 ++ (t_Law_9 ++ (t_Law_10 ++ (t_Law_11 ++ (t_Law_12 ++ (t_Law_13 ++ (t_Law_14 ++ t_Law_15))))))))))).lookup pc := (TL_3 pc (by omega)).trans (lk_app (lk_none 450 h al_Law_3))
theorem TL_5 (pc : Nat) (h : 520 ≤ pc) : t_Law.lookup pc = (t_Law_5 ++ (t_Law_6 ++ (t_Law_7 ++ (t_Law_8 ++ (t_Law_9 ++ (t_Law_10 ++ (t_Law_11 ++ (t_Law_12 ++ (t_Law_13 ++ (t_Law_14 ++ t_Law_15)))))))))).lookup pc := (TL_4 pc (by omega)).trans (lk_app (lk_none 520 h al_Law_4))
theorem TL_6 (pc : Nat) (h : 600 ≤ pc) : t_Law.lookup pc = (t_Law_6 ++ (t_Law_7 ++ (t_Law_8 ++ (t_Law_9 ++ (t_Law_10 ++ (t_Law_11 ++ (t_Law_12 ++ (t_Law_13 ++ (t_Law_14 ++ t_Law_15))))))))).lookup pc := (TL_5 pc (by omega)).trans (lk_app (lk_none 600 h al_Law_5))
theorem TL_7 (pc : Nat) (h : 668 ≤ pc) : t_Law.lookup pc = (t_Law_7 ++ (t_Law_8 ++ (t_Law_9 ++ (t_Law_10 ++ (t_Law_11 ++ (t_Law_12 ++ (t_Law_13 ++ (t_Law_14 ++ t_Law_15)))))))).lookup pc := (TL_6 pc (by omega)).trans (lk_app (lk_none 668 h al_Law_6))
theorem TL_8 (pc : Nat) (h : 734 ≤ pc) : t_Law.lookup pc = (t_Law_8 ++ (t_Law_9 ++ (t_Law_10 ++ (t_Law_11 ++ (t_Law_12 ++ (t_Law_13 ++ (t_Law_14 ++ t_Law_15))))))).lookup pc := (TL_7 pc (by omega)).trans (lk_app (lk_none 734 h al_Law_7))
theorem TL_9 (pc : Nat) (h : 801 ≤ pc) : t_Law.lookup pc = (t_Law_9 ++ (t_Law_10 ++ (t_Law_11 ++ (t_Law_12 ++ (t_Law_13 ++ (t_Law_14 ++ t_Law_15)))))).lookup pc := (TL_8 pc (by omega)).trans (lk_app (lk_none 801 h al_Law_8))
theorem TL_10 (pc : Nat) (h : 876 ≤ pc) : t_Law.lookup pc = (t_Law_10 ++ (t_Law_11 ++ (t_Law_12 ++ (t_Law_13 ++ (t_Law_14 ++ t_Law_15))))).lookup pc := (TL_9 pc (by omega)).trans (lk_app (lk_none 876 h al_Law_9))
theorem TL_11 (pc : Nat) (h : 948 ≤ pc) : t_Law.lookup pc = (t_Law_11 ++ (t_Law_12 ++ (t_Law_13 ++ (t_Law_14 ++ t_Law_15)))).lookup pc := (TL_10 pc (by omega)).trans (lk_app (lk_none 948 h al_Law_10))
theorem TL_12 (pc : Nat) (h : 1026 ≤ pc) : t_Law.lookup pc = (t_Law_12 ++ (t_Law_13 ++ (t_Law_14 ++ t_Law_15))).lookup pc := (TL_11 pc (by omega)).trans (lk_app (lk_none 1026 h al_Law_11))
theorem TL_13 (pc : Nat) (h : 1096 ≤ pc) : t_Law.lookup pc = (t_Law_13 ++ (t_Law_14 ++ t_Law_15)).lookup pc := (TL_12 pc (by omega)).trans (lk_app (lk_none 1096 h al_Law_12))
theorem TL_14 (pc : Nat) (h : 1164 ≤ pc) : t_Law.lookup pc = (t_Law_14 ++ t_Law_15).lookup pc := (TL_13 pc (by omega)).trans (lk_app (lk_none 1164 h al_Law_13))
theorem TL_15 (pc : Nat) (h : 1258 ≤ pc) : t_Law.lookup pc = (t_Law_15).lookup pc := (TL_14 pc (by omega)).trans (lk_app (lk_none 1258 h al_Law_14))
theorem i_Law_0 : opAt m_Law 0 = sNew 10 [.null, .null, .int 0, .null, .null, .int 0, .null, .null, .int 0] 3 := (opAt_of (M := m_Law) (i := .new 7) (n := 3) ((TL_0 0).trans (lk_head rfl))).trans rfl
theorem i_Law_3 : opAt m_Law 3 = sDup 4 := (opAt_of (M := m_Law) (i := .dup) (n := 1) ((TL_0 3).trans (lk_head rfl))).trans rfl
theorem i_Law_4 : opAt m_Law 4 = sSpe m_Fi_init 137 0 7 := (opAt_of (M := m_Law) (i := .invokespecial 9) (n := 3) ((TL_0 4).trans (lk_head rfl))).trans rfl
theorem i_Law_7 : opAt m_Law 7 = sAst 1 8 := (opAt_of (M := m_Law) (i := .astore_n 1) (n := 1) ((TL_0 7).trans (lk_head rfl))).trans rfl
theorem i_Law_8 : opAt m_Law 8 = sNew 11 [.null, .int 0, .int 0, .int 0, .int 0, .int 0, .int 0, .int 0, .null, .int 0, .null, .null, .int 0, .null, .null, .null, .null, .null, .int 0, .null, .int 0, .null, .null, .null, .null, .null, .int 0, .int 0, .null, .null, .null, .null, .null, .long 0] 11 := (opAt_of (M := m_Law) (i := .new 10) (n := 3) ((TL_0 8).trans (lk_head rfl))).trans rfl
theorem i_Law_11 : opAt m_Law 11 = sDup 12 := (opAt_of (M := m_Law) (i := .dup) (n := 1) ((TL_0 11).trans (lk_head rfl))).trans rfl
theorem i_Law_12 : opAt m_Law 12 = sSpe m_Mo_init 20 0 15 := (opAt_of (M := m_Law) (i := .invokespecial 12) (n := 3) ((TL_0 12).trans (lk_head rfl))).trans rfl
theorem i_Law_15 : opAt m_Law 15 = sAst 2 16 := (opAt_of (M := m_Law) (i := .astore_n 2) (n := 1) ((TL_0 15).trans (lk_head rfl))).trans rfl
theorem i_Law_16 : opAt m_Law 16 = sPush (.int (Int32.ofInt 0)) 17 := (opAt_of (M := m_Law) (i := .iconst 0) (n := 1) ((TL_0 16).trans (lk_head rfl))).trans rfl
theorem i_Law_17 : opAt m_Law 17 = sIst 3 18 := (opAt_of (M := m_Law) (i := .istore_n 3) (n := 1) ((TL_0 17).trans (lk_head rfl))).trans rfl
theorem i_Law_18 : opAt m_Law 18 = sIld 3 19 := (opAt_of (M := m_Law) (i := .iload_n 3) (n := 1) ((TL_0 18).trans (lk_head rfl))).trans rfl
theorem i_Law_19 : opAt m_Law 19 = sAld 0 20 := (opAt_of (M := m_Law) (i := .aload_n 0) (n := 1) ((TL_0 19).trans (lk_head rfl))).trans rfl
theorem i_Law_20 : opAt m_Law 20 = sLen 21 := (opAt_of (M := m_Law) (i := .arraylength) (n := 1) ((TL_0 20).trans (lk_head rfl))).trans rfl
theorem i_Law_21 : opAt m_Law 21 = sPush (.int (Int8.ofInt 7).toInt32) 23 := (opAt_of (M := m_Law) (i := .bipush 7) (n := 2) ((TL_0 21).trans (lk_head rfl))).trans rfl
theorem i_Law_23 : opAt m_Law 23 = sBI (fun x y => x - y) 24 := (opAt_of (M := m_Law) (i := .isub) (n := 1) ((TL_0 23).trans (lk_head rfl))).trans rfl
theorem i_Law_24 : opAt m_Law 24 = sCm .gt 1266 27 := (opAt_of (M := m_Law) (i := .if_icmp .gt 1242) (n := 3) ((TL_0 24).trans (lk_head rfl))).trans rfl
theorem i_Law_27 : opAt m_Law 27 = sAld 0 28 := (opAt_of (M := m_Law) (i := .aload_n 0) (n := 1) ((TL_0 27).trans (lk_head rfl))).trans rfl
theorem i_Law_28 : opAt m_Law 28 = sIld 3 29 := (opAt_of (M := m_Law) (i := .iload_n 3) (n := 1) ((TL_0 28).trans (lk_head rfl))).trans rfl
theorem i_Law_29 : opAt m_Law 29 = sIal 30 := (opAt_of (M := m_Law) (i := .iaload) (n := 1) ((TL_0 29).trans (lk_head rfl))).trans rfl
theorem i_Law_30 : opAt m_Law 30 = sPush (.int (Int8.ofInt 31).toInt32) 32 := (opAt_of (M := m_Law) (i := .bipush 31) (n := 2) ((TL_0 30).trans (lk_head rfl))).trans rfl
theorem i_Law_32 : opAt m_Law 32 = sBI (fun x y => x &&& y) 33 := (opAt_of (M := m_Law) (i := .iand) (n := 1) ((TL_0 32).trans (lk_head rfl))).trans rfl
theorem i_Law_33 : opAt m_Law 33 = sSw [(0, 168), (1, 221), (2, 234), (3, 247), (4, 260), (5, 303), (6, 346), (7, 369), (8, 428), (9, 471), (10, 494), (11, 573), (12, 596), (13, 639), (14, 702), (15, 745), (16, 821), (17, 844), (18, 923), (19, 956), (20, 969), (21, 1002), (22, 1055), (23, 1098), (24, 1131), (25, 1174), (26, 1197), (27, 1210), (28, 1223), (29, 1246)] 1260 := (opAt_of (M := m_Law) (i := .tableswitch 1227 0 29 #[135, 188, 201, 214, 227, 270, 313, 336, 395, 438, 461, 540, 563, 606, 669, 712, 788, 811, 890, 923, 936, 969, 1022, 1065, 1098, 1141, 1164, 1177, 1190, 1213]) (n := 135) ((TL_0 33).trans (lk_head rfl))).trans rfl
theorem i_Law_168 : opAt m_Law 168 = sAld 1 169 := (opAt_of (M := m_Law) (i := .aload_n 1) (n := 1) ((TL_0 168).trans (lk_head rfl))).trans rfl
theorem i_Law_169 : opAt m_Law 169 = sAld 0 170 := (opAt_of (M := m_Law) (i := .aload_n 0) (n := 1) ((TL_0 169).trans (lk_head rfl))).trans rfl
theorem i_Law_170 : opAt m_Law 170 = sIld 3 171 := (opAt_of (M := m_Law) (i := .iload_n 3) (n := 1) ((TL_0 170).trans (lk_head rfl))).trans rfl
theorem i_Law_171 : opAt m_Law 171 = sPush (.int (Int32.ofInt 1)) 172 := (opAt_of (M := m_Law) (i := .iconst 1) (n := 1) ((TL_0 171).trans (lk_head rfl))).trans rfl
theorem i_Law_172 : opAt m_Law 172 = sBI (fun x y => x + y) 173 := (opAt_of (M := m_Law) (i := .iadd) (n := 1) ((TL_0 172).trans (lk_head rfl))).trans rfl
theorem i_Law_173 : opAt m_Law 173 = sIal 174 := (opAt_of (M := m_Law) (i := .iaload) (n := 1) ((TL_0 173).trans (lk_head rfl))).trans rfl
theorem i_Law_174 : opAt m_Law 174 = sIL 175 := (opAt_of (M := m_Law) (i := .i2l) (n := 1) ((TL_0 174).trans (lk_head rfl))).trans rfl
theorem i_Law_175 : opAt m_Law 175 = sPush (.int (Int8.ofInt 32).toInt32) 177 := (opAt_of (M := m_Law) (i := .bipush 32) (n := 2) ((TL_0 175).trans (lk_head rfl))).trans rfl
theorem i_Law_177 : opAt m_Law 177 = sSL (fun x y => x <<< (y.toInt64 &&& 63)) 178 := (opAt_of (M := m_Law) (i := .lshl) (n := 1) ((TL_0 177).trans (lk_head rfl))).trans rfl
theorem i_Law_178 : opAt m_Law 178 = sAld 0 179 := (opAt_of (M := m_Law) (i := .aload_n 0) (n := 1) ((TL_0 178).trans (lk_head rfl))).trans rfl
theorem i_Law_179 : opAt m_Law 179 = sIld 3 180 := (opAt_of (M := m_Law) (i := .iload_n 3) (n := 1) ((TL_0 179).trans (lk_head rfl))).trans rfl
theorem i_Law_180 : opAt m_Law 180 = sPush (.int (Int32.ofInt 2)) 181 := (opAt_of (M := m_Law) (i := .iconst 2) (n := 1) ((TL_0 180).trans (lk_head rfl))).trans rfl
theorem i_Law_181 : opAt m_Law 181 = sBI (fun x y => x + y) 182 := (opAt_of (M := m_Law) (i := .iadd) (n := 1) ((TL_0 181).trans (lk_head rfl))).trans rfl
theorem i_Law_182 : opAt m_Law 182 = sIal 183 := (opAt_of (M := m_Law) (i := .iaload) (n := 1) ((TL_0 182).trans (lk_head rfl))).trans rfl
theorem i_Law_183 : opAt m_Law 183 = sIL 184 := (opAt_of (M := m_Law) (i := .i2l) (n := 1) ((TL_0 183).trans (lk_head rfl))).trans rfl
theorem i_Law_184 : opAt m_Law 184 = sPush (.long (4294967295)) 187 := (opAt_of (M := m_Law) (i := .ldc2_w 13) (n := 3) ((TL_0 184).trans (lk_head rfl))).trans rfl
theorem i_Law_187 : opAt m_Law 187 = sBL (fun x y => x &&& y) 188 := (opAt_of (M := m_Law) (i := .land) (n := 1) ((TL_0 187).trans (lk_head rfl))).trans rfl
theorem i_Law_188 : opAt m_Law 188 = sBL (fun x y => x ||| y) 189 := (opAt_of (M := m_Law) (i := .lor) (n := 1) ((TL_0 188).trans (lk_head rfl))).trans rfl
theorem i_Law_189 : opAt m_Law 189 = sVir [(10, m_Fi_letters)] 0 1 192 := (opAt_of (M := m_Law) (i := .invokevirtual 15) (n := 3) ((TL_0 189).trans (lk_head rfl))).trans rfl
theorem i_Law_192 : opAt m_Law 192 = sAld 2 193 := (opAt_of (M := m_Law) (i := .aload_n 2) (n := 1) ((TL_0 192).trans (lk_head rfl))).trans rfl
theorem i_Law_193 : opAt m_Law 193 = sAld 0 194 := (opAt_of (M := m_Law) (i := .aload_n 0) (n := 1) ((TL_0 193).trans (lk_head rfl))).trans rfl
theorem i_Law_194 : opAt m_Law 194 = sIld 3 195 := (opAt_of (M := m_Law) (i := .iload_n 3) (n := 1) ((TL_0 194).trans (lk_head rfl))).trans rfl
theorem i_Law_195 : opAt m_Law 195 = sPush (.int (Int32.ofInt 1)) 196 := (opAt_of (M := m_Law) (i := .iconst 1) (n := 1) ((TL_0 195).trans (lk_head rfl))).trans rfl
theorem i_Law_196 : opAt m_Law 196 = sBI (fun x y => x + y) 197 := (opAt_of (M := m_Law) (i := .iadd) (n := 1) ((TL_0 196).trans (lk_head rfl))).trans rfl
theorem i_Law_197 : opAt m_Law 197 = sIal 198 := (opAt_of (M := m_Law) (i := .iaload) (n := 1) ((TL_0 197).trans (lk_head rfl))).trans rfl
theorem i_Law_198 : opAt m_Law 198 = sIL 199 := (opAt_of (M := m_Law) (i := .i2l) (n := 1) ((TL_0 198).trans (lk_head rfl))).trans rfl
theorem i_Law_199 : opAt m_Law 199 = sPush (.int (Int8.ofInt 32).toInt32) 201 := (opAt_of (M := m_Law) (i := .bipush 32) (n := 2) ((TL_0 199).trans (lk_head rfl))).trans rfl
theorem i_Law_201 : opAt m_Law 201 = sSL (fun x y => x <<< (y.toInt64 &&& 63)) 202 := (opAt_of (M := m_Law) (i := .lshl) (n := 1) ((TL_0 201).trans (lk_head rfl))).trans rfl
theorem i_Law_202 : opAt m_Law 202 = sAld 0 203 := (opAt_of (M := m_Law) (i := .aload_n 0) (n := 1) ((TL_0 202).trans (lk_head rfl))).trans rfl
theorem i_Law_203 : opAt m_Law 203 = sIld 3 204 := (opAt_of (M := m_Law) (i := .iload_n 3) (n := 1) ((TL_0 203).trans (lk_head rfl))).trans rfl
theorem i_Law_204 : opAt m_Law 204 = sPush (.int (Int32.ofInt 2)) 205 := (opAt_of (M := m_Law) (i := .iconst 2) (n := 1) ((TL_0 204).trans (lk_head rfl))).trans rfl
theorem i_Law_205 : opAt m_Law 205 = sBI (fun x y => x + y) 206 := (opAt_of (M := m_Law) (i := .iadd) (n := 1) ((TL_0 205).trans (lk_head rfl))).trans rfl
theorem i_Law_206 : opAt m_Law 206 = sIal 207 := (opAt_of (M := m_Law) (i := .iaload) (n := 1) ((TL_0 206).trans (lk_head rfl))).trans rfl
theorem i_Law_207 : opAt m_Law 207 = sIL 208 := (opAt_of (M := m_Law) (i := .i2l) (n := 1) ((TL_0 207).trans (lk_head rfl))).trans rfl
theorem i_Law_208 : opAt m_Law 208 = sPush (.long (4294967295)) 211 := (opAt_of (M := m_Law) (i := .ldc2_w 13) (n := 3) ((TL_0 208).trans (lk_head rfl))).trans rfl
theorem i_Law_211 : opAt m_Law 211 = sBL (fun x y => x &&& y) 212 := (opAt_of (M := m_Law) (i := .land) (n := 1) ((TL_0 211).trans (lk_head rfl))).trans rfl
theorem i_Law_212 : opAt m_Law 212 = sBL (fun x y => x ||| y) 213 := (opAt_of (M := m_Law) (i := .lor) (n := 1) ((TL_0 212).trans (lk_head rfl))).trans rfl
theorem i_Law_213 : opAt m_Law 213 = sVir [(11, m_Mo_letters)] 0 1 216 := (opAt_of (M := m_Law) (i := .invokevirtual 19) (n := 3) ((TL_0 213).trans (lk_head rfl))).trans rfl
theorem i_Law_216 : opAt m_Law 216 = sCm .eq 1260 219 := (opAt_of (M := m_Law) (i := .if_icmp .eq 1044) (n := 3) ((TL_1 216 (by omega)).trans (lk_head rfl))).trans rfl
theorem i_Law_219 : opAt m_Law 219 = sPush (.int (Int32.ofInt 0)) 220 := (opAt_of (M := m_Law) (i := .iconst 0) (n := 1) ((TL_1 219 (by omega)).trans (lk_head rfl))).trans rfl
theorem i_Law_220 : opAt m_Law 220 = sIret .boolean := (opAt_of (M := m_Law) (i := .ireturn) (n := 1) ((TL_1 220 (by omega)).trans (lk_head rfl))).trans rfl
theorem i_Law_221 : opAt m_Law 221 = sAld 1 222 := (opAt_of (M := m_Law) (i := .aload_n 1) (n := 1) ((TL_1 221 (by omega)).trans (lk_head rfl))).trans rfl
theorem i_Law_222 : opAt m_Law 222 = sVir [(10, m_Fi_blank)] 0 0 225 := (opAt_of (M := m_Law) (i := .invokevirtual 20) (n := 3) ((TL_1 222 (by omega)).trans (lk_head rfl))).trans rfl
theorem i_Law_225 : opAt m_Law 225 = sAld 2 226 := (opAt_of (M := m_Law) (i := .aload_n 2) (n := 1) ((TL_1 225 (by omega)).trans (lk_head rfl))).trans rfl
theorem i_Law_226 : opAt m_Law 226 = sVir [(11, m_Mo_blank)] 0 0 229 := (opAt_of (M := m_Law) (i := .invokevirtual 24) (n := 3) ((TL_1 226 (by omega)).trans (lk_head rfl))).trans rfl
theorem i_Law_229 : opAt m_Law 229 = sCm .eq 1260 232 := (opAt_of (M := m_Law) (i := .if_icmp .eq 1031) (n := 3) ((TL_1 229 (by omega)).trans (lk_head rfl))).trans rfl
theorem i_Law_232 : opAt m_Law 232 = sPush (.int (Int32.ofInt 0)) 233 := (opAt_of (M := m_Law) (i := .iconst 0) (n := 1) ((TL_1 232 (by omega)).trans (lk_head rfl))).trans rfl
theorem i_Law_233 : opAt m_Law 233 = sIret .boolean := (opAt_of (M := m_Law) (i := .ireturn) (n := 1) ((TL_1 233 (by omega)).trans (lk_head rfl))).trans rfl
theorem i_Law_234 : opAt m_Law 234 = sAld 1 235 := (opAt_of (M := m_Law) (i := .aload_n 1) (n := 1) ((TL_1 234 (by omega)).trans (lk_head rfl))).trans rfl
theorem i_Law_235 : opAt m_Law 235 = sVir [(10, m_Fi_fault)] 0 0 238 := (opAt_of (M := m_Law) (i := .invokevirtual 25) (n := 3) ((TL_1 235 (by omega)).trans (lk_head rfl))).trans rfl
theorem i_Law_238 : opAt m_Law 238 = sAld 2 239 := (opAt_of (M := m_Law) (i := .aload_n 2) (n := 1) ((TL_1 238 (by omega)).trans (lk_head rfl))).trans rfl
theorem i_Law_239 : opAt m_Law 239 = sVir [(11, m_Mo_fault)] 0 0 242 := (opAt_of (M := m_Law) (i := .invokevirtual 28) (n := 3) ((TL_1 239 (by omega)).trans (lk_head rfl))).trans rfl
theorem i_Law_242 : opAt m_Law 242 = sCm .eq 1260 245 := (opAt_of (M := m_Law) (i := .if_icmp .eq 1018) (n := 3) ((TL_1 242 (by omega)).trans (lk_head rfl))).trans rfl
theorem i_Law_245 : opAt m_Law 245 = sPush (.int (Int32.ofInt 0)) 246 := (opAt_of (M := m_Law) (i := .iconst 0) (n := 1) ((TL_1 245 (by omega)).trans (lk_head rfl))).trans rfl
theorem i_Law_246 : opAt m_Law 246 = sIret .boolean := (opAt_of (M := m_Law) (i := .ireturn) (n := 1) ((TL_1 246 (by omega)).trans (lk_head rfl))).trans rfl
theorem i_Law_247 : opAt m_Law 247 = sAld 1 248 := (opAt_of (M := m_Law) (i := .aload_n 1) (n := 1) ((TL_1 247 (by omega)).trans (lk_head rfl))).trans rfl
theorem i_Law_248 : opAt m_Law 248 = sVir [(10, m_Fi_machine)] 6 0 251 := (opAt_of (M := m_Law) (i := .invokevirtual 29) (n := 3) ((TL_1 248 (by omega)).trans (lk_head rfl))).trans rfl
theorem i_Law_251 : opAt m_Law 251 = sAld 2 252 := (opAt_of (M := m_Law) (i := .aload_n 2) (n := 1) ((TL_1 251 (by omega)).trans (lk_head rfl))).trans rfl
theorem i_Law_252 : opAt m_Law 252 = sVir [(11, m_Mo_machine)] 0 0 255 := (opAt_of (M := m_Law) (i := .invokevirtual 32) (n := 3) ((TL_1 252 (by omega)).trans (lk_head rfl))).trans rfl
theorem i_Law_255 : opAt m_Law 255 = sCm .eq 1260 258 := (opAt_of (M := m_Law) (i := .if_icmp .eq 1005) (n := 3) ((TL_1 255 (by omega)).trans (lk_head rfl))).trans rfl
theorem i_Law_258 : opAt m_Law 258 = sPush (.int (Int32.ofInt 0)) 259 := (opAt_of (M := m_Law) (i := .iconst 0) (n := 1) ((TL_1 258 (by omega)).trans (lk_head rfl))).trans rfl
theorem i_Law_259 : opAt m_Law 259 = sIret .boolean := (opAt_of (M := m_Law) (i := .ireturn) (n := 1) ((TL_1 259 (by omega)).trans (lk_head rfl))).trans rfl
theorem i_Law_260 : opAt m_Law 260 = sAld 1 261 := (opAt_of (M := m_Law) (i := .aload_n 1) (n := 1) ((TL_1 260 (by omega)).trans (lk_head rfl))).trans rfl
theorem i_Law_261 : opAt m_Law 261 = sAld 0 262 := (opAt_of (M := m_Law) (i := .aload_n 0) (n := 1) ((TL_1 261 (by omega)).trans (lk_head rfl))).trans rfl
theorem i_Law_262 : opAt m_Law 262 = sIld 3 263 := (opAt_of (M := m_Law) (i := .iload_n 3) (n := 1) ((TL_1 262 (by omega)).trans (lk_head rfl))).trans rfl
theorem i_Law_263 : opAt m_Law 263 = sPush (.int (Int32.ofInt 1)) 264 := (opAt_of (M := m_Law) (i := .iconst 1) (n := 1) ((TL_1 263 (by omega)).trans (lk_head rfl))).trans rfl
theorem i_Law_264 : opAt m_Law 264 = sBI (fun x y => x + y) 265 := (opAt_of (M := m_Law) (i := .iadd) (n := 1) ((TL_1 264 (by omega)).trans (lk_head rfl))).trans rfl
theorem i_Law_265 : opAt m_Law 265 = sIal 266 := (opAt_of (M := m_Law) (i := .iaload) (n := 1) ((TL_1 265 (by omega)).trans (lk_head rfl))).trans rfl
theorem i_Law_266 : opAt m_Law 266 = sAld 0 267 := (opAt_of (M := m_Law) (i := .aload_n 0) (n := 1) ((TL_1 266 (by omega)).trans (lk_head rfl))).trans rfl
theorem i_Law_267 : opAt m_Law 267 = sIld 3 268 := (opAt_of (M := m_Law) (i := .iload_n 3) (n := 1) ((TL_1 267 (by omega)).trans (lk_head rfl))).trans rfl
theorem i_Law_268 : opAt m_Law 268 = sPush (.int (Int32.ofInt 2)) 269 := (opAt_of (M := m_Law) (i := .iconst 2) (n := 1) ((TL_1 268 (by omega)).trans (lk_head rfl))).trans rfl
theorem i_Law_269 : opAt m_Law 269 = sBI (fun x y => x + y) 270 := (opAt_of (M := m_Law) (i := .iadd) (n := 1) ((TL_1 269 (by omega)).trans (lk_head rfl))).trans rfl
theorem i_Law_270 : opAt m_Law 270 = sIal 271 := (opAt_of (M := m_Law) (i := .iaload) (n := 1) ((TL_1 270 (by omega)).trans (lk_head rfl))).trans rfl
theorem i_Law_271 : opAt m_Law 271 = sAld 0 272 := (opAt_of (M := m_Law) (i := .aload_n 0) (n := 1) ((TL_1 271 (by omega)).trans (lk_head rfl))).trans rfl
theorem i_Law_272 : opAt m_Law 272 = sIld 3 273 := (opAt_of (M := m_Law) (i := .iload_n 3) (n := 1) ((TL_1 272 (by omega)).trans (lk_head rfl))).trans rfl
theorem i_Law_273 : opAt m_Law 273 = sPush (.int (Int32.ofInt 3)) 274 := (opAt_of (M := m_Law) (i := .iconst 3) (n := 1) ((TL_1 273 (by omega)).trans (lk_head rfl))).trans rfl
theorem i_Law_274 : opAt m_Law 274 = sBI (fun x y => x + y) 275 := (opAt_of (M := m_Law) (i := .iadd) (n := 1) ((TL_1 274 (by omega)).trans (lk_head rfl))).trans rfl
theorem i_Law_275 : opAt m_Law 275 = sIal 276 := (opAt_of (M := m_Law) (i := .iaload) (n := 1) ((TL_1 275 (by omega)).trans (lk_head rfl))).trans rfl
theorem i_Law_276 : opAt m_Law 276 = sVir [(10, m_Fi_part)] 0 3 279 := (opAt_of (M := m_Law) (i := .invokevirtual 33) (n := 3) ((TL_1 276 (by omega)).trans (lk_head rfl))).trans rfl
theorem i_Law_279 : opAt m_Law 279 = sAld 2 280 := (opAt_of (M := m_Law) (i := .aload_n 2) (n := 1) ((TL_1 279 (by omega)).trans (lk_head rfl))).trans rfl
theorem i_Law_280 : opAt m_Law 280 = sAld 0 281 := (opAt_of (M := m_Law) (i := .aload_n 0) (n := 1) ((TL_1 280 (by omega)).trans (lk_head rfl))).trans rfl
theorem i_Law_281 : opAt m_Law 281 = sIld 3 282 := (opAt_of (M := m_Law) (i := .iload_n 3) (n := 1) ((TL_1 281 (by omega)).trans (lk_head rfl))).trans rfl
theorem i_Law_282 : opAt m_Law 282 = sPush (.int (Int32.ofInt 1)) 283 := (opAt_of (M := m_Law) (i := .iconst 1) (n := 1) ((TL_1 282 (by omega)).trans (lk_head rfl))).trans rfl
theorem i_Law_283 : opAt m_Law 283 = sBI (fun x y => x + y) 284 := (opAt_of (M := m_Law) (i := .iadd) (n := 1) ((TL_1 283 (by omega)).trans (lk_head rfl))).trans rfl
theorem i_Law_284 : opAt m_Law 284 = sIal 285 := (opAt_of (M := m_Law) (i := .iaload) (n := 1) ((TL_1 284 (by omega)).trans (lk_head rfl))).trans rfl
theorem i_Law_285 : opAt m_Law 285 = sAld 0 286 := (opAt_of (M := m_Law) (i := .aload_n 0) (n := 1) ((TL_1 285 (by omega)).trans (lk_head rfl))).trans rfl
theorem i_Law_286 : opAt m_Law 286 = sIld 3 287 := (opAt_of (M := m_Law) (i := .iload_n 3) (n := 1) ((TL_1 286 (by omega)).trans (lk_head rfl))).trans rfl
theorem i_Law_287 : opAt m_Law 287 = sPush (.int (Int32.ofInt 2)) 288 := (opAt_of (M := m_Law) (i := .iconst 2) (n := 1) ((TL_1 287 (by omega)).trans (lk_head rfl))).trans rfl
theorem i_Law_288 : opAt m_Law 288 = sBI (fun x y => x + y) 289 := (opAt_of (M := m_Law) (i := .iadd) (n := 1) ((TL_1 288 (by omega)).trans (lk_head rfl))).trans rfl
theorem i_Law_289 : opAt m_Law 289 = sIal 290 := (opAt_of (M := m_Law) (i := .iaload) (n := 1) ((TL_1 289 (by omega)).trans (lk_head rfl))).trans rfl
theorem i_Law_290 : opAt m_Law 290 = sAld 0 291 := (opAt_of (M := m_Law) (i := .aload_n 0) (n := 1) ((TL_1 290 (by omega)).trans (lk_head rfl))).trans rfl
theorem i_Law_291 : opAt m_Law 291 = sIld 3 292 := (opAt_of (M := m_Law) (i := .iload_n 3) (n := 1) ((TL_1 291 (by omega)).trans (lk_head rfl))).trans rfl
theorem i_Law_292 : opAt m_Law 292 = sPush (.int (Int32.ofInt 3)) 293 := (opAt_of (M := m_Law) (i := .iconst 3) (n := 1) ((TL_1 292 (by omega)).trans (lk_head rfl))).trans rfl
theorem i_Law_293 : opAt m_Law 293 = sBI (fun x y => x + y) 294 := (opAt_of (M := m_Law) (i := .iadd) (n := 1) ((TL_1 293 (by omega)).trans (lk_head rfl))).trans rfl
theorem i_Law_294 : opAt m_Law 294 = sIal 295 := (opAt_of (M := m_Law) (i := .iaload) (n := 1) ((TL_1 294 (by omega)).trans (lk_head rfl))).trans rfl
theorem i_Law_295 : opAt m_Law 295 = sVir [(11, m_Mo_part)] 0 3 298 := (opAt_of (M := m_Law) (i := .invokevirtual 37) (n := 3) ((TL_1 295 (by omega)).trans (lk_head rfl))).trans rfl
theorem i_Law_298 : opAt m_Law 298 = sCm .eq 1260 301 := (opAt_of (M := m_Law) (i := .if_icmp .eq 962) (n := 3) ((TL_1 298 (by omega)).trans (lk_head rfl))).trans rfl
theorem i_Law_301 : opAt m_Law 301 = sPush (.int (Int32.ofInt 0)) 302 := (opAt_of (M := m_Law) (i := .iconst 0) (n := 1) ((TL_1 301 (by omega)).trans (lk_head rfl))).trans rfl
theorem i_Law_302 : opAt m_Law 302 = sIret .boolean := (opAt_of (M := m_Law) (i := .ireturn) (n := 1) ((TL_2 302 (by omega)).trans (lk_head rfl))).trans rfl
theorem i_Law_303 : opAt m_Law 303 = sAld 1 304 := (opAt_of (M := m_Law) (i := .aload_n 1) (n := 1) ((TL_2 303 (by omega)).trans (lk_head rfl))).trans rfl
theorem i_Law_304 : opAt m_Law 304 = sAld 0 305 := (opAt_of (M := m_Law) (i := .aload_n 0) (n := 1) ((TL_2 304 (by omega)).trans (lk_head rfl))).trans rfl
theorem i_Law_305 : opAt m_Law 305 = sIld 3 306 := (opAt_of (M := m_Law) (i := .iload_n 3) (n := 1) ((TL_2 305 (by omega)).trans (lk_head rfl))).trans rfl
theorem i_Law_306 : opAt m_Law 306 = sPush (.int (Int32.ofInt 1)) 307 := (opAt_of (M := m_Law) (i := .iconst 1) (n := 1) ((TL_2 306 (by omega)).trans (lk_head rfl))).trans rfl
theorem i_Law_307 : opAt m_Law 307 = sBI (fun x y => x + y) 308 := (opAt_of (M := m_Law) (i := .iadd) (n := 1) ((TL_2 307 (by omega)).trans (lk_head rfl))).trans rfl
theorem i_Law_308 : opAt m_Law 308 = sIal 309 := (opAt_of (M := m_Law) (i := .iaload) (n := 1) ((TL_2 308 (by omega)).trans (lk_head rfl))).trans rfl
theorem i_Law_309 : opAt m_Law 309 = sAld 0 310 := (opAt_of (M := m_Law) (i := .aload_n 0) (n := 1) ((TL_2 309 (by omega)).trans (lk_head rfl))).trans rfl
theorem i_Law_310 : opAt m_Law 310 = sIld 3 311 := (opAt_of (M := m_Law) (i := .iload_n 3) (n := 1) ((TL_2 310 (by omega)).trans (lk_head rfl))).trans rfl
theorem i_Law_311 : opAt m_Law 311 = sPush (.int (Int32.ofInt 2)) 312 := (opAt_of (M := m_Law) (i := .iconst 2) (n := 1) ((TL_2 311 (by omega)).trans (lk_head rfl))).trans rfl
theorem i_Law_312 : opAt m_Law 312 = sBI (fun x y => x + y) 313 := (opAt_of (M := m_Law) (i := .iadd) (n := 1) ((TL_2 312 (by omega)).trans (lk_head rfl))).trans rfl
theorem i_Law_313 : opAt m_Law 313 = sIal 314 := (opAt_of (M := m_Law) (i := .iaload) (n := 1) ((TL_2 313 (by omega)).trans (lk_head rfl))).trans rfl
theorem i_Law_314 : opAt m_Law 314 = sAld 0 315 := (opAt_of (M := m_Law) (i := .aload_n 0) (n := 1) ((TL_2 314 (by omega)).trans (lk_head rfl))).trans rfl
theorem i_Law_315 : opAt m_Law 315 = sIld 3 316 := (opAt_of (M := m_Law) (i := .iload_n 3) (n := 1) ((TL_2 315 (by omega)).trans (lk_head rfl))).trans rfl
theorem i_Law_316 : opAt m_Law 316 = sPush (.int (Int32.ofInt 3)) 317 := (opAt_of (M := m_Law) (i := .iconst 3) (n := 1) ((TL_2 316 (by omega)).trans (lk_head rfl))).trans rfl
theorem i_Law_317 : opAt m_Law 317 = sBI (fun x y => x + y) 318 := (opAt_of (M := m_Law) (i := .iadd) (n := 1) ((TL_2 317 (by omega)).trans (lk_head rfl))).trans rfl
theorem i_Law_318 : opAt m_Law 318 = sIal 319 := (opAt_of (M := m_Law) (i := .iaload) (n := 1) ((TL_2 318 (by omega)).trans (lk_head rfl))).trans rfl
theorem i_Law_319 : opAt m_Law 319 = sVir [(10, m_Fi_as)] 0 3 322 := (opAt_of (M := m_Law) (i := .invokevirtual 38) (n := 3) ((TL_2 319 (by omega)).trans (lk_head rfl))).trans rfl
theorem i_Law_322 : opAt m_Law 322 = sAld 2 323 := (opAt_of (M := m_Law) (i := .aload_n 2) (n := 1) ((TL_2 322 (by omega)).trans (lk_head rfl))).trans rfl
theorem i_Law_323 : opAt m_Law 323 = sAld 0 324 := (opAt_of (M := m_Law) (i := .aload_n 0) (n := 1) ((TL_2 323 (by omega)).trans (lk_head rfl))).trans rfl
theorem i_Law_324 : opAt m_Law 324 = sIld 3 325 := (opAt_of (M := m_Law) (i := .iload_n 3) (n := 1) ((TL_2 324 (by omega)).trans (lk_head rfl))).trans rfl
theorem i_Law_325 : opAt m_Law 325 = sPush (.int (Int32.ofInt 1)) 326 := (opAt_of (M := m_Law) (i := .iconst 1) (n := 1) ((TL_2 325 (by omega)).trans (lk_head rfl))).trans rfl
theorem i_Law_326 : opAt m_Law 326 = sBI (fun x y => x + y) 327 := (opAt_of (M := m_Law) (i := .iadd) (n := 1) ((TL_2 326 (by omega)).trans (lk_head rfl))).trans rfl
theorem i_Law_327 : opAt m_Law 327 = sIal 328 := (opAt_of (M := m_Law) (i := .iaload) (n := 1) ((TL_2 327 (by omega)).trans (lk_head rfl))).trans rfl
theorem i_Law_328 : opAt m_Law 328 = sAld 0 329 := (opAt_of (M := m_Law) (i := .aload_n 0) (n := 1) ((TL_2 328 (by omega)).trans (lk_head rfl))).trans rfl
theorem i_Law_329 : opAt m_Law 329 = sIld 3 330 := (opAt_of (M := m_Law) (i := .iload_n 3) (n := 1) ((TL_2 329 (by omega)).trans (lk_head rfl))).trans rfl
theorem i_Law_330 : opAt m_Law 330 = sPush (.int (Int32.ofInt 2)) 331 := (opAt_of (M := m_Law) (i := .iconst 2) (n := 1) ((TL_2 330 (by omega)).trans (lk_head rfl))).trans rfl
theorem i_Law_331 : opAt m_Law 331 = sBI (fun x y => x + y) 332 := (opAt_of (M := m_Law) (i := .iadd) (n := 1) ((TL_2 331 (by omega)).trans (lk_head rfl))).trans rfl
theorem i_Law_332 : opAt m_Law 332 = sIal 333 := (opAt_of (M := m_Law) (i := .iaload) (n := 1) ((TL_2 332 (by omega)).trans (lk_head rfl))).trans rfl
theorem i_Law_333 : opAt m_Law 333 = sAld 0 334 := (opAt_of (M := m_Law) (i := .aload_n 0) (n := 1) ((TL_2 333 (by omega)).trans (lk_head rfl))).trans rfl
theorem i_Law_334 : opAt m_Law 334 = sIld 3 335 := (opAt_of (M := m_Law) (i := .iload_n 3) (n := 1) ((TL_2 334 (by omega)).trans (lk_head rfl))).trans rfl
theorem i_Law_335 : opAt m_Law 335 = sPush (.int (Int32.ofInt 3)) 336 := (opAt_of (M := m_Law) (i := .iconst 3) (n := 1) ((TL_2 335 (by omega)).trans (lk_head rfl))).trans rfl
theorem i_Law_336 : opAt m_Law 336 = sBI (fun x y => x + y) 337 := (opAt_of (M := m_Law) (i := .iadd) (n := 1) ((TL_2 336 (by omega)).trans (lk_head rfl))).trans rfl
theorem i_Law_337 : opAt m_Law 337 = sIal 338 := (opAt_of (M := m_Law) (i := .iaload) (n := 1) ((TL_2 337 (by omega)).trans (lk_head rfl))).trans rfl
theorem i_Law_338 : opAt m_Law 338 = sVir [(11, m_Mo_as)] 0 3 341 := (opAt_of (M := m_Law) (i := .invokevirtual 41) (n := 3) ((TL_2 338 (by omega)).trans (lk_head rfl))).trans rfl
theorem i_Law_341 : opAt m_Law 341 = sCm .eq 1260 344 := (opAt_of (M := m_Law) (i := .if_icmp .eq 919) (n := 3) ((TL_2 341 (by omega)).trans (lk_head rfl))).trans rfl
theorem i_Law_344 : opAt m_Law 344 = sPush (.int (Int32.ofInt 0)) 345 := (opAt_of (M := m_Law) (i := .iconst 0) (n := 1) ((TL_2 344 (by omega)).trans (lk_head rfl))).trans rfl
theorem i_Law_345 : opAt m_Law 345 = sIret .boolean := (opAt_of (M := m_Law) (i := .ireturn) (n := 1) ((TL_2 345 (by omega)).trans (lk_head rfl))).trans rfl
theorem i_Law_346 : opAt m_Law 346 = sAld 1 347 := (opAt_of (M := m_Law) (i := .aload_n 1) (n := 1) ((TL_2 346 (by omega)).trans (lk_head rfl))).trans rfl
theorem i_Law_347 : opAt m_Law 347 = sAld 0 348 := (opAt_of (M := m_Law) (i := .aload_n 0) (n := 1) ((TL_2 347 (by omega)).trans (lk_head rfl))).trans rfl
theorem i_Law_348 : opAt m_Law 348 = sIld 3 349 := (opAt_of (M := m_Law) (i := .iload_n 3) (n := 1) ((TL_2 348 (by omega)).trans (lk_head rfl))).trans rfl
theorem i_Law_349 : opAt m_Law 349 = sPush (.int (Int32.ofInt 1)) 350 := (opAt_of (M := m_Law) (i := .iconst 1) (n := 1) ((TL_2 349 (by omega)).trans (lk_head rfl))).trans rfl
theorem i_Law_350 : opAt m_Law 350 = sBI (fun x y => x + y) 351 := (opAt_of (M := m_Law) (i := .iadd) (n := 1) ((TL_2 350 (by omega)).trans (lk_head rfl))).trans rfl
theorem i_Law_351 : opAt m_Law 351 = sIal 352 := (opAt_of (M := m_Law) (i := .iaload) (n := 1) ((TL_2 351 (by omega)).trans (lk_head rfl))).trans rfl
theorem i_Law_352 : opAt m_Law 352 = sVir [(10, m_Fi_print)] 0 1 355 := (opAt_of (M := m_Law) (i := .invokevirtual 42) (n := 3) ((TL_2 352 (by omega)).trans (lk_head rfl))).trans rfl
theorem i_Law_355 : opAt m_Law 355 = sAld 2 356 := (opAt_of (M := m_Law) (i := .aload_n 2) (n := 1) ((TL_2 355 (by omega)).trans (lk_head rfl))).trans rfl
theorem i_Law_356 : opAt m_Law 356 = sAld 0 357 := (opAt_of (M := m_Law) (i := .aload_n 0) (n := 1) ((TL_2 356 (by omega)).trans (lk_head rfl))).trans rfl
theorem i_Law_357 : opAt m_Law 357 = sIld 3 358 := (opAt_of (M := m_Law) (i := .iload_n 3) (n := 1) ((TL_2 357 (by omega)).trans (lk_head rfl))).trans rfl
theorem i_Law_358 : opAt m_Law 358 = sPush (.int (Int32.ofInt 1)) 359 := (opAt_of (M := m_Law) (i := .iconst 1) (n := 1) ((TL_2 358 (by omega)).trans (lk_head rfl))).trans rfl
theorem i_Law_359 : opAt m_Law 359 = sBI (fun x y => x + y) 360 := (opAt_of (M := m_Law) (i := .iadd) (n := 1) ((TL_2 359 (by omega)).trans (lk_head rfl))).trans rfl
theorem i_Law_360 : opAt m_Law 360 = sIal 361 := (opAt_of (M := m_Law) (i := .iaload) (n := 1) ((TL_2 360 (by omega)).trans (lk_head rfl))).trans rfl
theorem i_Law_361 : opAt m_Law 361 = sVir [(11, m_Mo_print)] 0 1 364 := (opAt_of (M := m_Law) (i := .invokevirtual 46) (n := 3) ((TL_2 361 (by omega)).trans (lk_head rfl))).trans rfl
theorem i_Law_364 : opAt m_Law 364 = sCm .eq 1260 367 := (opAt_of (M := m_Law) (i := .if_icmp .eq 896) (n := 3) ((TL_2 364 (by omega)).trans (lk_head rfl))).trans rfl
theorem i_Law_367 : opAt m_Law 367 = sPush (.int (Int32.ofInt 0)) 368 := (opAt_of (M := m_Law) (i := .iconst 0) (n := 1) ((TL_2 367 (by omega)).trans (lk_head rfl))).trans rfl
theorem i_Law_368 : opAt m_Law 368 = sIret .boolean := (opAt_of (M := m_Law) (i := .ireturn) (n := 1) ((TL_2 368 (by omega)).trans (lk_head rfl))).trans rfl
theorem i_Law_369 : opAt m_Law 369 = sAld 1 370 := (opAt_of (M := m_Law) (i := .aload_n 1) (n := 1) ((TL_2 369 (by omega)).trans (lk_head rfl))).trans rfl
theorem i_Law_370 : opAt m_Law 370 = sAld 0 371 := (opAt_of (M := m_Law) (i := .aload_n 0) (n := 1) ((TL_2 370 (by omega)).trans (lk_head rfl))).trans rfl
theorem i_Law_371 : opAt m_Law 371 = sIld 3 372 := (opAt_of (M := m_Law) (i := .iload_n 3) (n := 1) ((TL_2 371 (by omega)).trans (lk_head rfl))).trans rfl
theorem i_Law_372 : opAt m_Law 372 = sPush (.int (Int32.ofInt 1)) 373 := (opAt_of (M := m_Law) (i := .iconst 1) (n := 1) ((TL_2 372 (by omega)).trans (lk_head rfl))).trans rfl
theorem i_Law_373 : opAt m_Law 373 = sBI (fun x y => x + y) 374 := (opAt_of (M := m_Law) (i := .iadd) (n := 1) ((TL_2 373 (by omega)).trans (lk_head rfl))).trans rfl
theorem i_Law_374 : opAt m_Law 374 = sIal 375 := (opAt_of (M := m_Law) (i := .iaload) (n := 1) ((TL_3 374 (by omega)).trans (lk_head rfl))).trans rfl
theorem i_Law_375 : opAt m_Law 375 = sAld 0 376 := (opAt_of (M := m_Law) (i := .aload_n 0) (n := 1) ((TL_3 375 (by omega)).trans (lk_head rfl))).trans rfl
theorem i_Law_376 : opAt m_Law 376 = sIld 3 377 := (opAt_of (M := m_Law) (i := .iload_n 3) (n := 1) ((TL_3 376 (by omega)).trans (lk_head rfl))).trans rfl
theorem i_Law_377 : opAt m_Law 377 = sPush (.int (Int32.ofInt 2)) 378 := (opAt_of (M := m_Law) (i := .iconst 2) (n := 1) ((TL_3 377 (by omega)).trans (lk_head rfl))).trans rfl
theorem i_Law_378 : opAt m_Law 378 = sBI (fun x y => x + y) 379 := (opAt_of (M := m_Law) (i := .iadd) (n := 1) ((TL_3 378 (by omega)).trans (lk_head rfl))).trans rfl
theorem i_Law_379 : opAt m_Law 379 = sIal 380 := (opAt_of (M := m_Law) (i := .iaload) (n := 1) ((TL_3 379 (by omega)).trans (lk_head rfl))).trans rfl
theorem i_Law_380 : opAt m_Law 380 = sAld 0 381 := (opAt_of (M := m_Law) (i := .aload_n 0) (n := 1) ((TL_3 380 (by omega)).trans (lk_head rfl))).trans rfl
theorem i_Law_381 : opAt m_Law 381 = sIld 3 382 := (opAt_of (M := m_Law) (i := .iload_n 3) (n := 1) ((TL_3 381 (by omega)).trans (lk_head rfl))).trans rfl
theorem i_Law_382 : opAt m_Law 382 = sPush (.int (Int32.ofInt 3)) 383 := (opAt_of (M := m_Law) (i := .iconst 3) (n := 1) ((TL_3 382 (by omega)).trans (lk_head rfl))).trans rfl
theorem i_Law_383 : opAt m_Law 383 = sBI (fun x y => x + y) 384 := (opAt_of (M := m_Law) (i := .iadd) (n := 1) ((TL_3 383 (by omega)).trans (lk_head rfl))).trans rfl
theorem i_Law_384 : opAt m_Law 384 = sIal 385 := (opAt_of (M := m_Law) (i := .iaload) (n := 1) ((TL_3 384 (by omega)).trans (lk_head rfl))).trans rfl
theorem i_Law_385 : opAt m_Law 385 = sIf .eq 392 388 := (opAt_of (M := m_Law) (i := .ifCond .eq 7) (n := 3) ((TL_3 385 (by omega)).trans (lk_head rfl))).trans rfl
theorem i_Law_388 : opAt m_Law 388 = sPush (.int (Int32.ofInt 1)) 389 := (opAt_of (M := m_Law) (i := .iconst 1) (n := 1) ((TL_3 388 (by omega)).trans (lk_head rfl))).trans rfl
theorem i_Law_389 : opAt m_Law 389 = sGo 393 := (opAt_of (M := m_Law) (i := .goto 4) (n := 3) ((TL_3 389 (by omega)).trans (lk_head rfl))).trans rfl
theorem i_Law_392 : opAt m_Law 392 = sPush (.int (Int32.ofInt 0)) 393 := (opAt_of (M := m_Law) (i := .iconst 0) (n := 1) ((TL_3 392 (by omega)).trans (lk_head rfl))).trans rfl
theorem i_Law_393 : opAt m_Law 393 = sVir [(10, m_Fi_run)] 0 3 396 := (opAt_of (M := m_Law) (i := .invokevirtual 47) (n := 3) ((TL_3 393 (by omega)).trans (lk_head rfl))).trans rfl
theorem i_Law_396 : opAt m_Law 396 = sAld 2 397 := (opAt_of (M := m_Law) (i := .aload_n 2) (n := 1) ((TL_3 396 (by omega)).trans (lk_head rfl))).trans rfl
theorem i_Law_397 : opAt m_Law 397 = sAld 0 398 := (opAt_of (M := m_Law) (i := .aload_n 0) (n := 1) ((TL_3 397 (by omega)).trans (lk_head rfl))).trans rfl
theorem i_Law_398 : opAt m_Law 398 = sIld 3 399 := (opAt_of (M := m_Law) (i := .iload_n 3) (n := 1) ((TL_3 398 (by omega)).trans (lk_head rfl))).trans rfl
theorem i_Law_399 : opAt m_Law 399 = sPush (.int (Int32.ofInt 1)) 400 := (opAt_of (M := m_Law) (i := .iconst 1) (n := 1) ((TL_3 399 (by omega)).trans (lk_head rfl))).trans rfl
theorem i_Law_400 : opAt m_Law 400 = sBI (fun x y => x + y) 401 := (opAt_of (M := m_Law) (i := .iadd) (n := 1) ((TL_3 400 (by omega)).trans (lk_head rfl))).trans rfl
theorem i_Law_401 : opAt m_Law 401 = sIal 402 := (opAt_of (M := m_Law) (i := .iaload) (n := 1) ((TL_3 401 (by omega)).trans (lk_head rfl))).trans rfl
theorem i_Law_402 : opAt m_Law 402 = sAld 0 403 := (opAt_of (M := m_Law) (i := .aload_n 0) (n := 1) ((TL_3 402 (by omega)).trans (lk_head rfl))).trans rfl
theorem i_Law_403 : opAt m_Law 403 = sIld 3 404 := (opAt_of (M := m_Law) (i := .iload_n 3) (n := 1) ((TL_3 403 (by omega)).trans (lk_head rfl))).trans rfl
theorem i_Law_404 : opAt m_Law 404 = sPush (.int (Int32.ofInt 2)) 405 := (opAt_of (M := m_Law) (i := .iconst 2) (n := 1) ((TL_3 404 (by omega)).trans (lk_head rfl))).trans rfl
theorem i_Law_405 : opAt m_Law 405 = sBI (fun x y => x + y) 406 := (opAt_of (M := m_Law) (i := .iadd) (n := 1) ((TL_3 405 (by omega)).trans (lk_head rfl))).trans rfl
theorem i_Law_406 : opAt m_Law 406 = sIal 407 := (opAt_of (M := m_Law) (i := .iaload) (n := 1) ((TL_3 406 (by omega)).trans (lk_head rfl))).trans rfl
theorem i_Law_407 : opAt m_Law 407 = sAld 0 408 := (opAt_of (M := m_Law) (i := .aload_n 0) (n := 1) ((TL_3 407 (by omega)).trans (lk_head rfl))).trans rfl
theorem i_Law_408 : opAt m_Law 408 = sIld 3 409 := (opAt_of (M := m_Law) (i := .iload_n 3) (n := 1) ((TL_3 408 (by omega)).trans (lk_head rfl))).trans rfl
theorem i_Law_409 : opAt m_Law 409 = sPush (.int (Int32.ofInt 3)) 410 := (opAt_of (M := m_Law) (i := .iconst 3) (n := 1) ((TL_3 409 (by omega)).trans (lk_head rfl))).trans rfl
theorem i_Law_410 : opAt m_Law 410 = sBI (fun x y => x + y) 411 := (opAt_of (M := m_Law) (i := .iadd) (n := 1) ((TL_3 410 (by omega)).trans (lk_head rfl))).trans rfl
theorem i_Law_411 : opAt m_Law 411 = sIal 412 := (opAt_of (M := m_Law) (i := .iaload) (n := 1) ((TL_3 411 (by omega)).trans (lk_head rfl))).trans rfl
theorem i_Law_412 : opAt m_Law 412 = sIf .eq 419 415 := (opAt_of (M := m_Law) (i := .ifCond .eq 7) (n := 3) ((TL_3 412 (by omega)).trans (lk_head rfl))).trans rfl
theorem i_Law_415 : opAt m_Law 415 = sPush (.int (Int32.ofInt 1)) 416 := (opAt_of (M := m_Law) (i := .iconst 1) (n := 1) ((TL_3 415 (by omega)).trans (lk_head rfl))).trans rfl
theorem i_Law_416 : opAt m_Law 416 = sGo 420 := (opAt_of (M := m_Law) (i := .goto 4) (n := 3) ((TL_3 416 (by omega)).trans (lk_head rfl))).trans rfl
theorem i_Law_419 : opAt m_Law 419 = sPush (.int (Int32.ofInt 0)) 420 := (opAt_of (M := m_Law) (i := .iconst 0) (n := 1) ((TL_3 419 (by omega)).trans (lk_head rfl))).trans rfl
theorem i_Law_420 : opAt m_Law 420 = sVir [(11, m_Mo_run)] 0 3 423 := (opAt_of (M := m_Law) (i := .invokevirtual 51) (n := 3) ((TL_3 420 (by omega)).trans (lk_head rfl))).trans rfl
theorem i_Law_423 : opAt m_Law 423 = sCm .eq 1260 426 := (opAt_of (M := m_Law) (i := .if_icmp .eq 837) (n := 3) ((TL_3 423 (by omega)).trans (lk_head rfl))).trans rfl
theorem i_Law_426 : opAt m_Law 426 = sPush (.int (Int32.ofInt 0)) 427 := (opAt_of (M := m_Law) (i := .iconst 0) (n := 1) ((TL_3 426 (by omega)).trans (lk_head rfl))).trans rfl
theorem i_Law_427 : opAt m_Law 427 = sIret .boolean := (opAt_of (M := m_Law) (i := .ireturn) (n := 1) ((TL_3 427 (by omega)).trans (lk_head rfl))).trans rfl
theorem i_Law_428 : opAt m_Law 428 = sAld 1 429 := (opAt_of (M := m_Law) (i := .aload_n 1) (n := 1) ((TL_3 428 (by omega)).trans (lk_head rfl))).trans rfl
theorem i_Law_429 : opAt m_Law 429 = sAld 0 430 := (opAt_of (M := m_Law) (i := .aload_n 0) (n := 1) ((TL_3 429 (by omega)).trans (lk_head rfl))).trans rfl
theorem i_Law_430 : opAt m_Law 430 = sIld 3 431 := (opAt_of (M := m_Law) (i := .iload_n 3) (n := 1) ((TL_3 430 (by omega)).trans (lk_head rfl))).trans rfl
theorem i_Law_431 : opAt m_Law 431 = sPush (.int (Int32.ofInt 1)) 432 := (opAt_of (M := m_Law) (i := .iconst 1) (n := 1) ((TL_3 431 (by omega)).trans (lk_head rfl))).trans rfl
theorem i_Law_432 : opAt m_Law 432 = sBI (fun x y => x + y) 433 := (opAt_of (M := m_Law) (i := .iadd) (n := 1) ((TL_3 432 (by omega)).trans (lk_head rfl))).trans rfl
theorem i_Law_433 : opAt m_Law 433 = sIal 434 := (opAt_of (M := m_Law) (i := .iaload) (n := 1) ((TL_3 433 (by omega)).trans (lk_head rfl))).trans rfl
theorem i_Law_434 : opAt m_Law 434 = sAld 0 435 := (opAt_of (M := m_Law) (i := .aload_n 0) (n := 1) ((TL_3 434 (by omega)).trans (lk_head rfl))).trans rfl
theorem i_Law_435 : opAt m_Law 435 = sIld 3 436 := (opAt_of (M := m_Law) (i := .iload_n 3) (n := 1) ((TL_3 435 (by omega)).trans (lk_head rfl))).trans rfl
theorem i_Law_436 : opAt m_Law 436 = sPush (.int (Int32.ofInt 2)) 437 := (opAt_of (M := m_Law) (i := .iconst 2) (n := 1) ((TL_3 436 (by omega)).trans (lk_head rfl))).trans rfl
theorem i_Law_437 : opAt m_Law 437 = sBI (fun x y => x + y) 438 := (opAt_of (M := m_Law) (i := .iadd) (n := 1) ((TL_3 437 (by omega)).trans (lk_head rfl))).trans rfl
theorem i_Law_438 : opAt m_Law 438 = sIal 439 := (opAt_of (M := m_Law) (i := .iaload) (n := 1) ((TL_3 438 (by omega)).trans (lk_head rfl))).trans rfl
theorem i_Law_439 : opAt m_Law 439 = sAld 0 440 := (opAt_of (M := m_Law) (i := .aload_n 0) (n := 1) ((TL_3 439 (by omega)).trans (lk_head rfl))).trans rfl
theorem i_Law_440 : opAt m_Law 440 = sIld 3 441 := (opAt_of (M := m_Law) (i := .iload_n 3) (n := 1) ((TL_3 440 (by omega)).trans (lk_head rfl))).trans rfl
theorem i_Law_441 : opAt m_Law 441 = sPush (.int (Int32.ofInt 3)) 442 := (opAt_of (M := m_Law) (i := .iconst 3) (n := 1) ((TL_3 441 (by omega)).trans (lk_head rfl))).trans rfl
theorem i_Law_442 : opAt m_Law 442 = sBI (fun x y => x + y) 443 := (opAt_of (M := m_Law) (i := .iadd) (n := 1) ((TL_3 442 (by omega)).trans (lk_head rfl))).trans rfl
theorem i_Law_443 : opAt m_Law 443 = sIal 444 := (opAt_of (M := m_Law) (i := .iaload) (n := 1) ((TL_3 443 (by omega)).trans (lk_head rfl))).trans rfl
theorem i_Law_444 : opAt m_Law 444 = sVir [(10, m_Fi_mend)] 0 3 447 := (opAt_of (M := m_Law) (i := .invokevirtual 52) (n := 3) ((TL_3 444 (by omega)).trans (lk_head rfl))).trans rfl
theorem i_Law_447 : opAt m_Law 447 = sAld 2 448 := (opAt_of (M := m_Law) (i := .aload_n 2) (n := 1) ((TL_3 447 (by omega)).trans (lk_head rfl))).trans rfl
theorem i_Law_448 : opAt m_Law 448 = sAld 0 449 := (opAt_of (M := m_Law) (i := .aload_n 0) (n := 1) ((TL_3 448 (by omega)).trans (lk_head rfl))).trans rfl
theorem i_Law_449 : opAt m_Law 449 = sIld 3 450 := (opAt_of (M := m_Law) (i := .iload_n 3) (n := 1) ((TL_3 449 (by omega)).trans (lk_head rfl))).trans rfl
theorem i_Law_450 : opAt m_Law 450 = sPush (.int (Int32.ofInt 1)) 451 := (opAt_of (M := m_Law) (i := .iconst 1) (n := 1) ((TL_4 450 (by omega)).trans (lk_head rfl))).trans rfl
theorem i_Law_451 : opAt m_Law 451 = sBI (fun x y => x + y) 452 := (opAt_of (M := m_Law) (i := .iadd) (n := 1) ((TL_4 451 (by omega)).trans (lk_head rfl))).trans rfl
theorem i_Law_452 : opAt m_Law 452 = sIal 453 := (opAt_of (M := m_Law) (i := .iaload) (n := 1) ((TL_4 452 (by omega)).trans (lk_head rfl))).trans rfl
theorem i_Law_453 : opAt m_Law 453 = sAld 0 454 := (opAt_of (M := m_Law) (i := .aload_n 0) (n := 1) ((TL_4 453 (by omega)).trans (lk_head rfl))).trans rfl
theorem i_Law_454 : opAt m_Law 454 = sIld 3 455 := (opAt_of (M := m_Law) (i := .iload_n 3) (n := 1) ((TL_4 454 (by omega)).trans (lk_head rfl))).trans rfl
theorem i_Law_455 : opAt m_Law 455 = sPush (.int (Int32.ofInt 2)) 456 := (opAt_of (M := m_Law) (i := .iconst 2) (n := 1) ((TL_4 455 (by omega)).trans (lk_head rfl))).trans rfl
theorem i_Law_456 : opAt m_Law 456 = sBI (fun x y => x + y) 457 := (opAt_of (M := m_Law) (i := .iadd) (n := 1) ((TL_4 456 (by omega)).trans (lk_head rfl))).trans rfl
theorem i_Law_457 : opAt m_Law 457 = sIal 458 := (opAt_of (M := m_Law) (i := .iaload) (n := 1) ((TL_4 457 (by omega)).trans (lk_head rfl))).trans rfl
theorem i_Law_458 : opAt m_Law 458 = sAld 0 459 := (opAt_of (M := m_Law) (i := .aload_n 0) (n := 1) ((TL_4 458 (by omega)).trans (lk_head rfl))).trans rfl
theorem i_Law_459 : opAt m_Law 459 = sIld 3 460 := (opAt_of (M := m_Law) (i := .iload_n 3) (n := 1) ((TL_4 459 (by omega)).trans (lk_head rfl))).trans rfl
theorem i_Law_460 : opAt m_Law 460 = sPush (.int (Int32.ofInt 3)) 461 := (opAt_of (M := m_Law) (i := .iconst 3) (n := 1) ((TL_4 460 (by omega)).trans (lk_head rfl))).trans rfl
theorem i_Law_461 : opAt m_Law 461 = sBI (fun x y => x + y) 462 := (opAt_of (M := m_Law) (i := .iadd) (n := 1) ((TL_4 461 (by omega)).trans (lk_head rfl))).trans rfl
theorem i_Law_462 : opAt m_Law 462 = sIal 463 := (opAt_of (M := m_Law) (i := .iaload) (n := 1) ((TL_4 462 (by omega)).trans (lk_head rfl))).trans rfl
theorem i_Law_463 : opAt m_Law 463 = sVir [(11, m_Mo_mend)] 0 3 466 := (opAt_of (M := m_Law) (i := .invokevirtual 55) (n := 3) ((TL_4 463 (by omega)).trans (lk_head rfl))).trans rfl
theorem i_Law_466 : opAt m_Law 466 = sCm .eq 1260 469 := (opAt_of (M := m_Law) (i := .if_icmp .eq 794) (n := 3) ((TL_4 466 (by omega)).trans (lk_head rfl))).trans rfl
theorem i_Law_469 : opAt m_Law 469 = sPush (.int (Int32.ofInt 0)) 470 := (opAt_of (M := m_Law) (i := .iconst 0) (n := 1) ((TL_4 469 (by omega)).trans (lk_head rfl))).trans rfl
theorem i_Law_470 : opAt m_Law 470 = sIret .boolean := (opAt_of (M := m_Law) (i := .ireturn) (n := 1) ((TL_4 470 (by omega)).trans (lk_head rfl))).trans rfl
theorem i_Law_471 : opAt m_Law 471 = sAld 1 472 := (opAt_of (M := m_Law) (i := .aload_n 1) (n := 1) ((TL_4 471 (by omega)).trans (lk_head rfl))).trans rfl
theorem i_Law_472 : opAt m_Law 472 = sAld 0 473 := (opAt_of (M := m_Law) (i := .aload_n 0) (n := 1) ((TL_4 472 (by omega)).trans (lk_head rfl))).trans rfl
theorem i_Law_473 : opAt m_Law 473 = sIld 3 474 := (opAt_of (M := m_Law) (i := .iload_n 3) (n := 1) ((TL_4 473 (by omega)).trans (lk_head rfl))).trans rfl
theorem i_Law_474 : opAt m_Law 474 = sPush (.int (Int32.ofInt 1)) 475 := (opAt_of (M := m_Law) (i := .iconst 1) (n := 1) ((TL_4 474 (by omega)).trans (lk_head rfl))).trans rfl
theorem i_Law_475 : opAt m_Law 475 = sBI (fun x y => x + y) 476 := (opAt_of (M := m_Law) (i := .iadd) (n := 1) ((TL_4 475 (by omega)).trans (lk_head rfl))).trans rfl
theorem i_Law_476 : opAt m_Law 476 = sIal 477 := (opAt_of (M := m_Law) (i := .iaload) (n := 1) ((TL_4 476 (by omega)).trans (lk_head rfl))).trans rfl
theorem i_Law_477 : opAt m_Law 477 = sVir [(10, m_Fi_copy)] 0 1 480 := (opAt_of (M := m_Law) (i := .invokevirtual 56) (n := 3) ((TL_4 477 (by omega)).trans (lk_head rfl))).trans rfl
theorem i_Law_480 : opAt m_Law 480 = sAld 2 481 := (opAt_of (M := m_Law) (i := .aload_n 2) (n := 1) ((TL_4 480 (by omega)).trans (lk_head rfl))).trans rfl
theorem i_Law_481 : opAt m_Law 481 = sAld 0 482 := (opAt_of (M := m_Law) (i := .aload_n 0) (n := 1) ((TL_4 481 (by omega)).trans (lk_head rfl))).trans rfl
theorem i_Law_482 : opAt m_Law 482 = sIld 3 483 := (opAt_of (M := m_Law) (i := .iload_n 3) (n := 1) ((TL_4 482 (by omega)).trans (lk_head rfl))).trans rfl
theorem i_Law_483 : opAt m_Law 483 = sPush (.int (Int32.ofInt 1)) 484 := (opAt_of (M := m_Law) (i := .iconst 1) (n := 1) ((TL_4 483 (by omega)).trans (lk_head rfl))).trans rfl
theorem i_Law_484 : opAt m_Law 484 = sBI (fun x y => x + y) 485 := (opAt_of (M := m_Law) (i := .iadd) (n := 1) ((TL_4 484 (by omega)).trans (lk_head rfl))).trans rfl
theorem i_Law_485 : opAt m_Law 485 = sIal 486 := (opAt_of (M := m_Law) (i := .iaload) (n := 1) ((TL_4 485 (by omega)).trans (lk_head rfl))).trans rfl
theorem i_Law_486 : opAt m_Law 486 = sVir [(11, m_Mo_copy)] 0 1 489 := (opAt_of (M := m_Law) (i := .invokevirtual 59) (n := 3) ((TL_4 486 (by omega)).trans (lk_head rfl))).trans rfl
theorem i_Law_489 : opAt m_Law 489 = sCm .eq 1260 492 := (opAt_of (M := m_Law) (i := .if_icmp .eq 771) (n := 3) ((TL_4 489 (by omega)).trans (lk_head rfl))).trans rfl
theorem i_Law_492 : opAt m_Law 492 = sPush (.int (Int32.ofInt 0)) 493 := (opAt_of (M := m_Law) (i := .iconst 0) (n := 1) ((TL_4 492 (by omega)).trans (lk_head rfl))).trans rfl
theorem i_Law_493 : opAt m_Law 493 = sIret .boolean := (opAt_of (M := m_Law) (i := .ireturn) (n := 1) ((TL_4 493 (by omega)).trans (lk_head rfl))).trans rfl
theorem i_Law_494 : opAt m_Law 494 = sAld 1 495 := (opAt_of (M := m_Law) (i := .aload_n 1) (n := 1) ((TL_4 494 (by omega)).trans (lk_head rfl))).trans rfl
theorem i_Law_495 : opAt m_Law 495 = sAld 0 496 := (opAt_of (M := m_Law) (i := .aload_n 0) (n := 1) ((TL_4 495 (by omega)).trans (lk_head rfl))).trans rfl
theorem i_Law_496 : opAt m_Law 496 = sIld 3 497 := (opAt_of (M := m_Law) (i := .iload_n 3) (n := 1) ((TL_4 496 (by omega)).trans (lk_head rfl))).trans rfl
theorem i_Law_497 : opAt m_Law 497 = sPush (.int (Int32.ofInt 1)) 498 := (opAt_of (M := m_Law) (i := .iconst 1) (n := 1) ((TL_4 497 (by omega)).trans (lk_head rfl))).trans rfl
theorem i_Law_498 : opAt m_Law 498 = sBI (fun x y => x + y) 499 := (opAt_of (M := m_Law) (i := .iadd) (n := 1) ((TL_4 498 (by omega)).trans (lk_head rfl))).trans rfl
theorem i_Law_499 : opAt m_Law 499 = sIal 500 := (opAt_of (M := m_Law) (i := .iaload) (n := 1) ((TL_4 499 (by omega)).trans (lk_head rfl))).trans rfl
theorem i_Law_500 : opAt m_Law 500 = sAld 0 501 := (opAt_of (M := m_Law) (i := .aload_n 0) (n := 1) ((TL_4 500 (by omega)).trans (lk_head rfl))).trans rfl
theorem i_Law_501 : opAt m_Law 501 = sIld 3 502 := (opAt_of (M := m_Law) (i := .iload_n 3) (n := 1) ((TL_4 501 (by omega)).trans (lk_head rfl))).trans rfl
theorem i_Law_502 : opAt m_Law 502 = sPush (.int (Int32.ofInt 2)) 503 := (opAt_of (M := m_Law) (i := .iconst 2) (n := 1) ((TL_4 502 (by omega)).trans (lk_head rfl))).trans rfl
theorem i_Law_503 : opAt m_Law 503 = sBI (fun x y => x + y) 504 := (opAt_of (M := m_Law) (i := .iadd) (n := 1) ((TL_4 503 (by omega)).trans (lk_head rfl))).trans rfl
theorem i_Law_504 : opAt m_Law 504 = sIal 505 := (opAt_of (M := m_Law) (i := .iaload) (n := 1) ((TL_4 504 (by omega)).trans (lk_head rfl))).trans rfl
theorem i_Law_505 : opAt m_Law 505 = sAld 0 506 := (opAt_of (M := m_Law) (i := .aload_n 0) (n := 1) ((TL_4 505 (by omega)).trans (lk_head rfl))).trans rfl
theorem i_Law_506 : opAt m_Law 506 = sIld 3 507 := (opAt_of (M := m_Law) (i := .iload_n 3) (n := 1) ((TL_4 506 (by omega)).trans (lk_head rfl))).trans rfl
theorem i_Law_507 : opAt m_Law 507 = sPush (.int (Int32.ofInt 3)) 508 := (opAt_of (M := m_Law) (i := .iconst 3) (n := 1) ((TL_4 507 (by omega)).trans (lk_head rfl))).trans rfl
theorem i_Law_508 : opAt m_Law 508 = sBI (fun x y => x + y) 509 := (opAt_of (M := m_Law) (i := .iadd) (n := 1) ((TL_4 508 (by omega)).trans (lk_head rfl))).trans rfl
theorem i_Law_509 : opAt m_Law 509 = sIal 510 := (opAt_of (M := m_Law) (i := .iaload) (n := 1) ((TL_4 509 (by omega)).trans (lk_head rfl))).trans rfl
theorem i_Law_510 : opAt m_Law 510 = sAld 0 511 := (opAt_of (M := m_Law) (i := .aload_n 0) (n := 1) ((TL_4 510 (by omega)).trans (lk_head rfl))).trans rfl
theorem i_Law_511 : opAt m_Law 511 = sIld 3 512 := (opAt_of (M := m_Law) (i := .iload_n 3) (n := 1) ((TL_4 511 (by omega)).trans (lk_head rfl))).trans rfl
theorem i_Law_512 : opAt m_Law 512 = sPush (.int (Int32.ofInt 4)) 513 := (opAt_of (M := m_Law) (i := .iconst 4) (n := 1) ((TL_4 512 (by omega)).trans (lk_head rfl))).trans rfl
theorem i_Law_513 : opAt m_Law 513 = sBI (fun x y => x + y) 514 := (opAt_of (M := m_Law) (i := .iadd) (n := 1) ((TL_4 513 (by omega)).trans (lk_head rfl))).trans rfl
theorem i_Law_514 : opAt m_Law 514 = sIal 515 := (opAt_of (M := m_Law) (i := .iaload) (n := 1) ((TL_4 514 (by omega)).trans (lk_head rfl))).trans rfl
theorem i_Law_515 : opAt m_Law 515 = sAld 0 516 := (opAt_of (M := m_Law) (i := .aload_n 0) (n := 1) ((TL_4 515 (by omega)).trans (lk_head rfl))).trans rfl
theorem i_Law_516 : opAt m_Law 516 = sIld 3 517 := (opAt_of (M := m_Law) (i := .iload_n 3) (n := 1) ((TL_4 516 (by omega)).trans (lk_head rfl))).trans rfl
theorem i_Law_517 : opAt m_Law 517 = sPush (.int (Int32.ofInt 5)) 518 := (opAt_of (M := m_Law) (i := .iconst 5) (n := 1) ((TL_4 517 (by omega)).trans (lk_head rfl))).trans rfl
theorem i_Law_518 : opAt m_Law 518 = sBI (fun x y => x + y) 519 := (opAt_of (M := m_Law) (i := .iadd) (n := 1) ((TL_4 518 (by omega)).trans (lk_head rfl))).trans rfl
theorem i_Law_519 : opAt m_Law 519 = sIal 520 := (opAt_of (M := m_Law) (i := .iaload) (n := 1) ((TL_4 519 (by omega)).trans (lk_head rfl))).trans rfl
theorem i_Law_520 : opAt m_Law 520 = sIf .eq 527 523 := (opAt_of (M := m_Law) (i := .ifCond .eq 7) (n := 3) ((TL_5 520 (by omega)).trans (lk_head rfl))).trans rfl
theorem i_Law_523 : opAt m_Law 523 = sPush (.int (Int32.ofInt 1)) 524 := (opAt_of (M := m_Law) (i := .iconst 1) (n := 1) ((TL_5 523 (by omega)).trans (lk_head rfl))).trans rfl
theorem i_Law_524 : opAt m_Law 524 = sGo 528 := (opAt_of (M := m_Law) (i := .goto 4) (n := 3) ((TL_5 524 (by omega)).trans (lk_head rfl))).trans rfl
theorem i_Law_527 : opAt m_Law 527 = sPush (.int (Int32.ofInt 0)) 528 := (opAt_of (M := m_Law) (i := .iconst 0) (n := 1) ((TL_5 527 (by omega)).trans (lk_head rfl))).trans rfl
theorem i_Law_528 : opAt m_Law 528 = sVir [(10, m_Fi_mark)] 0 5 531 := (opAt_of (M := m_Law) (i := .invokevirtual 60) (n := 3) ((TL_5 528 (by omega)).trans (lk_head rfl))).trans rfl
theorem i_Law_531 : opAt m_Law 531 = sAld 2 532 := (opAt_of (M := m_Law) (i := .aload_n 2) (n := 1) ((TL_5 531 (by omega)).trans (lk_head rfl))).trans rfl
theorem i_Law_532 : opAt m_Law 532 = sAld 0 533 := (opAt_of (M := m_Law) (i := .aload_n 0) (n := 1) ((TL_5 532 (by omega)).trans (lk_head rfl))).trans rfl
theorem i_Law_533 : opAt m_Law 533 = sIld 3 534 := (opAt_of (M := m_Law) (i := .iload_n 3) (n := 1) ((TL_5 533 (by omega)).trans (lk_head rfl))).trans rfl
theorem i_Law_534 : opAt m_Law 534 = sPush (.int (Int32.ofInt 1)) 535 := (opAt_of (M := m_Law) (i := .iconst 1) (n := 1) ((TL_5 534 (by omega)).trans (lk_head rfl))).trans rfl
theorem i_Law_535 : opAt m_Law 535 = sBI (fun x y => x + y) 536 := (opAt_of (M := m_Law) (i := .iadd) (n := 1) ((TL_5 535 (by omega)).trans (lk_head rfl))).trans rfl
theorem i_Law_536 : opAt m_Law 536 = sIal 537 := (opAt_of (M := m_Law) (i := .iaload) (n := 1) ((TL_5 536 (by omega)).trans (lk_head rfl))).trans rfl
theorem i_Law_537 : opAt m_Law 537 = sAld 0 538 := (opAt_of (M := m_Law) (i := .aload_n 0) (n := 1) ((TL_5 537 (by omega)).trans (lk_head rfl))).trans rfl
theorem i_Law_538 : opAt m_Law 538 = sIld 3 539 := (opAt_of (M := m_Law) (i := .iload_n 3) (n := 1) ((TL_5 538 (by omega)).trans (lk_head rfl))).trans rfl
theorem i_Law_539 : opAt m_Law 539 = sPush (.int (Int32.ofInt 2)) 540 := (opAt_of (M := m_Law) (i := .iconst 2) (n := 1) ((TL_5 539 (by omega)).trans (lk_head rfl))).trans rfl
theorem i_Law_540 : opAt m_Law 540 = sBI (fun x y => x + y) 541 := (opAt_of (M := m_Law) (i := .iadd) (n := 1) ((TL_5 540 (by omega)).trans (lk_head rfl))).trans rfl
theorem i_Law_541 : opAt m_Law 541 = sIal 542 := (opAt_of (M := m_Law) (i := .iaload) (n := 1) ((TL_5 541 (by omega)).trans (lk_head rfl))).trans rfl
theorem i_Law_542 : opAt m_Law 542 = sAld 0 543 := (opAt_of (M := m_Law) (i := .aload_n 0) (n := 1) ((TL_5 542 (by omega)).trans (lk_head rfl))).trans rfl
theorem i_Law_543 : opAt m_Law 543 = sIld 3 544 := (opAt_of (M := m_Law) (i := .iload_n 3) (n := 1) ((TL_5 543 (by omega)).trans (lk_head rfl))).trans rfl
theorem i_Law_544 : opAt m_Law 544 = sPush (.int (Int32.ofInt 3)) 545 := (opAt_of (M := m_Law) (i := .iconst 3) (n := 1) ((TL_5 544 (by omega)).trans (lk_head rfl))).trans rfl
theorem i_Law_545 : opAt m_Law 545 = sBI (fun x y => x + y) 546 := (opAt_of (M := m_Law) (i := .iadd) (n := 1) ((TL_5 545 (by omega)).trans (lk_head rfl))).trans rfl
theorem i_Law_546 : opAt m_Law 546 = sIal 547 := (opAt_of (M := m_Law) (i := .iaload) (n := 1) ((TL_5 546 (by omega)).trans (lk_head rfl))).trans rfl
theorem i_Law_547 : opAt m_Law 547 = sAld 0 548 := (opAt_of (M := m_Law) (i := .aload_n 0) (n := 1) ((TL_5 547 (by omega)).trans (lk_head rfl))).trans rfl
theorem i_Law_548 : opAt m_Law 548 = sIld 3 549 := (opAt_of (M := m_Law) (i := .iload_n 3) (n := 1) ((TL_5 548 (by omega)).trans (lk_head rfl))).trans rfl
theorem i_Law_549 : opAt m_Law 549 = sPush (.int (Int32.ofInt 4)) 550 := (opAt_of (M := m_Law) (i := .iconst 4) (n := 1) ((TL_5 549 (by omega)).trans (lk_head rfl))).trans rfl
theorem i_Law_550 : opAt m_Law 550 = sBI (fun x y => x + y) 551 := (opAt_of (M := m_Law) (i := .iadd) (n := 1) ((TL_5 550 (by omega)).trans (lk_head rfl))).trans rfl
theorem i_Law_551 : opAt m_Law 551 = sIal 552 := (opAt_of (M := m_Law) (i := .iaload) (n := 1) ((TL_5 551 (by omega)).trans (lk_head rfl))).trans rfl
theorem i_Law_552 : opAt m_Law 552 = sAld 0 553 := (opAt_of (M := m_Law) (i := .aload_n 0) (n := 1) ((TL_5 552 (by omega)).trans (lk_head rfl))).trans rfl
theorem i_Law_553 : opAt m_Law 553 = sIld 3 554 := (opAt_of (M := m_Law) (i := .iload_n 3) (n := 1) ((TL_5 553 (by omega)).trans (lk_head rfl))).trans rfl
theorem i_Law_554 : opAt m_Law 554 = sPush (.int (Int32.ofInt 5)) 555 := (opAt_of (M := m_Law) (i := .iconst 5) (n := 1) ((TL_5 554 (by omega)).trans (lk_head rfl))).trans rfl
theorem i_Law_555 : opAt m_Law 555 = sBI (fun x y => x + y) 556 := (opAt_of (M := m_Law) (i := .iadd) (n := 1) ((TL_5 555 (by omega)).trans (lk_head rfl))).trans rfl
theorem i_Law_556 : opAt m_Law 556 = sIal 557 := (opAt_of (M := m_Law) (i := .iaload) (n := 1) ((TL_5 556 (by omega)).trans (lk_head rfl))).trans rfl
theorem i_Law_557 : opAt m_Law 557 = sIf .eq 564 560 := (opAt_of (M := m_Law) (i := .ifCond .eq 7) (n := 3) ((TL_5 557 (by omega)).trans (lk_head rfl))).trans rfl
theorem i_Law_560 : opAt m_Law 560 = sPush (.int (Int32.ofInt 1)) 561 := (opAt_of (M := m_Law) (i := .iconst 1) (n := 1) ((TL_5 560 (by omega)).trans (lk_head rfl))).trans rfl
theorem i_Law_561 : opAt m_Law 561 = sGo 565 := (opAt_of (M := m_Law) (i := .goto 4) (n := 3) ((TL_5 561 (by omega)).trans (lk_head rfl))).trans rfl
theorem i_Law_564 : opAt m_Law 564 = sPush (.int (Int32.ofInt 0)) 565 := (opAt_of (M := m_Law) (i := .iconst 0) (n := 1) ((TL_5 564 (by omega)).trans (lk_head rfl))).trans rfl
theorem i_Law_565 : opAt m_Law 565 = sVir [(11, m_Mo_mark)] 0 5 568 := (opAt_of (M := m_Law) (i := .invokevirtual 64) (n := 3) ((TL_5 565 (by omega)).trans (lk_head rfl))).trans rfl
theorem i_Law_568 : opAt m_Law 568 = sCm .eq 1260 571 := (opAt_of (M := m_Law) (i := .if_icmp .eq 692) (n := 3) ((TL_5 568 (by omega)).trans (lk_head rfl))).trans rfl
theorem i_Law_571 : opAt m_Law 571 = sPush (.int (Int32.ofInt 0)) 572 := (opAt_of (M := m_Law) (i := .iconst 0) (n := 1) ((TL_5 571 (by omega)).trans (lk_head rfl))).trans rfl
theorem i_Law_572 : opAt m_Law 572 = sIret .boolean := (opAt_of (M := m_Law) (i := .ireturn) (n := 1) ((TL_5 572 (by omega)).trans (lk_head rfl))).trans rfl
theorem i_Law_573 : opAt m_Law 573 = sAld 1 574 := (opAt_of (M := m_Law) (i := .aload_n 1) (n := 1) ((TL_5 573 (by omega)).trans (lk_head rfl))).trans rfl
theorem i_Law_574 : opAt m_Law 574 = sAld 0 575 := (opAt_of (M := m_Law) (i := .aload_n 0) (n := 1) ((TL_5 574 (by omega)).trans (lk_head rfl))).trans rfl
theorem i_Law_575 : opAt m_Law 575 = sIld 3 576 := (opAt_of (M := m_Law) (i := .iload_n 3) (n := 1) ((TL_5 575 (by omega)).trans (lk_head rfl))).trans rfl
theorem i_Law_576 : opAt m_Law 576 = sPush (.int (Int32.ofInt 1)) 577 := (opAt_of (M := m_Law) (i := .iconst 1) (n := 1) ((TL_5 576 (by omega)).trans (lk_head rfl))).trans rfl
theorem i_Law_577 : opAt m_Law 577 = sBI (fun x y => x + y) 578 := (opAt_of (M := m_Law) (i := .iadd) (n := 1) ((TL_5 577 (by omega)).trans (lk_head rfl))).trans rfl
theorem i_Law_578 : opAt m_Law 578 = sIal 579 := (opAt_of (M := m_Law) (i := .iaload) (n := 1) ((TL_5 578 (by omega)).trans (lk_head rfl))).trans rfl
theorem i_Law_579 : opAt m_Law 579 = sVir [(10, m_Fi_length)] 0 1 582 := (opAt_of (M := m_Law) (i := .invokevirtual 65) (n := 3) ((TL_5 579 (by omega)).trans (lk_head rfl))).trans rfl
theorem i_Law_582 : opAt m_Law 582 = sAld 2 583 := (opAt_of (M := m_Law) (i := .aload_n 2) (n := 1) ((TL_5 582 (by omega)).trans (lk_head rfl))).trans rfl
theorem i_Law_583 : opAt m_Law 583 = sAld 0 584 := (opAt_of (M := m_Law) (i := .aload_n 0) (n := 1) ((TL_5 583 (by omega)).trans (lk_head rfl))).trans rfl
theorem i_Law_584 : opAt m_Law 584 = sIld 3 585 := (opAt_of (M := m_Law) (i := .iload_n 3) (n := 1) ((TL_5 584 (by omega)).trans (lk_head rfl))).trans rfl
theorem i_Law_585 : opAt m_Law 585 = sPush (.int (Int32.ofInt 1)) 586 := (opAt_of (M := m_Law) (i := .iconst 1) (n := 1) ((TL_5 585 (by omega)).trans (lk_head rfl))).trans rfl
theorem i_Law_586 : opAt m_Law 586 = sBI (fun x y => x + y) 587 := (opAt_of (M := m_Law) (i := .iadd) (n := 1) ((TL_5 586 (by omega)).trans (lk_head rfl))).trans rfl
theorem i_Law_587 : opAt m_Law 587 = sIal 588 := (opAt_of (M := m_Law) (i := .iaload) (n := 1) ((TL_5 587 (by omega)).trans (lk_head rfl))).trans rfl
theorem i_Law_588 : opAt m_Law 588 = sVir [(11, m_Mo_length)] 0 1 591 := (opAt_of (M := m_Law) (i := .invokevirtual 68) (n := 3) ((TL_5 588 (by omega)).trans (lk_head rfl))).trans rfl
theorem i_Law_591 : opAt m_Law 591 = sCm .eq 1260 594 := (opAt_of (M := m_Law) (i := .if_icmp .eq 669) (n := 3) ((TL_5 591 (by omega)).trans (lk_head rfl))).trans rfl
theorem i_Law_594 : opAt m_Law 594 = sPush (.int (Int32.ofInt 0)) 595 := (opAt_of (M := m_Law) (i := .iconst 0) (n := 1) ((TL_5 594 (by omega)).trans (lk_head rfl))).trans rfl
theorem i_Law_595 : opAt m_Law 595 = sIret .boolean := (opAt_of (M := m_Law) (i := .ireturn) (n := 1) ((TL_5 595 (by omega)).trans (lk_head rfl))).trans rfl
theorem i_Law_596 : opAt m_Law 596 = sAld 1 597 := (opAt_of (M := m_Law) (i := .aload_n 1) (n := 1) ((TL_5 596 (by omega)).trans (lk_head rfl))).trans rfl
theorem i_Law_597 : opAt m_Law 597 = sAld 0 598 := (opAt_of (M := m_Law) (i := .aload_n 0) (n := 1) ((TL_5 597 (by omega)).trans (lk_head rfl))).trans rfl
theorem i_Law_598 : opAt m_Law 598 = sIld 3 599 := (opAt_of (M := m_Law) (i := .iload_n 3) (n := 1) ((TL_5 598 (by omega)).trans (lk_head rfl))).trans rfl
theorem i_Law_599 : opAt m_Law 599 = sPush (.int (Int32.ofInt 1)) 600 := (opAt_of (M := m_Law) (i := .iconst 1) (n := 1) ((TL_5 599 (by omega)).trans (lk_head rfl))).trans rfl
theorem i_Law_600 : opAt m_Law 600 = sBI (fun x y => x + y) 601 := (opAt_of (M := m_Law) (i := .iadd) (n := 1) ((TL_6 600 (by omega)).trans (lk_head rfl))).trans rfl
theorem i_Law_601 : opAt m_Law 601 = sIal 602 := (opAt_of (M := m_Law) (i := .iaload) (n := 1) ((TL_6 601 (by omega)).trans (lk_head rfl))).trans rfl
theorem i_Law_602 : opAt m_Law 602 = sAld 0 603 := (opAt_of (M := m_Law) (i := .aload_n 0) (n := 1) ((TL_6 602 (by omega)).trans (lk_head rfl))).trans rfl
theorem i_Law_603 : opAt m_Law 603 = sIld 3 604 := (opAt_of (M := m_Law) (i := .iload_n 3) (n := 1) ((TL_6 603 (by omega)).trans (lk_head rfl))).trans rfl
theorem i_Law_604 : opAt m_Law 604 = sPush (.int (Int32.ofInt 2)) 605 := (opAt_of (M := m_Law) (i := .iconst 2) (n := 1) ((TL_6 604 (by omega)).trans (lk_head rfl))).trans rfl
theorem i_Law_605 : opAt m_Law 605 = sBI (fun x y => x + y) 606 := (opAt_of (M := m_Law) (i := .iadd) (n := 1) ((TL_6 605 (by omega)).trans (lk_head rfl))).trans rfl
theorem i_Law_606 : opAt m_Law 606 = sIal 607 := (opAt_of (M := m_Law) (i := .iaload) (n := 1) ((TL_6 606 (by omega)).trans (lk_head rfl))).trans rfl
theorem i_Law_607 : opAt m_Law 607 = sAld 0 608 := (opAt_of (M := m_Law) (i := .aload_n 0) (n := 1) ((TL_6 607 (by omega)).trans (lk_head rfl))).trans rfl
theorem i_Law_608 : opAt m_Law 608 = sIld 3 609 := (opAt_of (M := m_Law) (i := .iload_n 3) (n := 1) ((TL_6 608 (by omega)).trans (lk_head rfl))).trans rfl
theorem i_Law_609 : opAt m_Law 609 = sPush (.int (Int32.ofInt 3)) 610 := (opAt_of (M := m_Law) (i := .iconst 3) (n := 1) ((TL_6 609 (by omega)).trans (lk_head rfl))).trans rfl
theorem i_Law_610 : opAt m_Law 610 = sBI (fun x y => x + y) 611 := (opAt_of (M := m_Law) (i := .iadd) (n := 1) ((TL_6 610 (by omega)).trans (lk_head rfl))).trans rfl
theorem i_Law_611 : opAt m_Law 611 = sIal 612 := (opAt_of (M := m_Law) (i := .iaload) (n := 1) ((TL_6 611 (by omega)).trans (lk_head rfl))).trans rfl
theorem i_Law_612 : opAt m_Law 612 = sVir [(10, m_Fi_picture)] 0 3 615 := (opAt_of (M := m_Law) (i := .invokevirtual 69) (n := 3) ((TL_6 612 (by omega)).trans (lk_head rfl))).trans rfl
theorem i_Law_615 : opAt m_Law 615 = sAld 2 616 := (opAt_of (M := m_Law) (i := .aload_n 2) (n := 1) ((TL_6 615 (by omega)).trans (lk_head rfl))).trans rfl
theorem i_Law_616 : opAt m_Law 616 = sAld 0 617 := (opAt_of (M := m_Law) (i := .aload_n 0) (n := 1) ((TL_6 616 (by omega)).trans (lk_head rfl))).trans rfl
theorem i_Law_617 : opAt m_Law 617 = sIld 3 618 := (opAt_of (M := m_Law) (i := .iload_n 3) (n := 1) ((TL_6 617 (by omega)).trans (lk_head rfl))).trans rfl
theorem i_Law_618 : opAt m_Law 618 = sPush (.int (Int32.ofInt 1)) 619 := (opAt_of (M := m_Law) (i := .iconst 1) (n := 1) ((TL_6 618 (by omega)).trans (lk_head rfl))).trans rfl
theorem i_Law_619 : opAt m_Law 619 = sBI (fun x y => x + y) 620 := (opAt_of (M := m_Law) (i := .iadd) (n := 1) ((TL_6 619 (by omega)).trans (lk_head rfl))).trans rfl
theorem i_Law_620 : opAt m_Law 620 = sIal 621 := (opAt_of (M := m_Law) (i := .iaload) (n := 1) ((TL_6 620 (by omega)).trans (lk_head rfl))).trans rfl
theorem i_Law_621 : opAt m_Law 621 = sAld 0 622 := (opAt_of (M := m_Law) (i := .aload_n 0) (n := 1) ((TL_6 621 (by omega)).trans (lk_head rfl))).trans rfl
theorem i_Law_622 : opAt m_Law 622 = sIld 3 623 := (opAt_of (M := m_Law) (i := .iload_n 3) (n := 1) ((TL_6 622 (by omega)).trans (lk_head rfl))).trans rfl
theorem i_Law_623 : opAt m_Law 623 = sPush (.int (Int32.ofInt 2)) 624 := (opAt_of (M := m_Law) (i := .iconst 2) (n := 1) ((TL_6 623 (by omega)).trans (lk_head rfl))).trans rfl
theorem i_Law_624 : opAt m_Law 624 = sBI (fun x y => x + y) 625 := (opAt_of (M := m_Law) (i := .iadd) (n := 1) ((TL_6 624 (by omega)).trans (lk_head rfl))).trans rfl
theorem i_Law_625 : opAt m_Law 625 = sIal 626 := (opAt_of (M := m_Law) (i := .iaload) (n := 1) ((TL_6 625 (by omega)).trans (lk_head rfl))).trans rfl
theorem i_Law_626 : opAt m_Law 626 = sAld 0 627 := (opAt_of (M := m_Law) (i := .aload_n 0) (n := 1) ((TL_6 626 (by omega)).trans (lk_head rfl))).trans rfl
theorem i_Law_627 : opAt m_Law 627 = sIld 3 628 := (opAt_of (M := m_Law) (i := .iload_n 3) (n := 1) ((TL_6 627 (by omega)).trans (lk_head rfl))).trans rfl
theorem i_Law_628 : opAt m_Law 628 = sPush (.int (Int32.ofInt 3)) 629 := (opAt_of (M := m_Law) (i := .iconst 3) (n := 1) ((TL_6 628 (by omega)).trans (lk_head rfl))).trans rfl
theorem i_Law_629 : opAt m_Law 629 = sBI (fun x y => x + y) 630 := (opAt_of (M := m_Law) (i := .iadd) (n := 1) ((TL_6 629 (by omega)).trans (lk_head rfl))).trans rfl
theorem i_Law_630 : opAt m_Law 630 = sIal 631 := (opAt_of (M := m_Law) (i := .iaload) (n := 1) ((TL_6 630 (by omega)).trans (lk_head rfl))).trans rfl
theorem i_Law_631 : opAt m_Law 631 = sVir [(11, m_Mo_picture)] 0 3 634 := (opAt_of (M := m_Law) (i := .invokevirtual 72) (n := 3) ((TL_6 631 (by omega)).trans (lk_head rfl))).trans rfl
theorem i_Law_634 : opAt m_Law 634 = sCm .eq 1260 637 := (opAt_of (M := m_Law) (i := .if_icmp .eq 626) (n := 3) ((TL_6 634 (by omega)).trans (lk_head rfl))).trans rfl
theorem i_Law_637 : opAt m_Law 637 = sPush (.int (Int32.ofInt 0)) 638 := (opAt_of (M := m_Law) (i := .iconst 0) (n := 1) ((TL_6 637 (by omega)).trans (lk_head rfl))).trans rfl
theorem i_Law_638 : opAt m_Law 638 = sIret .boolean := (opAt_of (M := m_Law) (i := .ireturn) (n := 1) ((TL_6 638 (by omega)).trans (lk_head rfl))).trans rfl
theorem i_Law_639 : opAt m_Law 639 = sAld 1 640 := (opAt_of (M := m_Law) (i := .aload_n 1) (n := 1) ((TL_6 639 (by omega)).trans (lk_head rfl))).trans rfl
theorem i_Law_640 : opAt m_Law 640 = sAld 0 641 := (opAt_of (M := m_Law) (i := .aload_n 0) (n := 1) ((TL_6 640 (by omega)).trans (lk_head rfl))).trans rfl
theorem i_Law_641 : opAt m_Law 641 = sIld 3 642 := (opAt_of (M := m_Law) (i := .iload_n 3) (n := 1) ((TL_6 641 (by omega)).trans (lk_head rfl))).trans rfl
theorem i_Law_642 : opAt m_Law 642 = sPush (.int (Int32.ofInt 1)) 643 := (opAt_of (M := m_Law) (i := .iconst 1) (n := 1) ((TL_6 642 (by omega)).trans (lk_head rfl))).trans rfl
theorem i_Law_643 : opAt m_Law 643 = sBI (fun x y => x + y) 644 := (opAt_of (M := m_Law) (i := .iadd) (n := 1) ((TL_6 643 (by omega)).trans (lk_head rfl))).trans rfl
theorem i_Law_644 : opAt m_Law 644 = sIal 645 := (opAt_of (M := m_Law) (i := .iaload) (n := 1) ((TL_6 644 (by omega)).trans (lk_head rfl))).trans rfl
theorem i_Law_645 : opAt m_Law 645 = sAld 0 646 := (opAt_of (M := m_Law) (i := .aload_n 0) (n := 1) ((TL_6 645 (by omega)).trans (lk_head rfl))).trans rfl
theorem i_Law_646 : opAt m_Law 646 = sIld 3 647 := (opAt_of (M := m_Law) (i := .iload_n 3) (n := 1) ((TL_6 646 (by omega)).trans (lk_head rfl))).trans rfl
theorem i_Law_647 : opAt m_Law 647 = sPush (.int (Int32.ofInt 2)) 648 := (opAt_of (M := m_Law) (i := .iconst 2) (n := 1) ((TL_6 647 (by omega)).trans (lk_head rfl))).trans rfl
theorem i_Law_648 : opAt m_Law 648 = sBI (fun x y => x + y) 649 := (opAt_of (M := m_Law) (i := .iadd) (n := 1) ((TL_6 648 (by omega)).trans (lk_head rfl))).trans rfl
theorem i_Law_649 : opAt m_Law 649 = sIal 650 := (opAt_of (M := m_Law) (i := .iaload) (n := 1) ((TL_6 649 (by omega)).trans (lk_head rfl))).trans rfl
theorem i_Law_650 : opAt m_Law 650 = sAld 0 651 := (opAt_of (M := m_Law) (i := .aload_n 0) (n := 1) ((TL_6 650 (by omega)).trans (lk_head rfl))).trans rfl
theorem i_Law_651 : opAt m_Law 651 = sIld 3 652 := (opAt_of (M := m_Law) (i := .iload_n 3) (n := 1) ((TL_6 651 (by omega)).trans (lk_head rfl))).trans rfl
theorem i_Law_652 : opAt m_Law 652 = sPush (.int (Int32.ofInt 3)) 653 := (opAt_of (M := m_Law) (i := .iconst 3) (n := 1) ((TL_6 652 (by omega)).trans (lk_head rfl))).trans rfl
theorem i_Law_653 : opAt m_Law 653 = sBI (fun x y => x + y) 654 := (opAt_of (M := m_Law) (i := .iadd) (n := 1) ((TL_6 653 (by omega)).trans (lk_head rfl))).trans rfl
theorem i_Law_654 : opAt m_Law 654 = sIal 655 := (opAt_of (M := m_Law) (i := .iaload) (n := 1) ((TL_6 654 (by omega)).trans (lk_head rfl))).trans rfl
theorem i_Law_655 : opAt m_Law 655 = sAld 0 656 := (opAt_of (M := m_Law) (i := .aload_n 0) (n := 1) ((TL_6 655 (by omega)).trans (lk_head rfl))).trans rfl
theorem i_Law_656 : opAt m_Law 656 = sIld 3 657 := (opAt_of (M := m_Law) (i := .iload_n 3) (n := 1) ((TL_6 656 (by omega)).trans (lk_head rfl))).trans rfl
theorem i_Law_657 : opAt m_Law 657 = sPush (.int (Int32.ofInt 4)) 658 := (opAt_of (M := m_Law) (i := .iconst 4) (n := 1) ((TL_6 657 (by omega)).trans (lk_head rfl))).trans rfl
theorem i_Law_658 : opAt m_Law 658 = sBI (fun x y => x + y) 659 := (opAt_of (M := m_Law) (i := .iadd) (n := 1) ((TL_6 658 (by omega)).trans (lk_head rfl))).trans rfl
theorem i_Law_659 : opAt m_Law 659 = sIal 660 := (opAt_of (M := m_Law) (i := .iaload) (n := 1) ((TL_6 659 (by omega)).trans (lk_head rfl))).trans rfl
theorem i_Law_660 : opAt m_Law 660 = sAld 0 661 := (opAt_of (M := m_Law) (i := .aload_n 0) (n := 1) ((TL_6 660 (by omega)).trans (lk_head rfl))).trans rfl
theorem i_Law_661 : opAt m_Law 661 = sIld 3 662 := (opAt_of (M := m_Law) (i := .iload_n 3) (n := 1) ((TL_6 661 (by omega)).trans (lk_head rfl))).trans rfl
theorem i_Law_662 : opAt m_Law 662 = sPush (.int (Int32.ofInt 5)) 663 := (opAt_of (M := m_Law) (i := .iconst 5) (n := 1) ((TL_6 662 (by omega)).trans (lk_head rfl))).trans rfl
theorem i_Law_663 : opAt m_Law 663 = sBI (fun x y => x + y) 664 := (opAt_of (M := m_Law) (i := .iadd) (n := 1) ((TL_6 663 (by omega)).trans (lk_head rfl))).trans rfl
theorem i_Law_664 : opAt m_Law 664 = sIal 665 := (opAt_of (M := m_Law) (i := .iaload) (n := 1) ((TL_6 664 (by omega)).trans (lk_head rfl))).trans rfl
theorem i_Law_665 : opAt m_Law 665 = sVir [(10, m_Fi_lets)] 0 5 668 := (opAt_of (M := m_Law) (i := .invokevirtual 73) (n := 3) ((TL_6 665 (by omega)).trans (lk_head rfl))).trans rfl
theorem i_Law_668 : opAt m_Law 668 = sAld 2 669 := (opAt_of (M := m_Law) (i := .aload_n 2) (n := 1) ((TL_7 668 (by omega)).trans (lk_head rfl))).trans rfl
theorem i_Law_669 : opAt m_Law 669 = sAld 0 670 := (opAt_of (M := m_Law) (i := .aload_n 0) (n := 1) ((TL_7 669 (by omega)).trans (lk_head rfl))).trans rfl
theorem i_Law_670 : opAt m_Law 670 = sIld 3 671 := (opAt_of (M := m_Law) (i := .iload_n 3) (n := 1) ((TL_7 670 (by omega)).trans (lk_head rfl))).trans rfl
theorem i_Law_671 : opAt m_Law 671 = sPush (.int (Int32.ofInt 1)) 672 := (opAt_of (M := m_Law) (i := .iconst 1) (n := 1) ((TL_7 671 (by omega)).trans (lk_head rfl))).trans rfl
theorem i_Law_672 : opAt m_Law 672 = sBI (fun x y => x + y) 673 := (opAt_of (M := m_Law) (i := .iadd) (n := 1) ((TL_7 672 (by omega)).trans (lk_head rfl))).trans rfl
theorem i_Law_673 : opAt m_Law 673 = sIal 674 := (opAt_of (M := m_Law) (i := .iaload) (n := 1) ((TL_7 673 (by omega)).trans (lk_head rfl))).trans rfl
theorem i_Law_674 : opAt m_Law 674 = sAld 0 675 := (opAt_of (M := m_Law) (i := .aload_n 0) (n := 1) ((TL_7 674 (by omega)).trans (lk_head rfl))).trans rfl
theorem i_Law_675 : opAt m_Law 675 = sIld 3 676 := (opAt_of (M := m_Law) (i := .iload_n 3) (n := 1) ((TL_7 675 (by omega)).trans (lk_head rfl))).trans rfl
theorem i_Law_676 : opAt m_Law 676 = sPush (.int (Int32.ofInt 2)) 677 := (opAt_of (M := m_Law) (i := .iconst 2) (n := 1) ((TL_7 676 (by omega)).trans (lk_head rfl))).trans rfl
theorem i_Law_677 : opAt m_Law 677 = sBI (fun x y => x + y) 678 := (opAt_of (M := m_Law) (i := .iadd) (n := 1) ((TL_7 677 (by omega)).trans (lk_head rfl))).trans rfl
theorem i_Law_678 : opAt m_Law 678 = sIal 679 := (opAt_of (M := m_Law) (i := .iaload) (n := 1) ((TL_7 678 (by omega)).trans (lk_head rfl))).trans rfl
theorem i_Law_679 : opAt m_Law 679 = sAld 0 680 := (opAt_of (M := m_Law) (i := .aload_n 0) (n := 1) ((TL_7 679 (by omega)).trans (lk_head rfl))).trans rfl
theorem i_Law_680 : opAt m_Law 680 = sIld 3 681 := (opAt_of (M := m_Law) (i := .iload_n 3) (n := 1) ((TL_7 680 (by omega)).trans (lk_head rfl))).trans rfl
theorem i_Law_681 : opAt m_Law 681 = sPush (.int (Int32.ofInt 3)) 682 := (opAt_of (M := m_Law) (i := .iconst 3) (n := 1) ((TL_7 681 (by omega)).trans (lk_head rfl))).trans rfl
theorem i_Law_682 : opAt m_Law 682 = sBI (fun x y => x + y) 683 := (opAt_of (M := m_Law) (i := .iadd) (n := 1) ((TL_7 682 (by omega)).trans (lk_head rfl))).trans rfl
theorem i_Law_683 : opAt m_Law 683 = sIal 684 := (opAt_of (M := m_Law) (i := .iaload) (n := 1) ((TL_7 683 (by omega)).trans (lk_head rfl))).trans rfl
theorem i_Law_684 : opAt m_Law 684 = sAld 0 685 := (opAt_of (M := m_Law) (i := .aload_n 0) (n := 1) ((TL_7 684 (by omega)).trans (lk_head rfl))).trans rfl
theorem i_Law_685 : opAt m_Law 685 = sIld 3 686 := (opAt_of (M := m_Law) (i := .iload_n 3) (n := 1) ((TL_7 685 (by omega)).trans (lk_head rfl))).trans rfl
theorem i_Law_686 : opAt m_Law 686 = sPush (.int (Int32.ofInt 4)) 687 := (opAt_of (M := m_Law) (i := .iconst 4) (n := 1) ((TL_7 686 (by omega)).trans (lk_head rfl))).trans rfl
theorem i_Law_687 : opAt m_Law 687 = sBI (fun x y => x + y) 688 := (opAt_of (M := m_Law) (i := .iadd) (n := 1) ((TL_7 687 (by omega)).trans (lk_head rfl))).trans rfl
theorem i_Law_688 : opAt m_Law 688 = sIal 689 := (opAt_of (M := m_Law) (i := .iaload) (n := 1) ((TL_7 688 (by omega)).trans (lk_head rfl))).trans rfl
theorem i_Law_689 : opAt m_Law 689 = sAld 0 690 := (opAt_of (M := m_Law) (i := .aload_n 0) (n := 1) ((TL_7 689 (by omega)).trans (lk_head rfl))).trans rfl
theorem i_Law_690 : opAt m_Law 690 = sIld 3 691 := (opAt_of (M := m_Law) (i := .iload_n 3) (n := 1) ((TL_7 690 (by omega)).trans (lk_head rfl))).trans rfl
theorem i_Law_691 : opAt m_Law 691 = sPush (.int (Int32.ofInt 5)) 692 := (opAt_of (M := m_Law) (i := .iconst 5) (n := 1) ((TL_7 691 (by omega)).trans (lk_head rfl))).trans rfl
theorem i_Law_692 : opAt m_Law 692 = sBI (fun x y => x + y) 693 := (opAt_of (M := m_Law) (i := .iadd) (n := 1) ((TL_7 692 (by omega)).trans (lk_head rfl))).trans rfl
theorem i_Law_693 : opAt m_Law 693 = sIal 694 := (opAt_of (M := m_Law) (i := .iaload) (n := 1) ((TL_7 693 (by omega)).trans (lk_head rfl))).trans rfl
theorem i_Law_694 : opAt m_Law 694 = sVir [(11, m_Mo_lets)] 0 5 697 := (opAt_of (M := m_Law) (i := .invokevirtual 77) (n := 3) ((TL_7 694 (by omega)).trans (lk_head rfl))).trans rfl
theorem i_Law_697 : opAt m_Law 697 = sCm .eq 1260 700 := (opAt_of (M := m_Law) (i := .if_icmp .eq 563) (n := 3) ((TL_7 697 (by omega)).trans (lk_head rfl))).trans rfl
theorem i_Law_700 : opAt m_Law 700 = sPush (.int (Int32.ofInt 0)) 701 := (opAt_of (M := m_Law) (i := .iconst 0) (n := 1) ((TL_7 700 (by omega)).trans (lk_head rfl))).trans rfl
theorem i_Law_701 : opAt m_Law 701 = sIret .boolean := (opAt_of (M := m_Law) (i := .ireturn) (n := 1) ((TL_7 701 (by omega)).trans (lk_head rfl))).trans rfl
theorem i_Law_702 : opAt m_Law 702 = sAld 1 703 := (opAt_of (M := m_Law) (i := .aload_n 1) (n := 1) ((TL_7 702 (by omega)).trans (lk_head rfl))).trans rfl
theorem i_Law_703 : opAt m_Law 703 = sAld 0 704 := (opAt_of (M := m_Law) (i := .aload_n 0) (n := 1) ((TL_7 703 (by omega)).trans (lk_head rfl))).trans rfl
theorem i_Law_704 : opAt m_Law 704 = sIld 3 705 := (opAt_of (M := m_Law) (i := .iload_n 3) (n := 1) ((TL_7 704 (by omega)).trans (lk_head rfl))).trans rfl
theorem i_Law_705 : opAt m_Law 705 = sPush (.int (Int32.ofInt 1)) 706 := (opAt_of (M := m_Law) (i := .iconst 1) (n := 1) ((TL_7 705 (by omega)).trans (lk_head rfl))).trans rfl
theorem i_Law_706 : opAt m_Law 706 = sBI (fun x y => x + y) 707 := (opAt_of (M := m_Law) (i := .iadd) (n := 1) ((TL_7 706 (by omega)).trans (lk_head rfl))).trans rfl
theorem i_Law_707 : opAt m_Law 707 = sIal 708 := (opAt_of (M := m_Law) (i := .iaload) (n := 1) ((TL_7 707 (by omega)).trans (lk_head rfl))).trans rfl
theorem i_Law_708 : opAt m_Law 708 = sAld 0 709 := (opAt_of (M := m_Law) (i := .aload_n 0) (n := 1) ((TL_7 708 (by omega)).trans (lk_head rfl))).trans rfl
theorem i_Law_709 : opAt m_Law 709 = sIld 3 710 := (opAt_of (M := m_Law) (i := .iload_n 3) (n := 1) ((TL_7 709 (by omega)).trans (lk_head rfl))).trans rfl
theorem i_Law_710 : opAt m_Law 710 = sPush (.int (Int32.ofInt 2)) 711 := (opAt_of (M := m_Law) (i := .iconst 2) (n := 1) ((TL_7 710 (by omega)).trans (lk_head rfl))).trans rfl
theorem i_Law_711 : opAt m_Law 711 = sBI (fun x y => x + y) 712 := (opAt_of (M := m_Law) (i := .iadd) (n := 1) ((TL_7 711 (by omega)).trans (lk_head rfl))).trans rfl
theorem i_Law_712 : opAt m_Law 712 = sIal 713 := (opAt_of (M := m_Law) (i := .iaload) (n := 1) ((TL_7 712 (by omega)).trans (lk_head rfl))).trans rfl
theorem i_Law_713 : opAt m_Law 713 = sAld 0 714 := (opAt_of (M := m_Law) (i := .aload_n 0) (n := 1) ((TL_7 713 (by omega)).trans (lk_head rfl))).trans rfl
theorem i_Law_714 : opAt m_Law 714 = sIld 3 715 := (opAt_of (M := m_Law) (i := .iload_n 3) (n := 1) ((TL_7 714 (by omega)).trans (lk_head rfl))).trans rfl
theorem i_Law_715 : opAt m_Law 715 = sPush (.int (Int32.ofInt 3)) 716 := (opAt_of (M := m_Law) (i := .iconst 3) (n := 1) ((TL_7 715 (by omega)).trans (lk_head rfl))).trans rfl
theorem i_Law_716 : opAt m_Law 716 = sBI (fun x y => x + y) 717 := (opAt_of (M := m_Law) (i := .iadd) (n := 1) ((TL_7 716 (by omega)).trans (lk_head rfl))).trans rfl
theorem i_Law_717 : opAt m_Law 717 = sIal 718 := (opAt_of (M := m_Law) (i := .iaload) (n := 1) ((TL_7 717 (by omega)).trans (lk_head rfl))).trans rfl
theorem i_Law_718 : opAt m_Law 718 = sVir [(10, m_Fi_rounds)] 0 3 721 := (opAt_of (M := m_Law) (i := .invokevirtual 78) (n := 3) ((TL_7 718 (by omega)).trans (lk_head rfl))).trans rfl
theorem i_Law_721 : opAt m_Law 721 = sAld 2 722 := (opAt_of (M := m_Law) (i := .aload_n 2) (n := 1) ((TL_7 721 (by omega)).trans (lk_head rfl))).trans rfl
theorem i_Law_722 : opAt m_Law 722 = sAld 0 723 := (opAt_of (M := m_Law) (i := .aload_n 0) (n := 1) ((TL_7 722 (by omega)).trans (lk_head rfl))).trans rfl
theorem i_Law_723 : opAt m_Law 723 = sIld 3 724 := (opAt_of (M := m_Law) (i := .iload_n 3) (n := 1) ((TL_7 723 (by omega)).trans (lk_head rfl))).trans rfl
theorem i_Law_724 : opAt m_Law 724 = sPush (.int (Int32.ofInt 1)) 725 := (opAt_of (M := m_Law) (i := .iconst 1) (n := 1) ((TL_7 724 (by omega)).trans (lk_head rfl))).trans rfl
theorem i_Law_725 : opAt m_Law 725 = sBI (fun x y => x + y) 726 := (opAt_of (M := m_Law) (i := .iadd) (n := 1) ((TL_7 725 (by omega)).trans (lk_head rfl))).trans rfl
theorem i_Law_726 : opAt m_Law 726 = sIal 727 := (opAt_of (M := m_Law) (i := .iaload) (n := 1) ((TL_7 726 (by omega)).trans (lk_head rfl))).trans rfl
theorem i_Law_727 : opAt m_Law 727 = sAld 0 728 := (opAt_of (M := m_Law) (i := .aload_n 0) (n := 1) ((TL_7 727 (by omega)).trans (lk_head rfl))).trans rfl
theorem i_Law_728 : opAt m_Law 728 = sIld 3 729 := (opAt_of (M := m_Law) (i := .iload_n 3) (n := 1) ((TL_7 728 (by omega)).trans (lk_head rfl))).trans rfl
theorem i_Law_729 : opAt m_Law 729 = sPush (.int (Int32.ofInt 2)) 730 := (opAt_of (M := m_Law) (i := .iconst 2) (n := 1) ((TL_7 729 (by omega)).trans (lk_head rfl))).trans rfl
theorem i_Law_730 : opAt m_Law 730 = sBI (fun x y => x + y) 731 := (opAt_of (M := m_Law) (i := .iadd) (n := 1) ((TL_7 730 (by omega)).trans (lk_head rfl))).trans rfl
theorem i_Law_731 : opAt m_Law 731 = sIal 732 := (opAt_of (M := m_Law) (i := .iaload) (n := 1) ((TL_7 731 (by omega)).trans (lk_head rfl))).trans rfl
theorem i_Law_732 : opAt m_Law 732 = sAld 0 733 := (opAt_of (M := m_Law) (i := .aload_n 0) (n := 1) ((TL_7 732 (by omega)).trans (lk_head rfl))).trans rfl
theorem i_Law_733 : opAt m_Law 733 = sIld 3 734 := (opAt_of (M := m_Law) (i := .iload_n 3) (n := 1) ((TL_7 733 (by omega)).trans (lk_head rfl))).trans rfl
theorem i_Law_734 : opAt m_Law 734 = sPush (.int (Int32.ofInt 3)) 735 := (opAt_of (M := m_Law) (i := .iconst 3) (n := 1) ((TL_8 734 (by omega)).trans (lk_head rfl))).trans rfl
theorem i_Law_735 : opAt m_Law 735 = sBI (fun x y => x + y) 736 := (opAt_of (M := m_Law) (i := .iadd) (n := 1) ((TL_8 735 (by omega)).trans (lk_head rfl))).trans rfl
theorem i_Law_736 : opAt m_Law 736 = sIal 737 := (opAt_of (M := m_Law) (i := .iaload) (n := 1) ((TL_8 736 (by omega)).trans (lk_head rfl))).trans rfl
theorem i_Law_737 : opAt m_Law 737 = sVir [(11, m_Mo_rounds)] 0 3 740 := (opAt_of (M := m_Law) (i := .invokevirtual 81) (n := 3) ((TL_8 737 (by omega)).trans (lk_head rfl))).trans rfl
theorem i_Law_740 : opAt m_Law 740 = sCm .eq 1260 743 := (opAt_of (M := m_Law) (i := .if_icmp .eq 520) (n := 3) ((TL_8 740 (by omega)).trans (lk_head rfl))).trans rfl
theorem i_Law_743 : opAt m_Law 743 = sPush (.int (Int32.ofInt 0)) 744 := (opAt_of (M := m_Law) (i := .iconst 0) (n := 1) ((TL_8 743 (by omega)).trans (lk_head rfl))).trans rfl
theorem i_Law_744 : opAt m_Law 744 = sIret .boolean := (opAt_of (M := m_Law) (i := .ireturn) (n := 1) ((TL_8 744 (by omega)).trans (lk_head rfl))).trans rfl
theorem i_Law_745 : opAt m_Law 745 = sAld 1 746 := (opAt_of (M := m_Law) (i := .aload_n 1) (n := 1) ((TL_8 745 (by omega)).trans (lk_head rfl))).trans rfl
theorem i_Law_746 : opAt m_Law 746 = sAld 0 747 := (opAt_of (M := m_Law) (i := .aload_n 0) (n := 1) ((TL_8 746 (by omega)).trans (lk_head rfl))).trans rfl
theorem i_Law_747 : opAt m_Law 747 = sIld 3 748 := (opAt_of (M := m_Law) (i := .iload_n 3) (n := 1) ((TL_8 747 (by omega)).trans (lk_head rfl))).trans rfl
theorem i_Law_748 : opAt m_Law 748 = sPush (.int (Int32.ofInt 1)) 749 := (opAt_of (M := m_Law) (i := .iconst 1) (n := 1) ((TL_8 748 (by omega)).trans (lk_head rfl))).trans rfl
theorem i_Law_749 : opAt m_Law 749 = sBI (fun x y => x + y) 750 := (opAt_of (M := m_Law) (i := .iadd) (n := 1) ((TL_8 749 (by omega)).trans (lk_head rfl))).trans rfl
theorem i_Law_750 : opAt m_Law 750 = sIal 751 := (opAt_of (M := m_Law) (i := .iaload) (n := 1) ((TL_8 750 (by omega)).trans (lk_head rfl))).trans rfl
theorem i_Law_751 : opAt m_Law 751 = sAld 0 752 := (opAt_of (M := m_Law) (i := .aload_n 0) (n := 1) ((TL_8 751 (by omega)).trans (lk_head rfl))).trans rfl
theorem i_Law_752 : opAt m_Law 752 = sIld 3 753 := (opAt_of (M := m_Law) (i := .iload_n 3) (n := 1) ((TL_8 752 (by omega)).trans (lk_head rfl))).trans rfl
theorem i_Law_753 : opAt m_Law 753 = sPush (.int (Int32.ofInt 2)) 754 := (opAt_of (M := m_Law) (i := .iconst 2) (n := 1) ((TL_8 753 (by omega)).trans (lk_head rfl))).trans rfl
theorem i_Law_754 : opAt m_Law 754 = sBI (fun x y => x + y) 755 := (opAt_of (M := m_Law) (i := .iadd) (n := 1) ((TL_8 754 (by omega)).trans (lk_head rfl))).trans rfl
theorem i_Law_755 : opAt m_Law 755 = sIal 756 := (opAt_of (M := m_Law) (i := .iaload) (n := 1) ((TL_8 755 (by omega)).trans (lk_head rfl))).trans rfl
theorem i_Law_756 : opAt m_Law 756 = sAld 0 757 := (opAt_of (M := m_Law) (i := .aload_n 0) (n := 1) ((TL_8 756 (by omega)).trans (lk_head rfl))).trans rfl
theorem i_Law_757 : opAt m_Law 757 = sIld 3 758 := (opAt_of (M := m_Law) (i := .iload_n 3) (n := 1) ((TL_8 757 (by omega)).trans (lk_head rfl))).trans rfl
theorem i_Law_758 : opAt m_Law 758 = sPush (.int (Int32.ofInt 3)) 759 := (opAt_of (M := m_Law) (i := .iconst 3) (n := 1) ((TL_8 758 (by omega)).trans (lk_head rfl))).trans rfl
theorem i_Law_759 : opAt m_Law 759 = sBI (fun x y => x + y) 760 := (opAt_of (M := m_Law) (i := .iadd) (n := 1) ((TL_8 759 (by omega)).trans (lk_head rfl))).trans rfl
theorem i_Law_760 : opAt m_Law 760 = sIal 761 := (opAt_of (M := m_Law) (i := .iaload) (n := 1) ((TL_8 760 (by omega)).trans (lk_head rfl))).trans rfl
theorem i_Law_761 : opAt m_Law 761 = sAld 0 762 := (opAt_of (M := m_Law) (i := .aload_n 0) (n := 1) ((TL_8 761 (by omega)).trans (lk_head rfl))).trans rfl
theorem i_Law_762 : opAt m_Law 762 = sIld 3 763 := (opAt_of (M := m_Law) (i := .iload_n 3) (n := 1) ((TL_8 762 (by omega)).trans (lk_head rfl))).trans rfl
theorem i_Law_763 : opAt m_Law 763 = sPush (.int (Int32.ofInt 4)) 764 := (opAt_of (M := m_Law) (i := .iconst 4) (n := 1) ((TL_8 763 (by omega)).trans (lk_head rfl))).trans rfl
theorem i_Law_764 : opAt m_Law 764 = sBI (fun x y => x + y) 765 := (opAt_of (M := m_Law) (i := .iadd) (n := 1) ((TL_8 764 (by omega)).trans (lk_head rfl))).trans rfl
theorem i_Law_765 : opAt m_Law 765 = sIal 766 := (opAt_of (M := m_Law) (i := .iaload) (n := 1) ((TL_8 765 (by omega)).trans (lk_head rfl))).trans rfl
theorem i_Law_766 : opAt m_Law 766 = sAld 0 767 := (opAt_of (M := m_Law) (i := .aload_n 0) (n := 1) ((TL_8 766 (by omega)).trans (lk_head rfl))).trans rfl
theorem i_Law_767 : opAt m_Law 767 = sIld 3 768 := (opAt_of (M := m_Law) (i := .iload_n 3) (n := 1) ((TL_8 767 (by omega)).trans (lk_head rfl))).trans rfl
theorem i_Law_768 : opAt m_Law 768 = sPush (.int (Int32.ofInt 5)) 769 := (opAt_of (M := m_Law) (i := .iconst 5) (n := 1) ((TL_8 768 (by omega)).trans (lk_head rfl))).trans rfl
theorem i_Law_769 : opAt m_Law 769 = sBI (fun x y => x + y) 770 := (opAt_of (M := m_Law) (i := .iadd) (n := 1) ((TL_8 769 (by omega)).trans (lk_head rfl))).trans rfl
theorem i_Law_770 : opAt m_Law 770 = sIal 771 := (opAt_of (M := m_Law) (i := .iaload) (n := 1) ((TL_8 770 (by omega)).trans (lk_head rfl))).trans rfl
theorem i_Law_771 : opAt m_Law 771 = sAld 0 772 := (opAt_of (M := m_Law) (i := .aload_n 0) (n := 1) ((TL_8 771 (by omega)).trans (lk_head rfl))).trans rfl
theorem i_Law_772 : opAt m_Law 772 = sIld 3 773 := (opAt_of (M := m_Law) (i := .iload_n 3) (n := 1) ((TL_8 772 (by omega)).trans (lk_head rfl))).trans rfl
theorem i_Law_773 : opAt m_Law 773 = sPush (.int (Int8.ofInt 6).toInt32) 775 := (opAt_of (M := m_Law) (i := .bipush 6) (n := 2) ((TL_8 773 (by omega)).trans (lk_head rfl))).trans rfl
theorem i_Law_775 : opAt m_Law 775 = sBI (fun x y => x + y) 776 := (opAt_of (M := m_Law) (i := .iadd) (n := 1) ((TL_8 775 (by omega)).trans (lk_head rfl))).trans rfl
theorem i_Law_776 : opAt m_Law 776 = sIal 777 := (opAt_of (M := m_Law) (i := .iaload) (n := 1) ((TL_8 776 (by omega)).trans (lk_head rfl))).trans rfl
theorem i_Law_777 : opAt m_Law 777 = sVir [(10, m_Fi_chance)] 0 6 780 := (opAt_of (M := m_Law) (i := .invokevirtual 82) (n := 3) ((TL_8 777 (by omega)).trans (lk_head rfl))).trans rfl
theorem i_Law_780 : opAt m_Law 780 = sAld 2 781 := (opAt_of (M := m_Law) (i := .aload_n 2) (n := 1) ((TL_8 780 (by omega)).trans (lk_head rfl))).trans rfl
theorem i_Law_781 : opAt m_Law 781 = sAld 0 782 := (opAt_of (M := m_Law) (i := .aload_n 0) (n := 1) ((TL_8 781 (by omega)).trans (lk_head rfl))).trans rfl
theorem i_Law_782 : opAt m_Law 782 = sIld 3 783 := (opAt_of (M := m_Law) (i := .iload_n 3) (n := 1) ((TL_8 782 (by omega)).trans (lk_head rfl))).trans rfl
theorem i_Law_783 : opAt m_Law 783 = sPush (.int (Int32.ofInt 1)) 784 := (opAt_of (M := m_Law) (i := .iconst 1) (n := 1) ((TL_8 783 (by omega)).trans (lk_head rfl))).trans rfl
theorem i_Law_784 : opAt m_Law 784 = sBI (fun x y => x + y) 785 := (opAt_of (M := m_Law) (i := .iadd) (n := 1) ((TL_8 784 (by omega)).trans (lk_head rfl))).trans rfl
theorem i_Law_785 : opAt m_Law 785 = sIal 786 := (opAt_of (M := m_Law) (i := .iaload) (n := 1) ((TL_8 785 (by omega)).trans (lk_head rfl))).trans rfl
theorem i_Law_786 : opAt m_Law 786 = sAld 0 787 := (opAt_of (M := m_Law) (i := .aload_n 0) (n := 1) ((TL_8 786 (by omega)).trans (lk_head rfl))).trans rfl
theorem i_Law_787 : opAt m_Law 787 = sIld 3 788 := (opAt_of (M := m_Law) (i := .iload_n 3) (n := 1) ((TL_8 787 (by omega)).trans (lk_head rfl))).trans rfl
theorem i_Law_788 : opAt m_Law 788 = sPush (.int (Int32.ofInt 2)) 789 := (opAt_of (M := m_Law) (i := .iconst 2) (n := 1) ((TL_8 788 (by omega)).trans (lk_head rfl))).trans rfl
theorem i_Law_789 : opAt m_Law 789 = sBI (fun x y => x + y) 790 := (opAt_of (M := m_Law) (i := .iadd) (n := 1) ((TL_8 789 (by omega)).trans (lk_head rfl))).trans rfl
theorem i_Law_790 : opAt m_Law 790 = sIal 791 := (opAt_of (M := m_Law) (i := .iaload) (n := 1) ((TL_8 790 (by omega)).trans (lk_head rfl))).trans rfl
theorem i_Law_791 : opAt m_Law 791 = sAld 0 792 := (opAt_of (M := m_Law) (i := .aload_n 0) (n := 1) ((TL_8 791 (by omega)).trans (lk_head rfl))).trans rfl
theorem i_Law_792 : opAt m_Law 792 = sIld 3 793 := (opAt_of (M := m_Law) (i := .iload_n 3) (n := 1) ((TL_8 792 (by omega)).trans (lk_head rfl))).trans rfl
theorem i_Law_793 : opAt m_Law 793 = sPush (.int (Int32.ofInt 3)) 794 := (opAt_of (M := m_Law) (i := .iconst 3) (n := 1) ((TL_8 793 (by omega)).trans (lk_head rfl))).trans rfl
theorem i_Law_794 : opAt m_Law 794 = sBI (fun x y => x + y) 795 := (opAt_of (M := m_Law) (i := .iadd) (n := 1) ((TL_8 794 (by omega)).trans (lk_head rfl))).trans rfl
theorem i_Law_795 : opAt m_Law 795 = sIal 796 := (opAt_of (M := m_Law) (i := .iaload) (n := 1) ((TL_8 795 (by omega)).trans (lk_head rfl))).trans rfl
theorem i_Law_796 : opAt m_Law 796 = sAld 0 797 := (opAt_of (M := m_Law) (i := .aload_n 0) (n := 1) ((TL_8 796 (by omega)).trans (lk_head rfl))).trans rfl
theorem i_Law_797 : opAt m_Law 797 = sIld 3 798 := (opAt_of (M := m_Law) (i := .iload_n 3) (n := 1) ((TL_8 797 (by omega)).trans (lk_head rfl))).trans rfl
theorem i_Law_798 : opAt m_Law 798 = sPush (.int (Int32.ofInt 4)) 799 := (opAt_of (M := m_Law) (i := .iconst 4) (n := 1) ((TL_8 798 (by omega)).trans (lk_head rfl))).trans rfl
theorem i_Law_799 : opAt m_Law 799 = sBI (fun x y => x + y) 800 := (opAt_of (M := m_Law) (i := .iadd) (n := 1) ((TL_8 799 (by omega)).trans (lk_head rfl))).trans rfl
theorem i_Law_800 : opAt m_Law 800 = sIal 801 := (opAt_of (M := m_Law) (i := .iaload) (n := 1) ((TL_8 800 (by omega)).trans (lk_head rfl))).trans rfl
theorem i_Law_801 : opAt m_Law 801 = sAld 0 802 := (opAt_of (M := m_Law) (i := .aload_n 0) (n := 1) ((TL_9 801 (by omega)).trans (lk_head rfl))).trans rfl
theorem i_Law_802 : opAt m_Law 802 = sIld 3 803 := (opAt_of (M := m_Law) (i := .iload_n 3) (n := 1) ((TL_9 802 (by omega)).trans (lk_head rfl))).trans rfl
theorem i_Law_803 : opAt m_Law 803 = sPush (.int (Int32.ofInt 5)) 804 := (opAt_of (M := m_Law) (i := .iconst 5) (n := 1) ((TL_9 803 (by omega)).trans (lk_head rfl))).trans rfl
theorem i_Law_804 : opAt m_Law 804 = sBI (fun x y => x + y) 805 := (opAt_of (M := m_Law) (i := .iadd) (n := 1) ((TL_9 804 (by omega)).trans (lk_head rfl))).trans rfl
theorem i_Law_805 : opAt m_Law 805 = sIal 806 := (opAt_of (M := m_Law) (i := .iaload) (n := 1) ((TL_9 805 (by omega)).trans (lk_head rfl))).trans rfl
theorem i_Law_806 : opAt m_Law 806 = sAld 0 807 := (opAt_of (M := m_Law) (i := .aload_n 0) (n := 1) ((TL_9 806 (by omega)).trans (lk_head rfl))).trans rfl
theorem i_Law_807 : opAt m_Law 807 = sIld 3 808 := (opAt_of (M := m_Law) (i := .iload_n 3) (n := 1) ((TL_9 807 (by omega)).trans (lk_head rfl))).trans rfl
theorem i_Law_808 : opAt m_Law 808 = sPush (.int (Int8.ofInt 6).toInt32) 810 := (opAt_of (M := m_Law) (i := .bipush 6) (n := 2) ((TL_9 808 (by omega)).trans (lk_head rfl))).trans rfl
theorem i_Law_810 : opAt m_Law 810 = sBI (fun x y => x + y) 811 := (opAt_of (M := m_Law) (i := .iadd) (n := 1) ((TL_9 810 (by omega)).trans (lk_head rfl))).trans rfl
theorem i_Law_811 : opAt m_Law 811 = sIal 812 := (opAt_of (M := m_Law) (i := .iaload) (n := 1) ((TL_9 811 (by omega)).trans (lk_head rfl))).trans rfl
theorem i_Law_812 : opAt m_Law 812 = sVir [(11, m_Mo_chance)] 0 6 815 := (opAt_of (M := m_Law) (i := .invokevirtual 86) (n := 3) ((TL_9 812 (by omega)).trans (lk_head rfl))).trans rfl
theorem i_Law_815 : opAt m_Law 815 = sCmp 816 := (opAt_of (M := m_Law) (i := .lcmp) (n := 1) ((TL_9 815 (by omega)).trans (lk_head rfl))).trans rfl
theorem i_Law_816 : opAt m_Law 816 = sIf .eq 1260 819 := (opAt_of (M := m_Law) (i := .ifCond .eq 444) (n := 3) ((TL_9 816 (by omega)).trans (lk_head rfl))).trans rfl
theorem i_Law_819 : opAt m_Law 819 = sPush (.int (Int32.ofInt 0)) 820 := (opAt_of (M := m_Law) (i := .iconst 0) (n := 1) ((TL_9 819 (by omega)).trans (lk_head rfl))).trans rfl
theorem i_Law_820 : opAt m_Law 820 = sIret .boolean := (opAt_of (M := m_Law) (i := .ireturn) (n := 1) ((TL_9 820 (by omega)).trans (lk_head rfl))).trans rfl
theorem i_Law_821 : opAt m_Law 821 = sAld 1 822 := (opAt_of (M := m_Law) (i := .aload_n 1) (n := 1) ((TL_9 821 (by omega)).trans (lk_head rfl))).trans rfl
theorem i_Law_822 : opAt m_Law 822 = sAld 0 823 := (opAt_of (M := m_Law) (i := .aload_n 0) (n := 1) ((TL_9 822 (by omega)).trans (lk_head rfl))).trans rfl
theorem i_Law_823 : opAt m_Law 823 = sIld 3 824 := (opAt_of (M := m_Law) (i := .iload_n 3) (n := 1) ((TL_9 823 (by omega)).trans (lk_head rfl))).trans rfl
theorem i_Law_824 : opAt m_Law 824 = sPush (.int (Int32.ofInt 1)) 825 := (opAt_of (M := m_Law) (i := .iconst 1) (n := 1) ((TL_9 824 (by omega)).trans (lk_head rfl))).trans rfl
theorem i_Law_825 : opAt m_Law 825 = sBI (fun x y => x + y) 826 := (opAt_of (M := m_Law) (i := .iadd) (n := 1) ((TL_9 825 (by omega)).trans (lk_head rfl))).trans rfl
theorem i_Law_826 : opAt m_Law 826 = sIal 827 := (opAt_of (M := m_Law) (i := .iaload) (n := 1) ((TL_9 826 (by omega)).trans (lk_head rfl))).trans rfl
theorem i_Law_827 : opAt m_Law 827 = sVir [(10, m_Fi_whose)] 0 1 830 := (opAt_of (M := m_Law) (i := .invokevirtual 87) (n := 3) ((TL_9 827 (by omega)).trans (lk_head rfl))).trans rfl
theorem i_Law_830 : opAt m_Law 830 = sAld 2 831 := (opAt_of (M := m_Law) (i := .aload_n 2) (n := 1) ((TL_9 830 (by omega)).trans (lk_head rfl))).trans rfl
theorem i_Law_831 : opAt m_Law 831 = sAld 0 832 := (opAt_of (M := m_Law) (i := .aload_n 0) (n := 1) ((TL_9 831 (by omega)).trans (lk_head rfl))).trans rfl
theorem i_Law_832 : opAt m_Law 832 = sIld 3 833 := (opAt_of (M := m_Law) (i := .iload_n 3) (n := 1) ((TL_9 832 (by omega)).trans (lk_head rfl))).trans rfl
theorem i_Law_833 : opAt m_Law 833 = sPush (.int (Int32.ofInt 1)) 834 := (opAt_of (M := m_Law) (i := .iconst 1) (n := 1) ((TL_9 833 (by omega)).trans (lk_head rfl))).trans rfl
theorem i_Law_834 : opAt m_Law 834 = sBI (fun x y => x + y) 835 := (opAt_of (M := m_Law) (i := .iadd) (n := 1) ((TL_9 834 (by omega)).trans (lk_head rfl))).trans rfl
theorem i_Law_835 : opAt m_Law 835 = sIal 836 := (opAt_of (M := m_Law) (i := .iaload) (n := 1) ((TL_9 835 (by omega)).trans (lk_head rfl))).trans rfl
theorem i_Law_836 : opAt m_Law 836 = sVir [(11, m_Mo_whose)] 0 1 839 := (opAt_of (M := m_Law) (i := .invokevirtual 90) (n := 3) ((TL_9 836 (by omega)).trans (lk_head rfl))).trans rfl
theorem i_Law_839 : opAt m_Law 839 = sCm .eq 1260 842 := (opAt_of (M := m_Law) (i := .if_icmp .eq 421) (n := 3) ((TL_9 839 (by omega)).trans (lk_head rfl))).trans rfl
theorem i_Law_842 : opAt m_Law 842 = sPush (.int (Int32.ofInt 0)) 843 := (opAt_of (M := m_Law) (i := .iconst 0) (n := 1) ((TL_9 842 (by omega)).trans (lk_head rfl))).trans rfl
theorem i_Law_843 : opAt m_Law 843 = sIret .boolean := (opAt_of (M := m_Law) (i := .ireturn) (n := 1) ((TL_9 843 (by omega)).trans (lk_head rfl))).trans rfl
theorem i_Law_844 : opAt m_Law 844 = sAld 1 845 := (opAt_of (M := m_Law) (i := .aload_n 1) (n := 1) ((TL_9 844 (by omega)).trans (lk_head rfl))).trans rfl
theorem i_Law_845 : opAt m_Law 845 = sAld 0 846 := (opAt_of (M := m_Law) (i := .aload_n 0) (n := 1) ((TL_9 845 (by omega)).trans (lk_head rfl))).trans rfl
theorem i_Law_846 : opAt m_Law 846 = sIld 3 847 := (opAt_of (M := m_Law) (i := .iload_n 3) (n := 1) ((TL_9 846 (by omega)).trans (lk_head rfl))).trans rfl
theorem i_Law_847 : opAt m_Law 847 = sPush (.int (Int32.ofInt 1)) 848 := (opAt_of (M := m_Law) (i := .iconst 1) (n := 1) ((TL_9 847 (by omega)).trans (lk_head rfl))).trans rfl
theorem i_Law_848 : opAt m_Law 848 = sBI (fun x y => x + y) 849 := (opAt_of (M := m_Law) (i := .iadd) (n := 1) ((TL_9 848 (by omega)).trans (lk_head rfl))).trans rfl
theorem i_Law_849 : opAt m_Law 849 = sIal 850 := (opAt_of (M := m_Law) (i := .iaload) (n := 1) ((TL_9 849 (by omega)).trans (lk_head rfl))).trans rfl
theorem i_Law_850 : opAt m_Law 850 = sAld 0 851 := (opAt_of (M := m_Law) (i := .aload_n 0) (n := 1) ((TL_9 850 (by omega)).trans (lk_head rfl))).trans rfl
theorem i_Law_851 : opAt m_Law 851 = sIld 3 852 := (opAt_of (M := m_Law) (i := .iload_n 3) (n := 1) ((TL_9 851 (by omega)).trans (lk_head rfl))).trans rfl
theorem i_Law_852 : opAt m_Law 852 = sPush (.int (Int32.ofInt 2)) 853 := (opAt_of (M := m_Law) (i := .iconst 2) (n := 1) ((TL_9 852 (by omega)).trans (lk_head rfl))).trans rfl
theorem i_Law_853 : opAt m_Law 853 = sBI (fun x y => x + y) 854 := (opAt_of (M := m_Law) (i := .iadd) (n := 1) ((TL_9 853 (by omega)).trans (lk_head rfl))).trans rfl
theorem i_Law_854 : opAt m_Law 854 = sIal 855 := (opAt_of (M := m_Law) (i := .iaload) (n := 1) ((TL_9 854 (by omega)).trans (lk_head rfl))).trans rfl
theorem i_Law_855 : opAt m_Law 855 = sAld 0 856 := (opAt_of (M := m_Law) (i := .aload_n 0) (n := 1) ((TL_9 855 (by omega)).trans (lk_head rfl))).trans rfl
theorem i_Law_856 : opAt m_Law 856 = sIld 3 857 := (opAt_of (M := m_Law) (i := .iload_n 3) (n := 1) ((TL_9 856 (by omega)).trans (lk_head rfl))).trans rfl
theorem i_Law_857 : opAt m_Law 857 = sPush (.int (Int32.ofInt 3)) 858 := (opAt_of (M := m_Law) (i := .iconst 3) (n := 1) ((TL_9 857 (by omega)).trans (lk_head rfl))).trans rfl
theorem i_Law_858 : opAt m_Law 858 = sBI (fun x y => x + y) 859 := (opAt_of (M := m_Law) (i := .iadd) (n := 1) ((TL_9 858 (by omega)).trans (lk_head rfl))).trans rfl
theorem i_Law_859 : opAt m_Law 859 = sIal 860 := (opAt_of (M := m_Law) (i := .iaload) (n := 1) ((TL_9 859 (by omega)).trans (lk_head rfl))).trans rfl
theorem i_Law_860 : opAt m_Law 860 = sAld 0 861 := (opAt_of (M := m_Law) (i := .aload_n 0) (n := 1) ((TL_9 860 (by omega)).trans (lk_head rfl))).trans rfl
theorem i_Law_861 : opAt m_Law 861 = sIld 3 862 := (opAt_of (M := m_Law) (i := .iload_n 3) (n := 1) ((TL_9 861 (by omega)).trans (lk_head rfl))).trans rfl
theorem i_Law_862 : opAt m_Law 862 = sPush (.int (Int32.ofInt 4)) 863 := (opAt_of (M := m_Law) (i := .iconst 4) (n := 1) ((TL_9 862 (by omega)).trans (lk_head rfl))).trans rfl
theorem i_Law_863 : opAt m_Law 863 = sBI (fun x y => x + y) 864 := (opAt_of (M := m_Law) (i := .iadd) (n := 1) ((TL_9 863 (by omega)).trans (lk_head rfl))).trans rfl
theorem i_Law_864 : opAt m_Law 864 = sIal 865 := (opAt_of (M := m_Law) (i := .iaload) (n := 1) ((TL_9 864 (by omega)).trans (lk_head rfl))).trans rfl
theorem i_Law_865 : opAt m_Law 865 = sIf .eq 872 868 := (opAt_of (M := m_Law) (i := .ifCond .eq 7) (n := 3) ((TL_9 865 (by omega)).trans (lk_head rfl))).trans rfl
theorem i_Law_868 : opAt m_Law 868 = sPush (.int (Int32.ofInt 1)) 869 := (opAt_of (M := m_Law) (i := .iconst 1) (n := 1) ((TL_9 868 (by omega)).trans (lk_head rfl))).trans rfl
theorem i_Law_869 : opAt m_Law 869 = sGo 873 := (opAt_of (M := m_Law) (i := .goto 4) (n := 3) ((TL_9 869 (by omega)).trans (lk_head rfl))).trans rfl
theorem i_Law_872 : opAt m_Law 872 = sPush (.int (Int32.ofInt 0)) 873 := (opAt_of (M := m_Law) (i := .iconst 0) (n := 1) ((TL_9 872 (by omega)).trans (lk_head rfl))).trans rfl
theorem i_Law_873 : opAt m_Law 873 = sAld 0 874 := (opAt_of (M := m_Law) (i := .aload_n 0) (n := 1) ((TL_9 873 (by omega)).trans (lk_head rfl))).trans rfl
theorem i_Law_874 : opAt m_Law 874 = sIld 3 875 := (opAt_of (M := m_Law) (i := .iload_n 3) (n := 1) ((TL_9 874 (by omega)).trans (lk_head rfl))).trans rfl
theorem i_Law_875 : opAt m_Law 875 = sPush (.int (Int32.ofInt 5)) 876 := (opAt_of (M := m_Law) (i := .iconst 5) (n := 1) ((TL_9 875 (by omega)).trans (lk_head rfl))).trans rfl
theorem i_Law_876 : opAt m_Law 876 = sBI (fun x y => x + y) 877 := (opAt_of (M := m_Law) (i := .iadd) (n := 1) ((TL_10 876 (by omega)).trans (lk_head rfl))).trans rfl
theorem i_Law_877 : opAt m_Law 877 = sIal 878 := (opAt_of (M := m_Law) (i := .iaload) (n := 1) ((TL_10 877 (by omega)).trans (lk_head rfl))).trans rfl
theorem i_Law_878 : opAt m_Law 878 = sVir [(10, m_Fi_wound)] 0 5 881 := (opAt_of (M := m_Law) (i := .invokevirtual 91) (n := 3) ((TL_10 878 (by omega)).trans (lk_head rfl))).trans rfl
theorem i_Law_881 : opAt m_Law 881 = sAld 2 882 := (opAt_of (M := m_Law) (i := .aload_n 2) (n := 1) ((TL_10 881 (by omega)).trans (lk_head rfl))).trans rfl
theorem i_Law_882 : opAt m_Law 882 = sAld 0 883 := (opAt_of (M := m_Law) (i := .aload_n 0) (n := 1) ((TL_10 882 (by omega)).trans (lk_head rfl))).trans rfl
theorem i_Law_883 : opAt m_Law 883 = sIld 3 884 := (opAt_of (M := m_Law) (i := .iload_n 3) (n := 1) ((TL_10 883 (by omega)).trans (lk_head rfl))).trans rfl
theorem i_Law_884 : opAt m_Law 884 = sPush (.int (Int32.ofInt 1)) 885 := (opAt_of (M := m_Law) (i := .iconst 1) (n := 1) ((TL_10 884 (by omega)).trans (lk_head rfl))).trans rfl
theorem i_Law_885 : opAt m_Law 885 = sBI (fun x y => x + y) 886 := (opAt_of (M := m_Law) (i := .iadd) (n := 1) ((TL_10 885 (by omega)).trans (lk_head rfl))).trans rfl
theorem i_Law_886 : opAt m_Law 886 = sIal 887 := (opAt_of (M := m_Law) (i := .iaload) (n := 1) ((TL_10 886 (by omega)).trans (lk_head rfl))).trans rfl
theorem i_Law_887 : opAt m_Law 887 = sAld 0 888 := (opAt_of (M := m_Law) (i := .aload_n 0) (n := 1) ((TL_10 887 (by omega)).trans (lk_head rfl))).trans rfl
theorem i_Law_888 : opAt m_Law 888 = sIld 3 889 := (opAt_of (M := m_Law) (i := .iload_n 3) (n := 1) ((TL_10 888 (by omega)).trans (lk_head rfl))).trans rfl
theorem i_Law_889 : opAt m_Law 889 = sPush (.int (Int32.ofInt 2)) 890 := (opAt_of (M := m_Law) (i := .iconst 2) (n := 1) ((TL_10 889 (by omega)).trans (lk_head rfl))).trans rfl
theorem i_Law_890 : opAt m_Law 890 = sBI (fun x y => x + y) 891 := (opAt_of (M := m_Law) (i := .iadd) (n := 1) ((TL_10 890 (by omega)).trans (lk_head rfl))).trans rfl
theorem i_Law_891 : opAt m_Law 891 = sIal 892 := (opAt_of (M := m_Law) (i := .iaload) (n := 1) ((TL_10 891 (by omega)).trans (lk_head rfl))).trans rfl
theorem i_Law_892 : opAt m_Law 892 = sAld 0 893 := (opAt_of (M := m_Law) (i := .aload_n 0) (n := 1) ((TL_10 892 (by omega)).trans (lk_head rfl))).trans rfl
theorem i_Law_893 : opAt m_Law 893 = sIld 3 894 := (opAt_of (M := m_Law) (i := .iload_n 3) (n := 1) ((TL_10 893 (by omega)).trans (lk_head rfl))).trans rfl
theorem i_Law_894 : opAt m_Law 894 = sPush (.int (Int32.ofInt 3)) 895 := (opAt_of (M := m_Law) (i := .iconst 3) (n := 1) ((TL_10 894 (by omega)).trans (lk_head rfl))).trans rfl
theorem i_Law_895 : opAt m_Law 895 = sBI (fun x y => x + y) 896 := (opAt_of (M := m_Law) (i := .iadd) (n := 1) ((TL_10 895 (by omega)).trans (lk_head rfl))).trans rfl
theorem i_Law_896 : opAt m_Law 896 = sIal 897 := (opAt_of (M := m_Law) (i := .iaload) (n := 1) ((TL_10 896 (by omega)).trans (lk_head rfl))).trans rfl
theorem i_Law_897 : opAt m_Law 897 = sAld 0 898 := (opAt_of (M := m_Law) (i := .aload_n 0) (n := 1) ((TL_10 897 (by omega)).trans (lk_head rfl))).trans rfl
theorem i_Law_898 : opAt m_Law 898 = sIld 3 899 := (opAt_of (M := m_Law) (i := .iload_n 3) (n := 1) ((TL_10 898 (by omega)).trans (lk_head rfl))).trans rfl
theorem i_Law_899 : opAt m_Law 899 = sPush (.int (Int32.ofInt 4)) 900 := (opAt_of (M := m_Law) (i := .iconst 4) (n := 1) ((TL_10 899 (by omega)).trans (lk_head rfl))).trans rfl
theorem i_Law_900 : opAt m_Law 900 = sBI (fun x y => x + y) 901 := (opAt_of (M := m_Law) (i := .iadd) (n := 1) ((TL_10 900 (by omega)).trans (lk_head rfl))).trans rfl
theorem i_Law_901 : opAt m_Law 901 = sIal 902 := (opAt_of (M := m_Law) (i := .iaload) (n := 1) ((TL_10 901 (by omega)).trans (lk_head rfl))).trans rfl
theorem i_Law_902 : opAt m_Law 902 = sIf .eq 909 905 := (opAt_of (M := m_Law) (i := .ifCond .eq 7) (n := 3) ((TL_10 902 (by omega)).trans (lk_head rfl))).trans rfl
theorem i_Law_905 : opAt m_Law 905 = sPush (.int (Int32.ofInt 1)) 906 := (opAt_of (M := m_Law) (i := .iconst 1) (n := 1) ((TL_10 905 (by omega)).trans (lk_head rfl))).trans rfl
theorem i_Law_906 : opAt m_Law 906 = sGo 910 := (opAt_of (M := m_Law) (i := .goto 4) (n := 3) ((TL_10 906 (by omega)).trans (lk_head rfl))).trans rfl
theorem i_Law_909 : opAt m_Law 909 = sPush (.int (Int32.ofInt 0)) 910 := (opAt_of (M := m_Law) (i := .iconst 0) (n := 1) ((TL_10 909 (by omega)).trans (lk_head rfl))).trans rfl
theorem i_Law_910 : opAt m_Law 910 = sAld 0 911 := (opAt_of (M := m_Law) (i := .aload_n 0) (n := 1) ((TL_10 910 (by omega)).trans (lk_head rfl))).trans rfl
theorem i_Law_911 : opAt m_Law 911 = sIld 3 912 := (opAt_of (M := m_Law) (i := .iload_n 3) (n := 1) ((TL_10 911 (by omega)).trans (lk_head rfl))).trans rfl
theorem i_Law_912 : opAt m_Law 912 = sPush (.int (Int32.ofInt 5)) 913 := (opAt_of (M := m_Law) (i := .iconst 5) (n := 1) ((TL_10 912 (by omega)).trans (lk_head rfl))).trans rfl
theorem i_Law_913 : opAt m_Law 913 = sBI (fun x y => x + y) 914 := (opAt_of (M := m_Law) (i := .iadd) (n := 1) ((TL_10 913 (by omega)).trans (lk_head rfl))).trans rfl
theorem i_Law_914 : opAt m_Law 914 = sIal 915 := (opAt_of (M := m_Law) (i := .iaload) (n := 1) ((TL_10 914 (by omega)).trans (lk_head rfl))).trans rfl
theorem i_Law_915 : opAt m_Law 915 = sVir [(11, m_Mo_wound)] 0 5 918 := (opAt_of (M := m_Law) (i := .invokevirtual 95) (n := 3) ((TL_10 915 (by omega)).trans (lk_head rfl))).trans rfl
theorem i_Law_918 : opAt m_Law 918 = sCm .eq 1260 921 := (opAt_of (M := m_Law) (i := .if_icmp .eq 342) (n := 3) ((TL_10 918 (by omega)).trans (lk_head rfl))).trans rfl
theorem i_Law_921 : opAt m_Law 921 = sPush (.int (Int32.ofInt 0)) 922 := (opAt_of (M := m_Law) (i := .iconst 0) (n := 1) ((TL_10 921 (by omega)).trans (lk_head rfl))).trans rfl
theorem i_Law_922 : opAt m_Law 922 = sIret .boolean := (opAt_of (M := m_Law) (i := .ireturn) (n := 1) ((TL_10 922 (by omega)).trans (lk_head rfl))).trans rfl
theorem i_Law_923 : opAt m_Law 923 = sAld 1 924 := (opAt_of (M := m_Law) (i := .aload_n 1) (n := 1) ((TL_10 923 (by omega)).trans (lk_head rfl))).trans rfl
theorem i_Law_924 : opAt m_Law 924 = sAld 0 925 := (opAt_of (M := m_Law) (i := .aload_n 0) (n := 1) ((TL_10 924 (by omega)).trans (lk_head rfl))).trans rfl
theorem i_Law_925 : opAt m_Law 925 = sIld 3 926 := (opAt_of (M := m_Law) (i := .iload_n 3) (n := 1) ((TL_10 925 (by omega)).trans (lk_head rfl))).trans rfl
theorem i_Law_926 : opAt m_Law 926 = sPush (.int (Int32.ofInt 1)) 927 := (opAt_of (M := m_Law) (i := .iconst 1) (n := 1) ((TL_10 926 (by omega)).trans (lk_head rfl))).trans rfl
theorem i_Law_927 : opAt m_Law 927 = sBI (fun x y => x + y) 928 := (opAt_of (M := m_Law) (i := .iadd) (n := 1) ((TL_10 927 (by omega)).trans (lk_head rfl))).trans rfl
theorem i_Law_928 : opAt m_Law 928 = sIal 929 := (opAt_of (M := m_Law) (i := .iaload) (n := 1) ((TL_10 928 (by omega)).trans (lk_head rfl))).trans rfl
theorem i_Law_929 : opAt m_Law 929 = sAld 0 930 := (opAt_of (M := m_Law) (i := .aload_n 0) (n := 1) ((TL_10 929 (by omega)).trans (lk_head rfl))).trans rfl
theorem i_Law_930 : opAt m_Law 930 = sIld 3 931 := (opAt_of (M := m_Law) (i := .iload_n 3) (n := 1) ((TL_10 930 (by omega)).trans (lk_head rfl))).trans rfl
theorem i_Law_931 : opAt m_Law 931 = sPush (.int (Int32.ofInt 2)) 932 := (opAt_of (M := m_Law) (i := .iconst 2) (n := 1) ((TL_10 931 (by omega)).trans (lk_head rfl))).trans rfl
theorem i_Law_932 : opAt m_Law 932 = sBI (fun x y => x + y) 933 := (opAt_of (M := m_Law) (i := .iadd) (n := 1) ((TL_10 932 (by omega)).trans (lk_head rfl))).trans rfl
theorem i_Law_933 : opAt m_Law 933 = sIal 934 := (opAt_of (M := m_Law) (i := .iaload) (n := 1) ((TL_10 933 (by omega)).trans (lk_head rfl))).trans rfl
theorem i_Law_934 : opAt m_Law 934 = sVir [(10, m_Fi_trace)] 0 2 937 := (opAt_of (M := m_Law) (i := .invokevirtual 96) (n := 3) ((TL_10 934 (by omega)).trans (lk_head rfl))).trans rfl
theorem i_Law_937 : opAt m_Law 937 = sAld 2 938 := (opAt_of (M := m_Law) (i := .aload_n 2) (n := 1) ((TL_10 937 (by omega)).trans (lk_head rfl))).trans rfl
theorem i_Law_938 : opAt m_Law 938 = sAld 0 939 := (opAt_of (M := m_Law) (i := .aload_n 0) (n := 1) ((TL_10 938 (by omega)).trans (lk_head rfl))).trans rfl
theorem i_Law_939 : opAt m_Law 939 = sIld 3 940 := (opAt_of (M := m_Law) (i := .iload_n 3) (n := 1) ((TL_10 939 (by omega)).trans (lk_head rfl))).trans rfl
theorem i_Law_940 : opAt m_Law 940 = sPush (.int (Int32.ofInt 1)) 941 := (opAt_of (M := m_Law) (i := .iconst 1) (n := 1) ((TL_10 940 (by omega)).trans (lk_head rfl))).trans rfl
theorem i_Law_941 : opAt m_Law 941 = sBI (fun x y => x + y) 942 := (opAt_of (M := m_Law) (i := .iadd) (n := 1) ((TL_10 941 (by omega)).trans (lk_head rfl))).trans rfl
theorem i_Law_942 : opAt m_Law 942 = sIal 943 := (opAt_of (M := m_Law) (i := .iaload) (n := 1) ((TL_10 942 (by omega)).trans (lk_head rfl))).trans rfl
theorem i_Law_943 : opAt m_Law 943 = sAld 0 944 := (opAt_of (M := m_Law) (i := .aload_n 0) (n := 1) ((TL_10 943 (by omega)).trans (lk_head rfl))).trans rfl
theorem i_Law_944 : opAt m_Law 944 = sIld 3 945 := (opAt_of (M := m_Law) (i := .iload_n 3) (n := 1) ((TL_10 944 (by omega)).trans (lk_head rfl))).trans rfl
theorem i_Law_945 : opAt m_Law 945 = sPush (.int (Int32.ofInt 2)) 946 := (opAt_of (M := m_Law) (i := .iconst 2) (n := 1) ((TL_10 945 (by omega)).trans (lk_head rfl))).trans rfl
theorem i_Law_946 : opAt m_Law 946 = sBI (fun x y => x + y) 947 := (opAt_of (M := m_Law) (i := .iadd) (n := 1) ((TL_10 946 (by omega)).trans (lk_head rfl))).trans rfl
theorem i_Law_947 : opAt m_Law 947 = sIal 948 := (opAt_of (M := m_Law) (i := .iaload) (n := 1) ((TL_10 947 (by omega)).trans (lk_head rfl))).trans rfl
theorem i_Law_948 : opAt m_Law 948 = sVir [(11, m_Mo_trace)] 0 2 951 := (opAt_of (M := m_Law) (i := .invokevirtual 100) (n := 3) ((TL_11 948 (by omega)).trans (lk_head rfl))).trans rfl
theorem i_Law_951 : opAt m_Law 951 = sCm .eq 1260 954 := (opAt_of (M := m_Law) (i := .if_icmp .eq 309) (n := 3) ((TL_11 951 (by omega)).trans (lk_head rfl))).trans rfl
theorem i_Law_954 : opAt m_Law 954 = sPush (.int (Int32.ofInt 0)) 955 := (opAt_of (M := m_Law) (i := .iconst 0) (n := 1) ((TL_11 954 (by omega)).trans (lk_head rfl))).trans rfl
theorem i_Law_955 : opAt m_Law 955 = sIret .boolean := (opAt_of (M := m_Law) (i := .ireturn) (n := 1) ((TL_11 955 (by omega)).trans (lk_head rfl))).trans rfl
theorem i_Law_956 : opAt m_Law 956 = sAld 1 957 := (opAt_of (M := m_Law) (i := .aload_n 1) (n := 1) ((TL_11 956 (by omega)).trans (lk_head rfl))).trans rfl
theorem i_Law_957 : opAt m_Law 957 = sVir [(10, m_Fi_clear)] 0 0 960 := (opAt_of (M := m_Law) (i := .invokevirtual 101) (n := 3) ((TL_11 957 (by omega)).trans (lk_head rfl))).trans rfl
theorem i_Law_960 : opAt m_Law 960 = sAld 2 961 := (opAt_of (M := m_Law) (i := .aload_n 2) (n := 1) ((TL_11 960 (by omega)).trans (lk_head rfl))).trans rfl
theorem i_Law_961 : opAt m_Law 961 = sVir [(11, m_Mo_clear)] 0 0 964 := (opAt_of (M := m_Law) (i := .invokevirtual 104) (n := 3) ((TL_11 961 (by omega)).trans (lk_head rfl))).trans rfl
theorem i_Law_964 : opAt m_Law 964 = sCm .eq 1260 967 := (opAt_of (M := m_Law) (i := .if_icmp .eq 296) (n := 3) ((TL_11 964 (by omega)).trans (lk_head rfl))).trans rfl
theorem i_Law_967 : opAt m_Law 967 = sPush (.int (Int32.ofInt 0)) 968 := (opAt_of (M := m_Law) (i := .iconst 0) (n := 1) ((TL_11 967 (by omega)).trans (lk_head rfl))).trans rfl
theorem i_Law_968 : opAt m_Law 968 = sIret .boolean := (opAt_of (M := m_Law) (i := .ireturn) (n := 1) ((TL_11 968 (by omega)).trans (lk_head rfl))).trans rfl
theorem i_Law_969 : opAt m_Law 969 = sAld 1 970 := (opAt_of (M := m_Law) (i := .aload_n 1) (n := 1) ((TL_11 969 (by omega)).trans (lk_head rfl))).trans rfl
theorem i_Law_970 : opAt m_Law 970 = sAld 0 971 := (opAt_of (M := m_Law) (i := .aload_n 0) (n := 1) ((TL_11 970 (by omega)).trans (lk_head rfl))).trans rfl
theorem i_Law_971 : opAt m_Law 971 = sIld 3 972 := (opAt_of (M := m_Law) (i := .iload_n 3) (n := 1) ((TL_11 971 (by omega)).trans (lk_head rfl))).trans rfl
theorem i_Law_972 : opAt m_Law 972 = sPush (.int (Int32.ofInt 1)) 973 := (opAt_of (M := m_Law) (i := .iconst 1) (n := 1) ((TL_11 972 (by omega)).trans (lk_head rfl))).trans rfl
theorem i_Law_973 : opAt m_Law 973 = sBI (fun x y => x + y) 974 := (opAt_of (M := m_Law) (i := .iadd) (n := 1) ((TL_11 973 (by omega)).trans (lk_head rfl))).trans rfl
theorem i_Law_974 : opAt m_Law 974 = sIal 975 := (opAt_of (M := m_Law) (i := .iaload) (n := 1) ((TL_11 974 (by omega)).trans (lk_head rfl))).trans rfl
theorem i_Law_975 : opAt m_Law 975 = sAld 0 976 := (opAt_of (M := m_Law) (i := .aload_n 0) (n := 1) ((TL_11 975 (by omega)).trans (lk_head rfl))).trans rfl
theorem i_Law_976 : opAt m_Law 976 = sIld 3 977 := (opAt_of (M := m_Law) (i := .iload_n 3) (n := 1) ((TL_11 976 (by omega)).trans (lk_head rfl))).trans rfl
theorem i_Law_977 : opAt m_Law 977 = sPush (.int (Int32.ofInt 2)) 978 := (opAt_of (M := m_Law) (i := .iconst 2) (n := 1) ((TL_11 977 (by omega)).trans (lk_head rfl))).trans rfl
theorem i_Law_978 : opAt m_Law 978 = sBI (fun x y => x + y) 979 := (opAt_of (M := m_Law) (i := .iadd) (n := 1) ((TL_11 978 (by omega)).trans (lk_head rfl))).trans rfl
theorem i_Law_979 : opAt m_Law 979 = sIal 980 := (opAt_of (M := m_Law) (i := .iaload) (n := 1) ((TL_11 979 (by omega)).trans (lk_head rfl))).trans rfl
theorem i_Law_980 : opAt m_Law 980 = sVir [(10, m_Fi_gone)] 0 2 983 := (opAt_of (M := m_Law) (i := .invokevirtual 105) (n := 3) ((TL_11 980 (by omega)).trans (lk_head rfl))).trans rfl
theorem i_Law_983 : opAt m_Law 983 = sAld 2 984 := (opAt_of (M := m_Law) (i := .aload_n 2) (n := 1) ((TL_11 983 (by omega)).trans (lk_head rfl))).trans rfl
theorem i_Law_984 : opAt m_Law 984 = sAld 0 985 := (opAt_of (M := m_Law) (i := .aload_n 0) (n := 1) ((TL_11 984 (by omega)).trans (lk_head rfl))).trans rfl
theorem i_Law_985 : opAt m_Law 985 = sIld 3 986 := (opAt_of (M := m_Law) (i := .iload_n 3) (n := 1) ((TL_11 985 (by omega)).trans (lk_head rfl))).trans rfl
theorem i_Law_986 : opAt m_Law 986 = sPush (.int (Int32.ofInt 1)) 987 := (opAt_of (M := m_Law) (i := .iconst 1) (n := 1) ((TL_11 986 (by omega)).trans (lk_head rfl))).trans rfl
theorem i_Law_987 : opAt m_Law 987 = sBI (fun x y => x + y) 988 := (opAt_of (M := m_Law) (i := .iadd) (n := 1) ((TL_11 987 (by omega)).trans (lk_head rfl))).trans rfl
theorem i_Law_988 : opAt m_Law 988 = sIal 989 := (opAt_of (M := m_Law) (i := .iaload) (n := 1) ((TL_11 988 (by omega)).trans (lk_head rfl))).trans rfl
theorem i_Law_989 : opAt m_Law 989 = sAld 0 990 := (opAt_of (M := m_Law) (i := .aload_n 0) (n := 1) ((TL_11 989 (by omega)).trans (lk_head rfl))).trans rfl
theorem i_Law_990 : opAt m_Law 990 = sIld 3 991 := (opAt_of (M := m_Law) (i := .iload_n 3) (n := 1) ((TL_11 990 (by omega)).trans (lk_head rfl))).trans rfl
theorem i_Law_991 : opAt m_Law 991 = sPush (.int (Int32.ofInt 2)) 992 := (opAt_of (M := m_Law) (i := .iconst 2) (n := 1) ((TL_11 991 (by omega)).trans (lk_head rfl))).trans rfl
theorem i_Law_992 : opAt m_Law 992 = sBI (fun x y => x + y) 993 := (opAt_of (M := m_Law) (i := .iadd) (n := 1) ((TL_11 992 (by omega)).trans (lk_head rfl))).trans rfl
theorem i_Law_993 : opAt m_Law 993 = sIal 994 := (opAt_of (M := m_Law) (i := .iaload) (n := 1) ((TL_11 993 (by omega)).trans (lk_head rfl))).trans rfl
theorem i_Law_994 : opAt m_Law 994 = sVir [(11, m_Mo_gone)] 0 2 997 := (opAt_of (M := m_Law) (i := .invokevirtual 108) (n := 3) ((TL_11 994 (by omega)).trans (lk_head rfl))).trans rfl
theorem i_Law_997 : opAt m_Law 997 = sCm .eq 1260 1000 := (opAt_of (M := m_Law) (i := .if_icmp .eq 263) (n := 3) ((TL_11 997 (by omega)).trans (lk_head rfl))).trans rfl
theorem i_Law_1000 : opAt m_Law 1000 = sPush (.int (Int32.ofInt 0)) 1001 := (opAt_of (M := m_Law) (i := .iconst 0) (n := 1) ((TL_11 1000 (by omega)).trans (lk_head rfl))).trans rfl
theorem i_Law_1001 : opAt m_Law 1001 = sIret .boolean := (opAt_of (M := m_Law) (i := .ireturn) (n := 1) ((TL_11 1001 (by omega)).trans (lk_head rfl))).trans rfl
theorem i_Law_1002 : opAt m_Law 1002 = sAld 1 1003 := (opAt_of (M := m_Law) (i := .aload_n 1) (n := 1) ((TL_11 1002 (by omega)).trans (lk_head rfl))).trans rfl
theorem i_Law_1003 : opAt m_Law 1003 = sAld 0 1004 := (opAt_of (M := m_Law) (i := .aload_n 0) (n := 1) ((TL_11 1003 (by omega)).trans (lk_head rfl))).trans rfl
theorem i_Law_1004 : opAt m_Law 1004 = sIld 3 1005 := (opAt_of (M := m_Law) (i := .iload_n 3) (n := 1) ((TL_11 1004 (by omega)).trans (lk_head rfl))).trans rfl
theorem i_Law_1005 : opAt m_Law 1005 = sPush (.int (Int32.ofInt 1)) 1006 := (opAt_of (M := m_Law) (i := .iconst 1) (n := 1) ((TL_11 1005 (by omega)).trans (lk_head rfl))).trans rfl
theorem i_Law_1006 : opAt m_Law 1006 = sBI (fun x y => x + y) 1007 := (opAt_of (M := m_Law) (i := .iadd) (n := 1) ((TL_11 1006 (by omega)).trans (lk_head rfl))).trans rfl
theorem i_Law_1007 : opAt m_Law 1007 = sIal 1008 := (opAt_of (M := m_Law) (i := .iaload) (n := 1) ((TL_11 1007 (by omega)).trans (lk_head rfl))).trans rfl
theorem i_Law_1008 : opAt m_Law 1008 = sAld 0 1009 := (opAt_of (M := m_Law) (i := .aload_n 0) (n := 1) ((TL_11 1008 (by omega)).trans (lk_head rfl))).trans rfl
theorem i_Law_1009 : opAt m_Law 1009 = sIld 3 1010 := (opAt_of (M := m_Law) (i := .iload_n 3) (n := 1) ((TL_11 1009 (by omega)).trans (lk_head rfl))).trans rfl
theorem i_Law_1010 : opAt m_Law 1010 = sPush (.int (Int32.ofInt 2)) 1011 := (opAt_of (M := m_Law) (i := .iconst 2) (n := 1) ((TL_11 1010 (by omega)).trans (lk_head rfl))).trans rfl
theorem i_Law_1011 : opAt m_Law 1011 = sBI (fun x y => x + y) 1012 := (opAt_of (M := m_Law) (i := .iadd) (n := 1) ((TL_11 1011 (by omega)).trans (lk_head rfl))).trans rfl
theorem i_Law_1012 : opAt m_Law 1012 = sIal 1013 := (opAt_of (M := m_Law) (i := .iaload) (n := 1) ((TL_11 1012 (by omega)).trans (lk_head rfl))).trans rfl
theorem i_Law_1013 : opAt m_Law 1013 = sAld 0 1014 := (opAt_of (M := m_Law) (i := .aload_n 0) (n := 1) ((TL_11 1013 (by omega)).trans (lk_head rfl))).trans rfl
theorem i_Law_1014 : opAt m_Law 1014 = sIld 3 1015 := (opAt_of (M := m_Law) (i := .iload_n 3) (n := 1) ((TL_11 1014 (by omega)).trans (lk_head rfl))).trans rfl
theorem i_Law_1015 : opAt m_Law 1015 = sPush (.int (Int32.ofInt 3)) 1016 := (opAt_of (M := m_Law) (i := .iconst 3) (n := 1) ((TL_11 1015 (by omega)).trans (lk_head rfl))).trans rfl
theorem i_Law_1016 : opAt m_Law 1016 = sBI (fun x y => x + y) 1017 := (opAt_of (M := m_Law) (i := .iadd) (n := 1) ((TL_11 1016 (by omega)).trans (lk_head rfl))).trans rfl
theorem i_Law_1017 : opAt m_Law 1017 = sIal 1018 := (opAt_of (M := m_Law) (i := .iaload) (n := 1) ((TL_11 1017 (by omega)).trans (lk_head rfl))).trans rfl
theorem i_Law_1018 : opAt m_Law 1018 = sAld 0 1019 := (opAt_of (M := m_Law) (i := .aload_n 0) (n := 1) ((TL_11 1018 (by omega)).trans (lk_head rfl))).trans rfl
theorem i_Law_1019 : opAt m_Law 1019 = sIld 3 1020 := (opAt_of (M := m_Law) (i := .iload_n 3) (n := 1) ((TL_11 1019 (by omega)).trans (lk_head rfl))).trans rfl
theorem i_Law_1020 : opAt m_Law 1020 = sPush (.int (Int32.ofInt 4)) 1021 := (opAt_of (M := m_Law) (i := .iconst 4) (n := 1) ((TL_11 1020 (by omega)).trans (lk_head rfl))).trans rfl
theorem i_Law_1021 : opAt m_Law 1021 = sBI (fun x y => x + y) 1022 := (opAt_of (M := m_Law) (i := .iadd) (n := 1) ((TL_11 1021 (by omega)).trans (lk_head rfl))).trans rfl
theorem i_Law_1022 : opAt m_Law 1022 = sIal 1023 := (opAt_of (M := m_Law) (i := .iaload) (n := 1) ((TL_11 1022 (by omega)).trans (lk_head rfl))).trans rfl
theorem i_Law_1023 : opAt m_Law 1023 = sVir [(10, m_Fi_earlier)] 0 4 1026 := (opAt_of (M := m_Law) (i := .invokevirtual 109) (n := 3) ((TL_11 1023 (by omega)).trans (lk_head rfl))).trans rfl
theorem i_Law_1026 : opAt m_Law 1026 = sAld 2 1027 := (opAt_of (M := m_Law) (i := .aload_n 2) (n := 1) ((TL_12 1026 (by omega)).trans (lk_head rfl))).trans rfl
theorem i_Law_1027 : opAt m_Law 1027 = sAld 0 1028 := (opAt_of (M := m_Law) (i := .aload_n 0) (n := 1) ((TL_12 1027 (by omega)).trans (lk_head rfl))).trans rfl
theorem i_Law_1028 : opAt m_Law 1028 = sIld 3 1029 := (opAt_of (M := m_Law) (i := .iload_n 3) (n := 1) ((TL_12 1028 (by omega)).trans (lk_head rfl))).trans rfl
theorem i_Law_1029 : opAt m_Law 1029 = sPush (.int (Int32.ofInt 1)) 1030 := (opAt_of (M := m_Law) (i := .iconst 1) (n := 1) ((TL_12 1029 (by omega)).trans (lk_head rfl))).trans rfl
theorem i_Law_1030 : opAt m_Law 1030 = sBI (fun x y => x + y) 1031 := (opAt_of (M := m_Law) (i := .iadd) (n := 1) ((TL_12 1030 (by omega)).trans (lk_head rfl))).trans rfl
theorem i_Law_1031 : opAt m_Law 1031 = sIal 1032 := (opAt_of (M := m_Law) (i := .iaload) (n := 1) ((TL_12 1031 (by omega)).trans (lk_head rfl))).trans rfl
theorem i_Law_1032 : opAt m_Law 1032 = sAld 0 1033 := (opAt_of (M := m_Law) (i := .aload_n 0) (n := 1) ((TL_12 1032 (by omega)).trans (lk_head rfl))).trans rfl
theorem i_Law_1033 : opAt m_Law 1033 = sIld 3 1034 := (opAt_of (M := m_Law) (i := .iload_n 3) (n := 1) ((TL_12 1033 (by omega)).trans (lk_head rfl))).trans rfl
theorem i_Law_1034 : opAt m_Law 1034 = sPush (.int (Int32.ofInt 2)) 1035 := (opAt_of (M := m_Law) (i := .iconst 2) (n := 1) ((TL_12 1034 (by omega)).trans (lk_head rfl))).trans rfl
theorem i_Law_1035 : opAt m_Law 1035 = sBI (fun x y => x + y) 1036 := (opAt_of (M := m_Law) (i := .iadd) (n := 1) ((TL_12 1035 (by omega)).trans (lk_head rfl))).trans rfl
theorem i_Law_1036 : opAt m_Law 1036 = sIal 1037 := (opAt_of (M := m_Law) (i := .iaload) (n := 1) ((TL_12 1036 (by omega)).trans (lk_head rfl))).trans rfl
theorem i_Law_1037 : opAt m_Law 1037 = sAld 0 1038 := (opAt_of (M := m_Law) (i := .aload_n 0) (n := 1) ((TL_12 1037 (by omega)).trans (lk_head rfl))).trans rfl
theorem i_Law_1038 : opAt m_Law 1038 = sIld 3 1039 := (opAt_of (M := m_Law) (i := .iload_n 3) (n := 1) ((TL_12 1038 (by omega)).trans (lk_head rfl))).trans rfl
theorem i_Law_1039 : opAt m_Law 1039 = sPush (.int (Int32.ofInt 3)) 1040 := (opAt_of (M := m_Law) (i := .iconst 3) (n := 1) ((TL_12 1039 (by omega)).trans (lk_head rfl))).trans rfl
theorem i_Law_1040 : opAt m_Law 1040 = sBI (fun x y => x + y) 1041 := (opAt_of (M := m_Law) (i := .iadd) (n := 1) ((TL_12 1040 (by omega)).trans (lk_head rfl))).trans rfl
theorem i_Law_1041 : opAt m_Law 1041 = sIal 1042 := (opAt_of (M := m_Law) (i := .iaload) (n := 1) ((TL_12 1041 (by omega)).trans (lk_head rfl))).trans rfl
theorem i_Law_1042 : opAt m_Law 1042 = sAld 0 1043 := (opAt_of (M := m_Law) (i := .aload_n 0) (n := 1) ((TL_12 1042 (by omega)).trans (lk_head rfl))).trans rfl
theorem i_Law_1043 : opAt m_Law 1043 = sIld 3 1044 := (opAt_of (M := m_Law) (i := .iload_n 3) (n := 1) ((TL_12 1043 (by omega)).trans (lk_head rfl))).trans rfl
theorem i_Law_1044 : opAt m_Law 1044 = sPush (.int (Int32.ofInt 4)) 1045 := (opAt_of (M := m_Law) (i := .iconst 4) (n := 1) ((TL_12 1044 (by omega)).trans (lk_head rfl))).trans rfl
theorem i_Law_1045 : opAt m_Law 1045 = sBI (fun x y => x + y) 1046 := (opAt_of (M := m_Law) (i := .iadd) (n := 1) ((TL_12 1045 (by omega)).trans (lk_head rfl))).trans rfl
theorem i_Law_1046 : opAt m_Law 1046 = sIal 1047 := (opAt_of (M := m_Law) (i := .iaload) (n := 1) ((TL_12 1046 (by omega)).trans (lk_head rfl))).trans rfl
theorem i_Law_1047 : opAt m_Law 1047 = sVir [(11, m_Mo_earlier)] 0 4 1050 := (opAt_of (M := m_Law) (i := .invokevirtual 113) (n := 3) ((TL_12 1047 (by omega)).trans (lk_head rfl))).trans rfl
theorem i_Law_1050 : opAt m_Law 1050 = sCm .eq 1260 1053 := (opAt_of (M := m_Law) (i := .if_icmp .eq 210) (n := 3) ((TL_12 1050 (by omega)).trans (lk_head rfl))).trans rfl
theorem i_Law_1053 : opAt m_Law 1053 = sPush (.int (Int32.ofInt 0)) 1054 := (opAt_of (M := m_Law) (i := .iconst 0) (n := 1) ((TL_12 1053 (by omega)).trans (lk_head rfl))).trans rfl
theorem i_Law_1054 : opAt m_Law 1054 = sIret .boolean := (opAt_of (M := m_Law) (i := .ireturn) (n := 1) ((TL_12 1054 (by omega)).trans (lk_head rfl))).trans rfl
theorem i_Law_1055 : opAt m_Law 1055 = sAld 1 1056 := (opAt_of (M := m_Law) (i := .aload_n 1) (n := 1) ((TL_12 1055 (by omega)).trans (lk_head rfl))).trans rfl
theorem i_Law_1056 : opAt m_Law 1056 = sAld 0 1057 := (opAt_of (M := m_Law) (i := .aload_n 0) (n := 1) ((TL_12 1056 (by omega)).trans (lk_head rfl))).trans rfl
theorem i_Law_1057 : opAt m_Law 1057 = sIld 3 1058 := (opAt_of (M := m_Law) (i := .iload_n 3) (n := 1) ((TL_12 1057 (by omega)).trans (lk_head rfl))).trans rfl
theorem i_Law_1058 : opAt m_Law 1058 = sPush (.int (Int32.ofInt 1)) 1059 := (opAt_of (M := m_Law) (i := .iconst 1) (n := 1) ((TL_12 1058 (by omega)).trans (lk_head rfl))).trans rfl
theorem i_Law_1059 : opAt m_Law 1059 = sBI (fun x y => x + y) 1060 := (opAt_of (M := m_Law) (i := .iadd) (n := 1) ((TL_12 1059 (by omega)).trans (lk_head rfl))).trans rfl
theorem i_Law_1060 : opAt m_Law 1060 = sIal 1061 := (opAt_of (M := m_Law) (i := .iaload) (n := 1) ((TL_12 1060 (by omega)).trans (lk_head rfl))).trans rfl
theorem i_Law_1061 : opAt m_Law 1061 = sAld 0 1062 := (opAt_of (M := m_Law) (i := .aload_n 0) (n := 1) ((TL_12 1061 (by omega)).trans (lk_head rfl))).trans rfl
theorem i_Law_1062 : opAt m_Law 1062 = sIld 3 1063 := (opAt_of (M := m_Law) (i := .iload_n 3) (n := 1) ((TL_12 1062 (by omega)).trans (lk_head rfl))).trans rfl
theorem i_Law_1063 : opAt m_Law 1063 = sPush (.int (Int32.ofInt 2)) 1064 := (opAt_of (M := m_Law) (i := .iconst 2) (n := 1) ((TL_12 1063 (by omega)).trans (lk_head rfl))).trans rfl
theorem i_Law_1064 : opAt m_Law 1064 = sBI (fun x y => x + y) 1065 := (opAt_of (M := m_Law) (i := .iadd) (n := 1) ((TL_12 1064 (by omega)).trans (lk_head rfl))).trans rfl
theorem i_Law_1065 : opAt m_Law 1065 = sIal 1066 := (opAt_of (M := m_Law) (i := .iaload) (n := 1) ((TL_12 1065 (by omega)).trans (lk_head rfl))).trans rfl
theorem i_Law_1066 : opAt m_Law 1066 = sAld 0 1067 := (opAt_of (M := m_Law) (i := .aload_n 0) (n := 1) ((TL_12 1066 (by omega)).trans (lk_head rfl))).trans rfl
theorem i_Law_1067 : opAt m_Law 1067 = sIld 3 1068 := (opAt_of (M := m_Law) (i := .iload_n 3) (n := 1) ((TL_12 1067 (by omega)).trans (lk_head rfl))).trans rfl
theorem i_Law_1068 : opAt m_Law 1068 = sPush (.int (Int32.ofInt 3)) 1069 := (opAt_of (M := m_Law) (i := .iconst 3) (n := 1) ((TL_12 1068 (by omega)).trans (lk_head rfl))).trans rfl
theorem i_Law_1069 : opAt m_Law 1069 = sBI (fun x y => x + y) 1070 := (opAt_of (M := m_Law) (i := .iadd) (n := 1) ((TL_12 1069 (by omega)).trans (lk_head rfl))).trans rfl
theorem i_Law_1070 : opAt m_Law 1070 = sIal 1071 := (opAt_of (M := m_Law) (i := .iaload) (n := 1) ((TL_12 1070 (by omega)).trans (lk_head rfl))).trans rfl
theorem i_Law_1071 : opAt m_Law 1071 = sVir [(10, m_Fi_lacks)] 0 3 1074 := (opAt_of (M := m_Law) (i := .invokevirtual 114) (n := 3) ((TL_12 1071 (by omega)).trans (lk_head rfl))).trans rfl
theorem i_Law_1074 : opAt m_Law 1074 = sAld 2 1075 := (opAt_of (M := m_Law) (i := .aload_n 2) (n := 1) ((TL_12 1074 (by omega)).trans (lk_head rfl))).trans rfl
theorem i_Law_1075 : opAt m_Law 1075 = sAld 0 1076 := (opAt_of (M := m_Law) (i := .aload_n 0) (n := 1) ((TL_12 1075 (by omega)).trans (lk_head rfl))).trans rfl
theorem i_Law_1076 : opAt m_Law 1076 = sIld 3 1077 := (opAt_of (M := m_Law) (i := .iload_n 3) (n := 1) ((TL_12 1076 (by omega)).trans (lk_head rfl))).trans rfl
theorem i_Law_1077 : opAt m_Law 1077 = sPush (.int (Int32.ofInt 1)) 1078 := (opAt_of (M := m_Law) (i := .iconst 1) (n := 1) ((TL_12 1077 (by omega)).trans (lk_head rfl))).trans rfl
theorem i_Law_1078 : opAt m_Law 1078 = sBI (fun x y => x + y) 1079 := (opAt_of (M := m_Law) (i := .iadd) (n := 1) ((TL_12 1078 (by omega)).trans (lk_head rfl))).trans rfl
theorem i_Law_1079 : opAt m_Law 1079 = sIal 1080 := (opAt_of (M := m_Law) (i := .iaload) (n := 1) ((TL_12 1079 (by omega)).trans (lk_head rfl))).trans rfl
theorem i_Law_1080 : opAt m_Law 1080 = sAld 0 1081 := (opAt_of (M := m_Law) (i := .aload_n 0) (n := 1) ((TL_12 1080 (by omega)).trans (lk_head rfl))).trans rfl
theorem i_Law_1081 : opAt m_Law 1081 = sIld 3 1082 := (opAt_of (M := m_Law) (i := .iload_n 3) (n := 1) ((TL_12 1081 (by omega)).trans (lk_head rfl))).trans rfl
theorem i_Law_1082 : opAt m_Law 1082 = sPush (.int (Int32.ofInt 2)) 1083 := (opAt_of (M := m_Law) (i := .iconst 2) (n := 1) ((TL_12 1082 (by omega)).trans (lk_head rfl))).trans rfl
theorem i_Law_1083 : opAt m_Law 1083 = sBI (fun x y => x + y) 1084 := (opAt_of (M := m_Law) (i := .iadd) (n := 1) ((TL_12 1083 (by omega)).trans (lk_head rfl))).trans rfl
theorem i_Law_1084 : opAt m_Law 1084 = sIal 1085 := (opAt_of (M := m_Law) (i := .iaload) (n := 1) ((TL_12 1084 (by omega)).trans (lk_head rfl))).trans rfl
theorem i_Law_1085 : opAt m_Law 1085 = sAld 0 1086 := (opAt_of (M := m_Law) (i := .aload_n 0) (n := 1) ((TL_12 1085 (by omega)).trans (lk_head rfl))).trans rfl
theorem i_Law_1086 : opAt m_Law 1086 = sIld 3 1087 := (opAt_of (M := m_Law) (i := .iload_n 3) (n := 1) ((TL_12 1086 (by omega)).trans (lk_head rfl))).trans rfl
theorem i_Law_1087 : opAt m_Law 1087 = sPush (.int (Int32.ofInt 3)) 1088 := (opAt_of (M := m_Law) (i := .iconst 3) (n := 1) ((TL_12 1087 (by omega)).trans (lk_head rfl))).trans rfl
theorem i_Law_1088 : opAt m_Law 1088 = sBI (fun x y => x + y) 1089 := (opAt_of (M := m_Law) (i := .iadd) (n := 1) ((TL_12 1088 (by omega)).trans (lk_head rfl))).trans rfl
theorem i_Law_1089 : opAt m_Law 1089 = sIal 1090 := (opAt_of (M := m_Law) (i := .iaload) (n := 1) ((TL_12 1089 (by omega)).trans (lk_head rfl))).trans rfl
theorem i_Law_1090 : opAt m_Law 1090 = sVir [(11, m_Mo_lacks)] 0 3 1093 := (opAt_of (M := m_Law) (i := .invokevirtual 117) (n := 3) ((TL_12 1090 (by omega)).trans (lk_head rfl))).trans rfl
theorem i_Law_1093 : opAt m_Law 1093 = sCm .eq 1260 1096 := (opAt_of (M := m_Law) (i := .if_icmp .eq 167) (n := 3) ((TL_12 1093 (by omega)).trans (lk_head rfl))).trans rfl
theorem i_Law_1096 : opAt m_Law 1096 = sPush (.int (Int32.ofInt 0)) 1097 := (opAt_of (M := m_Law) (i := .iconst 0) (n := 1) ((TL_13 1096 (by omega)).trans (lk_head rfl))).trans rfl
theorem i_Law_1097 : opAt m_Law 1097 = sIret .boolean := (opAt_of (M := m_Law) (i := .ireturn) (n := 1) ((TL_13 1097 (by omega)).trans (lk_head rfl))).trans rfl
theorem i_Law_1098 : opAt m_Law 1098 = sAld 1 1099 := (opAt_of (M := m_Law) (i := .aload_n 1) (n := 1) ((TL_13 1098 (by omega)).trans (lk_head rfl))).trans rfl
theorem i_Law_1099 : opAt m_Law 1099 = sAld 0 1100 := (opAt_of (M := m_Law) (i := .aload_n 0) (n := 1) ((TL_13 1099 (by omega)).trans (lk_head rfl))).trans rfl
theorem i_Law_1100 : opAt m_Law 1100 = sIld 3 1101 := (opAt_of (M := m_Law) (i := .iload_n 3) (n := 1) ((TL_13 1100 (by omega)).trans (lk_head rfl))).trans rfl
theorem i_Law_1101 : opAt m_Law 1101 = sPush (.int (Int32.ofInt 1)) 1102 := (opAt_of (M := m_Law) (i := .iconst 1) (n := 1) ((TL_13 1101 (by omega)).trans (lk_head rfl))).trans rfl
theorem i_Law_1102 : opAt m_Law 1102 = sBI (fun x y => x + y) 1103 := (opAt_of (M := m_Law) (i := .iadd) (n := 1) ((TL_13 1102 (by omega)).trans (lk_head rfl))).trans rfl
theorem i_Law_1103 : opAt m_Law 1103 = sIal 1104 := (opAt_of (M := m_Law) (i := .iaload) (n := 1) ((TL_13 1103 (by omega)).trans (lk_head rfl))).trans rfl
theorem i_Law_1104 : opAt m_Law 1104 = sAld 0 1105 := (opAt_of (M := m_Law) (i := .aload_n 0) (n := 1) ((TL_13 1104 (by omega)).trans (lk_head rfl))).trans rfl
theorem i_Law_1105 : opAt m_Law 1105 = sIld 3 1106 := (opAt_of (M := m_Law) (i := .iload_n 3) (n := 1) ((TL_13 1105 (by omega)).trans (lk_head rfl))).trans rfl
theorem i_Law_1106 : opAt m_Law 1106 = sPush (.int (Int32.ofInt 2)) 1107 := (opAt_of (M := m_Law) (i := .iconst 2) (n := 1) ((TL_13 1106 (by omega)).trans (lk_head rfl))).trans rfl
theorem i_Law_1107 : opAt m_Law 1107 = sBI (fun x y => x + y) 1108 := (opAt_of (M := m_Law) (i := .iadd) (n := 1) ((TL_13 1107 (by omega)).trans (lk_head rfl))).trans rfl
theorem i_Law_1108 : opAt m_Law 1108 = sIal 1109 := (opAt_of (M := m_Law) (i := .iaload) (n := 1) ((TL_13 1108 (by omega)).trans (lk_head rfl))).trans rfl
theorem i_Law_1109 : opAt m_Law 1109 = sVir [(10, m_Fi_tree)] 0 2 1112 := (opAt_of (M := m_Law) (i := .invokevirtual 118) (n := 3) ((TL_13 1109 (by omega)).trans (lk_head rfl))).trans rfl
theorem i_Law_1112 : opAt m_Law 1112 = sAld 2 1113 := (opAt_of (M := m_Law) (i := .aload_n 2) (n := 1) ((TL_13 1112 (by omega)).trans (lk_head rfl))).trans rfl
theorem i_Law_1113 : opAt m_Law 1113 = sAld 0 1114 := (opAt_of (M := m_Law) (i := .aload_n 0) (n := 1) ((TL_13 1113 (by omega)).trans (lk_head rfl))).trans rfl
theorem i_Law_1114 : opAt m_Law 1114 = sIld 3 1115 := (opAt_of (M := m_Law) (i := .iload_n 3) (n := 1) ((TL_13 1114 (by omega)).trans (lk_head rfl))).trans rfl
theorem i_Law_1115 : opAt m_Law 1115 = sPush (.int (Int32.ofInt 1)) 1116 := (opAt_of (M := m_Law) (i := .iconst 1) (n := 1) ((TL_13 1115 (by omega)).trans (lk_head rfl))).trans rfl
theorem i_Law_1116 : opAt m_Law 1116 = sBI (fun x y => x + y) 1117 := (opAt_of (M := m_Law) (i := .iadd) (n := 1) ((TL_13 1116 (by omega)).trans (lk_head rfl))).trans rfl
theorem i_Law_1117 : opAt m_Law 1117 = sIal 1118 := (opAt_of (M := m_Law) (i := .iaload) (n := 1) ((TL_13 1117 (by omega)).trans (lk_head rfl))).trans rfl
theorem i_Law_1118 : opAt m_Law 1118 = sAld 0 1119 := (opAt_of (M := m_Law) (i := .aload_n 0) (n := 1) ((TL_13 1118 (by omega)).trans (lk_head rfl))).trans rfl
theorem i_Law_1119 : opAt m_Law 1119 = sIld 3 1120 := (opAt_of (M := m_Law) (i := .iload_n 3) (n := 1) ((TL_13 1119 (by omega)).trans (lk_head rfl))).trans rfl
theorem i_Law_1120 : opAt m_Law 1120 = sPush (.int (Int32.ofInt 2)) 1121 := (opAt_of (M := m_Law) (i := .iconst 2) (n := 1) ((TL_13 1120 (by omega)).trans (lk_head rfl))).trans rfl
theorem i_Law_1121 : opAt m_Law 1121 = sBI (fun x y => x + y) 1122 := (opAt_of (M := m_Law) (i := .iadd) (n := 1) ((TL_13 1121 (by omega)).trans (lk_head rfl))).trans rfl
theorem i_Law_1122 : opAt m_Law 1122 = sIal 1123 := (opAt_of (M := m_Law) (i := .iaload) (n := 1) ((TL_13 1122 (by omega)).trans (lk_head rfl))).trans rfl
theorem i_Law_1123 : opAt m_Law 1123 = sVir [(11, m_Mo_tree)] 0 2 1126 := (opAt_of (M := m_Law) (i := .invokevirtual 121) (n := 3) ((TL_13 1123 (by omega)).trans (lk_head rfl))).trans rfl
theorem i_Law_1126 : opAt m_Law 1126 = sCm .eq 1260 1129 := (opAt_of (M := m_Law) (i := .if_icmp .eq 134) (n := 3) ((TL_13 1126 (by omega)).trans (lk_head rfl))).trans rfl
theorem i_Law_1129 : opAt m_Law 1129 = sPush (.int (Int32.ofInt 0)) 1130 := (opAt_of (M := m_Law) (i := .iconst 0) (n := 1) ((TL_13 1129 (by omega)).trans (lk_head rfl))).trans rfl
theorem i_Law_1130 : opAt m_Law 1130 = sIret .boolean := (opAt_of (M := m_Law) (i := .ireturn) (n := 1) ((TL_13 1130 (by omega)).trans (lk_head rfl))).trans rfl
theorem i_Law_1131 : opAt m_Law 1131 = sAld 1 1132 := (opAt_of (M := m_Law) (i := .aload_n 1) (n := 1) ((TL_13 1131 (by omega)).trans (lk_head rfl))).trans rfl
theorem i_Law_1132 : opAt m_Law 1132 = sAld 0 1133 := (opAt_of (M := m_Law) (i := .aload_n 0) (n := 1) ((TL_13 1132 (by omega)).trans (lk_head rfl))).trans rfl
theorem i_Law_1133 : opAt m_Law 1133 = sIld 3 1134 := (opAt_of (M := m_Law) (i := .iload_n 3) (n := 1) ((TL_13 1133 (by omega)).trans (lk_head rfl))).trans rfl
theorem i_Law_1134 : opAt m_Law 1134 = sPush (.int (Int32.ofInt 1)) 1135 := (opAt_of (M := m_Law) (i := .iconst 1) (n := 1) ((TL_13 1134 (by omega)).trans (lk_head rfl))).trans rfl
theorem i_Law_1135 : opAt m_Law 1135 = sBI (fun x y => x + y) 1136 := (opAt_of (M := m_Law) (i := .iadd) (n := 1) ((TL_13 1135 (by omega)).trans (lk_head rfl))).trans rfl
theorem i_Law_1136 : opAt m_Law 1136 = sIal 1137 := (opAt_of (M := m_Law) (i := .iaload) (n := 1) ((TL_13 1136 (by omega)).trans (lk_head rfl))).trans rfl
theorem i_Law_1137 : opAt m_Law 1137 = sAld 0 1138 := (opAt_of (M := m_Law) (i := .aload_n 0) (n := 1) ((TL_13 1137 (by omega)).trans (lk_head rfl))).trans rfl
theorem i_Law_1138 : opAt m_Law 1138 = sIld 3 1139 := (opAt_of (M := m_Law) (i := .iload_n 3) (n := 1) ((TL_13 1138 (by omega)).trans (lk_head rfl))).trans rfl
theorem i_Law_1139 : opAt m_Law 1139 = sPush (.int (Int32.ofInt 2)) 1140 := (opAt_of (M := m_Law) (i := .iconst 2) (n := 1) ((TL_13 1139 (by omega)).trans (lk_head rfl))).trans rfl
theorem i_Law_1140 : opAt m_Law 1140 = sBI (fun x y => x + y) 1141 := (opAt_of (M := m_Law) (i := .iadd) (n := 1) ((TL_13 1140 (by omega)).trans (lk_head rfl))).trans rfl
theorem i_Law_1141 : opAt m_Law 1141 = sIal 1142 := (opAt_of (M := m_Law) (i := .iaload) (n := 1) ((TL_13 1141 (by omega)).trans (lk_head rfl))).trans rfl
theorem i_Law_1142 : opAt m_Law 1142 = sAld 0 1143 := (opAt_of (M := m_Law) (i := .aload_n 0) (n := 1) ((TL_13 1142 (by omega)).trans (lk_head rfl))).trans rfl
theorem i_Law_1143 : opAt m_Law 1143 = sIld 3 1144 := (opAt_of (M := m_Law) (i := .iload_n 3) (n := 1) ((TL_13 1143 (by omega)).trans (lk_head rfl))).trans rfl
theorem i_Law_1144 : opAt m_Law 1144 = sPush (.int (Int32.ofInt 3)) 1145 := (opAt_of (M := m_Law) (i := .iconst 3) (n := 1) ((TL_13 1144 (by omega)).trans (lk_head rfl))).trans rfl
theorem i_Law_1145 : opAt m_Law 1145 = sBI (fun x y => x + y) 1146 := (opAt_of (M := m_Law) (i := .iadd) (n := 1) ((TL_13 1145 (by omega)).trans (lk_head rfl))).trans rfl
theorem i_Law_1146 : opAt m_Law 1146 = sIal 1147 := (opAt_of (M := m_Law) (i := .iaload) (n := 1) ((TL_13 1146 (by omega)).trans (lk_head rfl))).trans rfl
theorem i_Law_1147 : opAt m_Law 1147 = sVir [(10, m_Fi_whole)] 0 3 1150 := (opAt_of (M := m_Law) (i := .invokevirtual 122) (n := 3) ((TL_13 1147 (by omega)).trans (lk_head rfl))).trans rfl
theorem i_Law_1150 : opAt m_Law 1150 = sAld 2 1151 := (opAt_of (M := m_Law) (i := .aload_n 2) (n := 1) ((TL_13 1150 (by omega)).trans (lk_head rfl))).trans rfl
theorem i_Law_1151 : opAt m_Law 1151 = sAld 0 1152 := (opAt_of (M := m_Law) (i := .aload_n 0) (n := 1) ((TL_13 1151 (by omega)).trans (lk_head rfl))).trans rfl
theorem i_Law_1152 : opAt m_Law 1152 = sIld 3 1153 := (opAt_of (M := m_Law) (i := .iload_n 3) (n := 1) ((TL_13 1152 (by omega)).trans (lk_head rfl))).trans rfl
theorem i_Law_1153 : opAt m_Law 1153 = sPush (.int (Int32.ofInt 1)) 1154 := (opAt_of (M := m_Law) (i := .iconst 1) (n := 1) ((TL_13 1153 (by omega)).trans (lk_head rfl))).trans rfl
theorem i_Law_1154 : opAt m_Law 1154 = sBI (fun x y => x + y) 1155 := (opAt_of (M := m_Law) (i := .iadd) (n := 1) ((TL_13 1154 (by omega)).trans (lk_head rfl))).trans rfl
theorem i_Law_1155 : opAt m_Law 1155 = sIal 1156 := (opAt_of (M := m_Law) (i := .iaload) (n := 1) ((TL_13 1155 (by omega)).trans (lk_head rfl))).trans rfl
theorem i_Law_1156 : opAt m_Law 1156 = sAld 0 1157 := (opAt_of (M := m_Law) (i := .aload_n 0) (n := 1) ((TL_13 1156 (by omega)).trans (lk_head rfl))).trans rfl
theorem i_Law_1157 : opAt m_Law 1157 = sIld 3 1158 := (opAt_of (M := m_Law) (i := .iload_n 3) (n := 1) ((TL_13 1157 (by omega)).trans (lk_head rfl))).trans rfl
theorem i_Law_1158 : opAt m_Law 1158 = sPush (.int (Int32.ofInt 2)) 1159 := (opAt_of (M := m_Law) (i := .iconst 2) (n := 1) ((TL_13 1158 (by omega)).trans (lk_head rfl))).trans rfl
theorem i_Law_1159 : opAt m_Law 1159 = sBI (fun x y => x + y) 1160 := (opAt_of (M := m_Law) (i := .iadd) (n := 1) ((TL_13 1159 (by omega)).trans (lk_head rfl))).trans rfl
theorem i_Law_1160 : opAt m_Law 1160 = sIal 1161 := (opAt_of (M := m_Law) (i := .iaload) (n := 1) ((TL_13 1160 (by omega)).trans (lk_head rfl))).trans rfl
theorem i_Law_1161 : opAt m_Law 1161 = sAld 0 1162 := (opAt_of (M := m_Law) (i := .aload_n 0) (n := 1) ((TL_13 1161 (by omega)).trans (lk_head rfl))).trans rfl
theorem i_Law_1162 : opAt m_Law 1162 = sIld 3 1163 := (opAt_of (M := m_Law) (i := .iload_n 3) (n := 1) ((TL_13 1162 (by omega)).trans (lk_head rfl))).trans rfl
theorem i_Law_1163 : opAt m_Law 1163 = sPush (.int (Int32.ofInt 3)) 1164 := (opAt_of (M := m_Law) (i := .iconst 3) (n := 1) ((TL_13 1163 (by omega)).trans (lk_head rfl))).trans rfl
theorem i_Law_1164 : opAt m_Law 1164 = sBI (fun x y => x + y) 1165 := (opAt_of (M := m_Law) (i := .iadd) (n := 1) ((TL_14 1164 (by omega)).trans (lk_head rfl))).trans rfl
theorem i_Law_1165 : opAt m_Law 1165 = sIal 1166 := (opAt_of (M := m_Law) (i := .iaload) (n := 1) ((TL_14 1165 (by omega)).trans (lk_head rfl))).trans rfl
theorem i_Law_1166 : opAt m_Law 1166 = sVir [(11, m_Mo_whole)] 0 3 1169 := (opAt_of (M := m_Law) (i := .invokevirtual 125) (n := 3) ((TL_14 1166 (by omega)).trans (lk_head rfl))).trans rfl
theorem i_Law_1169 : opAt m_Law 1169 = sCm .eq 1260 1172 := (opAt_of (M := m_Law) (i := .if_icmp .eq 91) (n := 3) ((TL_14 1169 (by omega)).trans (lk_head rfl))).trans rfl
theorem i_Law_1172 : opAt m_Law 1172 = sPush (.int (Int32.ofInt 0)) 1173 := (opAt_of (M := m_Law) (i := .iconst 0) (n := 1) ((TL_14 1172 (by omega)).trans (lk_head rfl))).trans rfl
theorem i_Law_1173 : opAt m_Law 1173 = sIret .boolean := (opAt_of (M := m_Law) (i := .ireturn) (n := 1) ((TL_14 1173 (by omega)).trans (lk_head rfl))).trans rfl
theorem i_Law_1174 : opAt m_Law 1174 = sAld 1 1175 := (opAt_of (M := m_Law) (i := .aload_n 1) (n := 1) ((TL_14 1174 (by omega)).trans (lk_head rfl))).trans rfl
theorem i_Law_1175 : opAt m_Law 1175 = sAld 0 1176 := (opAt_of (M := m_Law) (i := .aload_n 0) (n := 1) ((TL_14 1175 (by omega)).trans (lk_head rfl))).trans rfl
theorem i_Law_1176 : opAt m_Law 1176 = sIld 3 1177 := (opAt_of (M := m_Law) (i := .iload_n 3) (n := 1) ((TL_14 1176 (by omega)).trans (lk_head rfl))).trans rfl
theorem i_Law_1177 : opAt m_Law 1177 = sPush (.int (Int32.ofInt 1)) 1178 := (opAt_of (M := m_Law) (i := .iconst 1) (n := 1) ((TL_14 1177 (by omega)).trans (lk_head rfl))).trans rfl
theorem i_Law_1178 : opAt m_Law 1178 = sBI (fun x y => x + y) 1179 := (opAt_of (M := m_Law) (i := .iadd) (n := 1) ((TL_14 1178 (by omega)).trans (lk_head rfl))).trans rfl
theorem i_Law_1179 : opAt m_Law 1179 = sIal 1180 := (opAt_of (M := m_Law) (i := .iaload) (n := 1) ((TL_14 1179 (by omega)).trans (lk_head rfl))).trans rfl
theorem i_Law_1180 : opAt m_Law 1180 = sVir [(10, m_Fi_left)] 0 1 1183 := (opAt_of (M := m_Law) (i := .invokevirtual 126) (n := 3) ((TL_14 1180 (by omega)).trans (lk_head rfl))).trans rfl
theorem i_Law_1183 : opAt m_Law 1183 = sAld 2 1184 := (opAt_of (M := m_Law) (i := .aload_n 2) (n := 1) ((TL_14 1183 (by omega)).trans (lk_head rfl))).trans rfl
theorem i_Law_1184 : opAt m_Law 1184 = sAld 0 1185 := (opAt_of (M := m_Law) (i := .aload_n 0) (n := 1) ((TL_14 1184 (by omega)).trans (lk_head rfl))).trans rfl
theorem i_Law_1185 : opAt m_Law 1185 = sIld 3 1186 := (opAt_of (M := m_Law) (i := .iload_n 3) (n := 1) ((TL_14 1185 (by omega)).trans (lk_head rfl))).trans rfl
theorem i_Law_1186 : opAt m_Law 1186 = sPush (.int (Int32.ofInt 1)) 1187 := (opAt_of (M := m_Law) (i := .iconst 1) (n := 1) ((TL_14 1186 (by omega)).trans (lk_head rfl))).trans rfl
theorem i_Law_1187 : opAt m_Law 1187 = sBI (fun x y => x + y) 1188 := (opAt_of (M := m_Law) (i := .iadd) (n := 1) ((TL_14 1187 (by omega)).trans (lk_head rfl))).trans rfl
theorem i_Law_1188 : opAt m_Law 1188 = sIal 1189 := (opAt_of (M := m_Law) (i := .iaload) (n := 1) ((TL_14 1188 (by omega)).trans (lk_head rfl))).trans rfl
theorem i_Law_1189 : opAt m_Law 1189 = sVir [(11, m_Mo_left)] 0 1 1192 := (opAt_of (M := m_Law) (i := .invokevirtual 129) (n := 3) ((TL_14 1189 (by omega)).trans (lk_head rfl))).trans rfl
theorem i_Law_1192 : opAt m_Law 1192 = sCm .eq 1260 1195 := (opAt_of (M := m_Law) (i := .if_icmp .eq 68) (n := 3) ((TL_14 1192 (by omega)).trans (lk_head rfl))).trans rfl
theorem i_Law_1195 : opAt m_Law 1195 = sPush (.int (Int32.ofInt 0)) 1196 := (opAt_of (M := m_Law) (i := .iconst 0) (n := 1) ((TL_14 1195 (by omega)).trans (lk_head rfl))).trans rfl
theorem i_Law_1196 : opAt m_Law 1196 = sIret .boolean := (opAt_of (M := m_Law) (i := .ireturn) (n := 1) ((TL_14 1196 (by omega)).trans (lk_head rfl))).trans rfl
theorem i_Law_1197 : opAt m_Law 1197 = sAld 1 1198 := (opAt_of (M := m_Law) (i := .aload_n 1) (n := 1) ((TL_14 1197 (by omega)).trans (lk_head rfl))).trans rfl
theorem i_Law_1198 : opAt m_Law 1198 = sVir [(10, m_Fi_image)] 0 0 1201 := (opAt_of (M := m_Law) (i := .invokevirtual 130) (n := 3) ((TL_14 1198 (by omega)).trans (lk_head rfl))).trans rfl
theorem i_Law_1201 : opAt m_Law 1201 = sAld 2 1202 := (opAt_of (M := m_Law) (i := .aload_n 2) (n := 1) ((TL_14 1201 (by omega)).trans (lk_head rfl))).trans rfl
theorem i_Law_1202 : opAt m_Law 1202 = sVir [(11, m_Mo_image)] 0 0 1205 := (opAt_of (M := m_Law) (i := .invokevirtual 133) (n := 3) ((TL_14 1202 (by omega)).trans (lk_head rfl))).trans rfl
theorem i_Law_1205 : opAt m_Law 1205 = sCm .eq 1260 1208 := (opAt_of (M := m_Law) (i := .if_icmp .eq 55) (n := 3) ((TL_14 1205 (by omega)).trans (lk_head rfl))).trans rfl
theorem i_Law_1208 : opAt m_Law 1208 = sPush (.int (Int32.ofInt 0)) 1209 := (opAt_of (M := m_Law) (i := .iconst 0) (n := 1) ((TL_14 1208 (by omega)).trans (lk_head rfl))).trans rfl
theorem i_Law_1209 : opAt m_Law 1209 = sIret .boolean := (opAt_of (M := m_Law) (i := .ireturn) (n := 1) ((TL_14 1209 (by omega)).trans (lk_head rfl))).trans rfl
theorem i_Law_1210 : opAt m_Law 1210 = sAld 1 1211 := (opAt_of (M := m_Law) (i := .aload_n 1) (n := 1) ((TL_14 1210 (by omega)).trans (lk_head rfl))).trans rfl
theorem i_Law_1211 : opAt m_Law 1211 = sVir [(10, m_Fi_restore)] 0 0 1214 := (opAt_of (M := m_Law) (i := .invokevirtual 134) (n := 3) ((TL_14 1211 (by omega)).trans (lk_head rfl))).trans rfl
theorem i_Law_1214 : opAt m_Law 1214 = sAld 2 1215 := (opAt_of (M := m_Law) (i := .aload_n 2) (n := 1) ((TL_14 1214 (by omega)).trans (lk_head rfl))).trans rfl
theorem i_Law_1215 : opAt m_Law 1215 = sVir [(11, m_Mo_restore)] 0 0 1218 := (opAt_of (M := m_Law) (i := .invokevirtual 137) (n := 3) ((TL_14 1215 (by omega)).trans (lk_head rfl))).trans rfl
theorem i_Law_1218 : opAt m_Law 1218 = sCm .eq 1260 1221 := (opAt_of (M := m_Law) (i := .if_icmp .eq 42) (n := 3) ((TL_14 1218 (by omega)).trans (lk_head rfl))).trans rfl
theorem i_Law_1221 : opAt m_Law 1221 = sPush (.int (Int32.ofInt 0)) 1222 := (opAt_of (M := m_Law) (i := .iconst 0) (n := 1) ((TL_14 1221 (by omega)).trans (lk_head rfl))).trans rfl
theorem i_Law_1222 : opAt m_Law 1222 = sIret .boolean := (opAt_of (M := m_Law) (i := .ireturn) (n := 1) ((TL_14 1222 (by omega)).trans (lk_head rfl))).trans rfl
theorem i_Law_1223 : opAt m_Law 1223 = sAld 1 1224 := (opAt_of (M := m_Law) (i := .aload_n 1) (n := 1) ((TL_14 1223 (by omega)).trans (lk_head rfl))).trans rfl
theorem i_Law_1224 : opAt m_Law 1224 = sAld 0 1225 := (opAt_of (M := m_Law) (i := .aload_n 0) (n := 1) ((TL_14 1224 (by omega)).trans (lk_head rfl))).trans rfl
theorem i_Law_1225 : opAt m_Law 1225 = sIld 3 1226 := (opAt_of (M := m_Law) (i := .iload_n 3) (n := 1) ((TL_14 1225 (by omega)).trans (lk_head rfl))).trans rfl
theorem i_Law_1226 : opAt m_Law 1226 = sPush (.int (Int32.ofInt 1)) 1227 := (opAt_of (M := m_Law) (i := .iconst 1) (n := 1) ((TL_14 1226 (by omega)).trans (lk_head rfl))).trans rfl
theorem i_Law_1227 : opAt m_Law 1227 = sBI (fun x y => x + y) 1228 := (opAt_of (M := m_Law) (i := .iadd) (n := 1) ((TL_14 1227 (by omega)).trans (lk_head rfl))).trans rfl
theorem i_Law_1228 : opAt m_Law 1228 = sIal 1229 := (opAt_of (M := m_Law) (i := .iaload) (n := 1) ((TL_14 1228 (by omega)).trans (lk_head rfl))).trans rfl
theorem i_Law_1229 : opAt m_Law 1229 = sVir [(10, m_Fi_count)] 0 1 1232 := (opAt_of (M := m_Law) (i := .invokevirtual 138) (n := 3) ((TL_14 1229 (by omega)).trans (lk_head rfl))).trans rfl
theorem i_Law_1232 : opAt m_Law 1232 = sAld 2 1233 := (opAt_of (M := m_Law) (i := .aload_n 2) (n := 1) ((TL_14 1232 (by omega)).trans (lk_head rfl))).trans rfl
theorem i_Law_1233 : opAt m_Law 1233 = sAld 0 1234 := (opAt_of (M := m_Law) (i := .aload_n 0) (n := 1) ((TL_14 1233 (by omega)).trans (lk_head rfl))).trans rfl
theorem i_Law_1234 : opAt m_Law 1234 = sIld 3 1235 := (opAt_of (M := m_Law) (i := .iload_n 3) (n := 1) ((TL_14 1234 (by omega)).trans (lk_head rfl))).trans rfl
theorem i_Law_1235 : opAt m_Law 1235 = sPush (.int (Int32.ofInt 1)) 1236 := (opAt_of (M := m_Law) (i := .iconst 1) (n := 1) ((TL_14 1235 (by omega)).trans (lk_head rfl))).trans rfl
theorem i_Law_1236 : opAt m_Law 1236 = sBI (fun x y => x + y) 1237 := (opAt_of (M := m_Law) (i := .iadd) (n := 1) ((TL_14 1236 (by omega)).trans (lk_head rfl))).trans rfl
theorem i_Law_1237 : opAt m_Law 1237 = sIal 1238 := (opAt_of (M := m_Law) (i := .iaload) (n := 1) ((TL_14 1237 (by omega)).trans (lk_head rfl))).trans rfl
theorem i_Law_1238 : opAt m_Law 1238 = sVir [(11, m_Mo_count)] 0 1 1241 := (opAt_of (M := m_Law) (i := .invokevirtual 141) (n := 3) ((TL_14 1238 (by omega)).trans (lk_head rfl))).trans rfl
theorem i_Law_1241 : opAt m_Law 1241 = sCm .eq 1260 1244 := (opAt_of (M := m_Law) (i := .if_icmp .eq 19) (n := 3) ((TL_14 1241 (by omega)).trans (lk_head rfl))).trans rfl
theorem i_Law_1244 : opAt m_Law 1244 = sPush (.int (Int32.ofInt 0)) 1245 := (opAt_of (M := m_Law) (i := .iconst 0) (n := 1) ((TL_14 1244 (by omega)).trans (lk_head rfl))).trans rfl
theorem i_Law_1245 : opAt m_Law 1245 = sIret .boolean := (opAt_of (M := m_Law) (i := .ireturn) (n := 1) ((TL_14 1245 (by omega)).trans (lk_head rfl))).trans rfl
theorem i_Law_1246 : opAt m_Law 1246 = sAld 1 1247 := (opAt_of (M := m_Law) (i := .aload_n 1) (n := 1) ((TL_14 1246 (by omega)).trans (lk_head rfl))).trans rfl
theorem i_Law_1247 : opAt m_Law 1247 = sVir [(10, m_Fi_digest)] 0 0 1250 := (opAt_of (M := m_Law) (i := .invokevirtual 142) (n := 3) ((TL_14 1247 (by omega)).trans (lk_head rfl))).trans rfl
theorem i_Law_1250 : opAt m_Law 1250 = sAld 2 1251 := (opAt_of (M := m_Law) (i := .aload_n 2) (n := 1) ((TL_14 1250 (by omega)).trans (lk_head rfl))).trans rfl
theorem i_Law_1251 : opAt m_Law 1251 = sVir [(11, m_Mo_digest)] 0 0 1254 := (opAt_of (M := m_Law) (i := .invokevirtual 146) (n := 3) ((TL_14 1251 (by omega)).trans (lk_head rfl))).trans rfl
theorem i_Law_1254 : opAt m_Law 1254 = sCmp 1255 := (opAt_of (M := m_Law) (i := .lcmp) (n := 1) ((TL_14 1254 (by omega)).trans (lk_head rfl))).trans rfl
theorem i_Law_1255 : opAt m_Law 1255 = sIf .eq 1260 1258 := (opAt_of (M := m_Law) (i := .ifCond .eq 5) (n := 3) ((TL_14 1255 (by omega)).trans (lk_head rfl))).trans rfl
theorem i_Law_1258 : opAt m_Law 1258 = sPush (.int (Int32.ofInt 0)) 1259 := (opAt_of (M := m_Law) (i := .iconst 0) (n := 1) ((TL_15 1258 (by omega)).trans (rfl))).trans rfl
theorem i_Law_1259 : opAt m_Law 1259 = sIret .boolean := (opAt_of (M := m_Law) (i := .ireturn) (n := 1) ((TL_15 1259 (by omega)).trans (rfl))).trans rfl
theorem i_Law_1260 : opAt m_Law 1260 = sInc 3 7 1263 := (opAt_of (M := m_Law) (i := .iinc 3 7) (n := 3) ((TL_15 1260 (by omega)).trans (rfl))).trans rfl
theorem i_Law_1263 : opAt m_Law 1263 = sGo 18 := (opAt_of (M := m_Law) (i := .goto (-1245)) (n := 3) ((TL_15 1263 (by omega)).trans (rfl))).trans rfl
theorem i_Law_1266 : opAt m_Law 1266 = sPush (.int (Int32.ofInt 1)) 1267 := (opAt_of (M := m_Law) (i := .iconst 1) (n := 1) ((TL_15 1266 (by omega)).trans (rfl))).trans rfl
theorem i_Law_1267 : opAt m_Law 1267 = sIret .boolean := (opAt_of (M := m_Law) (i := .ireturn) (n := 1) ((TL_15 1267 (by omega)).trans (rfl))).trans rfl
