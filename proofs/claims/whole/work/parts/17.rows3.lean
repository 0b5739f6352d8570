/-! EACH INSTRUCTION AS A STEP -/
theorem i_Mo_picture_0 : opAt m_Mo_picture 0 = sAld 0 1 := rfl
theorem i_Mo_picture_1 : opAt m_Mo_picture 1 = sIld 1 2 := rfl
theorem i_Mo_picture_2 : opAt m_Mo_picture 2 = sIld 2 3 := rfl
theorem i_Mo_picture_3 : opAt m_Mo_picture 3 = sVir [(11, m_Mo_isPicture)] 0 2 6 := rfl
theorem i_Mo_picture_6 : opAt m_Mo_picture 6 = sIf .ne 12 9 := rfl
theorem i_Mo_picture_9 : opAt m_Mo_picture 9 = sPush (.int (Int8.ofInt (-101)).toInt32) 11 := rfl
theorem i_Mo_picture_11 : opAt m_Mo_picture 11 = sIret .int := rfl
theorem i_Mo_picture_12 : opAt m_Mo_picture 12 = sIld 3 13 := rfl
theorem i_Mo_picture_13 : opAt m_Mo_picture 13 = sIL 14 := rfl
theorem i_Mo_picture_14 : opAt m_Mo_picture 14 = sPush (.long (Int64.ofNat ((0 : Fin 2) : Nat))) 15 := rfl
theorem i_Mo_picture_15 : opAt m_Mo_picture 15 = sPush (.long (2)) 18 := rfl
theorem i_Mo_picture_18 : opAt m_Mo_picture 18 = sSta m_Mo_in 0 3 21 := rfl
theorem i_Mo_picture_21 : opAt m_Mo_picture 21 = sIf .ne 27 24 := rfl
theorem i_Mo_picture_24 : opAt m_Mo_picture 24 = sPush (.int (Int8.ofInt (-102)).toInt32) 26 := rfl
theorem i_Mo_picture_26 : opAt m_Mo_picture 26 = sIret .int := rfl
theorem i_Mo_picture_27 : opAt m_Mo_picture 27 = sPush (.int (Int8.ofInt 48).toInt32) 29 := rfl
theorem i_Mo_picture_29 : opAt m_Mo_picture 29 = sIld 1 30 := rfl
theorem i_Mo_picture_30 : opAt m_Mo_picture 30 = sBI (fun x y => x * y) 31 := rfl
theorem i_Mo_picture_31 : opAt m_Mo_picture 31 = sIld 2 32 := rfl
theorem i_Mo_picture_32 : opAt m_Mo_picture 32 = sBI (fun x y => x + y) 33 := rfl
theorem i_Mo_picture_33 : opAt m_Mo_picture 33 = sIst 4 35 := rfl
theorem i_Mo_picture_35 : opAt m_Mo_picture 35 = sIld 3 36 := rfl
theorem i_Mo_picture_36 : opAt m_Mo_picture 36 = sIf .ne 49 39 := rfl
theorem i_Mo_picture_39 : opAt m_Mo_picture 39 = sAld 0 40 := rfl
theorem i_Mo_picture_40 : opAt m_Mo_picture 40 = sGet [(11, 14)] 43 := rfl
theorem i_Mo_picture_43 : opAt m_Mo_picture 43 = sIld 4 45 := rfl
theorem i_Mo_picture_45 : opAt m_Mo_picture 45 = sIal 46 := rfl
theorem i_Mo_picture_46 : opAt m_Mo_picture 46 = sGo 71 := rfl
theorem i_Mo_picture_49 : opAt m_Mo_picture 49 = sIld 3 50 := rfl
theorem i_Mo_picture_50 : opAt m_Mo_picture 50 = sPush (.int (Int32.ofInt 1)) 51 := rfl
theorem i_Mo_picture_51 : opAt m_Mo_picture 51 = sCm .ne 64 54 := rfl
theorem i_Mo_picture_54 : opAt m_Mo_picture 54 = sAld 0 55 := rfl
theorem i_Mo_picture_55 : opAt m_Mo_picture 55 = sGet [(11, 15)] 58 := rfl
theorem i_Mo_picture_58 : opAt m_Mo_picture 58 = sIld 4 60 := rfl
theorem i_Mo_picture_60 : opAt m_Mo_picture 60 = sIal 61 := rfl
theorem i_Mo_picture_61 : opAt m_Mo_picture 61 = sGo 71 := rfl
theorem i_Mo_picture_64 : opAt m_Mo_picture 64 = sAld 0 65 := rfl
theorem i_Mo_picture_65 : opAt m_Mo_picture 65 = sGet [(11, 16)] 68 := rfl
theorem i_Mo_picture_68 : opAt m_Mo_picture 68 = sIld 4 70 := rfl
theorem i_Mo_picture_70 : opAt m_Mo_picture 70 = sIal 71 := rfl
theorem i_Mo_picture_71 : opAt m_Mo_picture 71 = sIret .int := rfl
theorem i_Mo_lets_0 : opAt m_Mo_lets 0 = sAld 0 1 := rfl
theorem i_Mo_lets_1 : opAt m_Mo_lets 1 = sIld 1 2 := rfl
theorem i_Mo_lets_2 : opAt m_Mo_lets 2 = sVir [(11, m_Mo_isPrint)] 0 1 5 := rfl
theorem i_Mo_lets_5 : opAt m_Mo_lets 5 = sIf .ne 11 8 := rfl
theorem i_Mo_lets_8 : opAt m_Mo_lets 8 = sPush (.int (Int8.ofInt (-101)).toInt32) 10 := rfl
theorem i_Mo_lets_10 : opAt m_Mo_lets 10 = sIret .int := rfl
theorem i_Mo_lets_11 : opAt m_Mo_lets 11 = sIld 2 12 := rfl
theorem i_Mo_lets_12 : opAt m_Mo_lets 12 = sIld 3 13 := rfl
theorem i_Mo_lets_13 : opAt m_Mo_lets 13 = sSta m_Mo_isLook 0 2 16 := rfl
theorem i_Mo_lets_16 : opAt m_Mo_lets 16 = sIf .eq 29 19 := rfl
theorem i_Mo_lets_19 : opAt m_Mo_lets 19 = sIld 4 21 := rfl
theorem i_Mo_lets_21 : opAt m_Mo_lets 21 = sIld 5 23 := rfl
theorem i_Mo_lets_23 : opAt m_Mo_lets 23 = sSta m_Mo_isRound 0 2 26 := rfl
theorem i_Mo_lets_26 : opAt m_Mo_lets 26 = sIf .ne 32 29 := rfl
theorem i_Mo_lets_29 : opAt m_Mo_lets 29 = sPush (.int (Int8.ofInt (-102)).toInt32) 31 := rfl
theorem i_Mo_lets_31 : opAt m_Mo_lets 31 = sIret .int := rfl
theorem i_Mo_lets_32 : opAt m_Mo_lets 32 = sAld 0 33 := rfl
theorem i_Mo_lets_33 : opAt m_Mo_lets 33 = sIld 1 34 := rfl
theorem i_Mo_lets_34 : opAt m_Mo_lets 34 = sIld 2 35 := rfl
theorem i_Mo_lets_35 : opAt m_Mo_lets 35 = sIld 3 36 := rfl
theorem i_Mo_lets_36 : opAt m_Mo_lets 36 = sIld 4 38 := rfl
theorem i_Mo_lets_38 : opAt m_Mo_lets 38 = sIld 5 40 := rfl
theorem i_Mo_lets_40 : opAt m_Mo_lets 40 = sVir [(11, m_Mo_letsNow)] 0 5 43 := rfl
theorem i_Mo_lets_43 : opAt m_Mo_lets 43 = sIf .eq 50 46 := rfl
theorem i_Mo_lets_46 : opAt m_Mo_lets 46 = sPush (.int (Int32.ofInt 1)) 47 := rfl
theorem i_Mo_lets_47 : opAt m_Mo_lets 47 = sGo 51 := rfl
theorem i_Mo_lets_50 : opAt m_Mo_lets 50 = sPush (.int (Int32.ofInt 0)) 51 := rfl
theorem i_Mo_lets_51 : opAt m_Mo_lets 51 = sIret .int := rfl
theorem i_Mo_isLook_0 : opAt m_Mo_isLook 0 = sIld 0 1 := rfl
theorem i_Mo_isLook_1 : opAt m_Mo_isLook 1 = sSta m_Mo_isSide 0 1 4 := rfl
theorem i_Mo_isLook_4 : opAt m_Mo_isLook 4 = sIf .eq 23 7 := rfl
theorem i_Mo_isLook_7 : opAt m_Mo_isLook 7 = sIld 1 8 := rfl
theorem i_Mo_isLook_8 : opAt m_Mo_isLook 8 = sIL 9 := rfl
theorem i_Mo_isLook_9 : opAt m_Mo_isLook 9 = sPush (.long (Int64.ofNat ((0 : Fin 2) : Nat))) 10 := rfl
theorem i_Mo_isLook_10 : opAt m_Mo_isLook 10 = sPush (.long (2)) 13 := rfl
theorem i_Mo_isLook_13 : opAt m_Mo_isLook 13 = sSta m_Mo_in 0 3 16 := rfl
theorem i_Mo_isLook_16 : opAt m_Mo_isLook 16 = sIf .eq 23 19 := rfl
theorem i_Mo_isLook_19 : opAt m_Mo_isLook 19 = sPush (.int (Int32.ofInt 1)) 20 := rfl
theorem i_Mo_isLook_20 : opAt m_Mo_isLook 20 = sGo 24 := rfl
theorem i_Mo_isLook_23 : opAt m_Mo_isLook 23 = sPush (.int (Int32.ofInt 0)) 24 := rfl
theorem i_Mo_isLook_24 : opAt m_Mo_isLook 24 = sIret .boolean := rfl
theorem i_Mo_isRound_0 : opAt m_Mo_isRound 0 = sIld 0 1 := rfl
theorem i_Mo_isRound_1 : opAt m_Mo_isRound 1 = sIL 2 := rfl
theorem i_Mo_isRound_2 : opAt m_Mo_isRound 2 = sPush (.long (2)) 5 := rfl
theorem i_Mo_isRound_5 : opAt m_Mo_isRound 5 = sPush (.long (19)) 8 := rfl
theorem i_Mo_isRound_8 : opAt m_Mo_isRound 8 = sSta m_Mo_in 0 3 11 := rfl
theorem i_Mo_isRound_11 : opAt m_Mo_isRound 11 = sIf .eq 31 14 := rfl
theorem i_Mo_isRound_14 : opAt m_Mo_isRound 14 = sIld 1 15 := rfl
theorem i_Mo_isRound_15 : opAt m_Mo_isRound 15 = sIL 16 := rfl
theorem i_Mo_isRound_16 : opAt m_Mo_isRound 16 = sPush (.long (Int64.ofNat ((0 : Fin 2) : Nat))) 17 := rfl
theorem i_Mo_isRound_17 : opAt m_Mo_isRound 17 = sIld 0 18 := rfl
theorem i_Mo_isRound_18 : opAt m_Mo_isRound 18 = sPush (.int (Int32.ofInt 1)) 19 := rfl
theorem i_Mo_isRound_19 : opAt m_Mo_isRound 19 = sBI (fun x y => x - y) 20 := rfl
theorem i_Mo_isRound_20 : opAt m_Mo_isRound 20 = sIL 21 := rfl
theorem i_Mo_isRound_21 : opAt m_Mo_isRound 21 = sSta m_Mo_in 0 3 24 := rfl
theorem i_Mo_isRound_24 : opAt m_Mo_isRound 24 = sIf .eq 31 27 := rfl
theorem i_Mo_isRound_27 : opAt m_Mo_isRound 27 = sPush (.int (Int32.ofInt 1)) 28 := rfl
theorem i_Mo_isRound_28 : opAt m_Mo_isRound 28 = sGo 32 := rfl
theorem i_Mo_isRound_31 : opAt m_Mo_isRound 31 = sPush (.int (Int32.ofInt 0)) 32 := rfl
theorem i_Mo_isRound_32 : opAt m_Mo_isRound 32 = sIret .boolean := rfl
theorem i_Mo_letsNow_0 : opAt m_Mo_letsNow 0 = sPush (.int (Int32.ofInt 0)) 1 := rfl
theorem i_Mo_letsNow_1 : opAt m_Mo_letsNow 1 = sIst 6 3 := rfl
theorem i_Mo_letsNow_3 : opAt m_Mo_letsNow 3 = sPush (.int (Int32.ofInt 1)) 4 := rfl
theorem i_Mo_letsNow_4 : opAt m_Mo_letsNow 4 = sIst 7 6 := rfl
theorem i_Mo_letsNow_6 : opAt m_Mo_letsNow 6 = sIld 5 8 := rfl
theorem i_Mo_letsNow_8 : opAt m_Mo_letsNow 8 = sIst 8 10 := rfl
theorem i_Mo_letsNow_10 : opAt m_Mo_letsNow 10 = sIld 8 12 := rfl
theorem i_Mo_letsNow_12 : opAt m_Mo_letsNow 12 = sAld 0 13 := rfl
theorem i_Mo_letsNow_13 : opAt m_Mo_letsNow 13 = sGet [(11, 13)] 16 := rfl
theorem i_Mo_letsNow_16 : opAt m_Mo_letsNow 16 = sIld 1 17 := rfl
theorem i_Mo_letsNow_17 : opAt m_Mo_letsNow 17 = sIal 18 := rfl
theorem i_Mo_letsNow_18 : opAt m_Mo_letsNow 18 = sCm .ge 58 21 := rfl
theorem i_Mo_letsNow_21 : opAt m_Mo_letsNow 21 = sInc 6 1 24 := rfl
theorem i_Mo_letsNow_24 : opAt m_Mo_letsNow 24 = sIld 7 26 := rfl
theorem i_Mo_letsNow_26 : opAt m_Mo_letsNow 26 = sIf .eq 45 29 := rfl
theorem i_Mo_letsNow_29 : opAt m_Mo_letsNow 29 = sAld 0 30 := rfl
theorem i_Mo_letsNow_30 : opAt m_Mo_letsNow 30 = sIld 1 31 := rfl
theorem i_Mo_letsNow_31 : opAt m_Mo_letsNow 31 = sIld 8 33 := rfl
theorem i_Mo_letsNow_33 : opAt m_Mo_letsNow 33 = sIld 2 34 := rfl
theorem i_Mo_letsNow_34 : opAt m_Mo_letsNow 34 = sIld 3 35 := rfl
theorem i_Mo_letsNow_35 : opAt m_Mo_letsNow 35 = sVir [(11, m_Mo_has)] 0 4 38 := rfl
theorem i_Mo_letsNow_38 : opAt m_Mo_letsNow 38 = sIf .eq 45 41 := rfl
theorem i_Mo_letsNow_41 : opAt m_Mo_letsNow 41 = sPush (.int (Int32.ofInt 1)) 42 := rfl
theorem i_Mo_letsNow_42 : opAt m_Mo_letsNow 42 = sGo 46 := rfl
theorem i_Mo_letsNow_45 : opAt m_Mo_letsNow 45 = sPush (.int (Int32.ofInt 0)) 46 := rfl
theorem i_Mo_letsNow_46 : opAt m_Mo_letsNow 46 = sIst 7 48 := rfl
theorem i_Mo_letsNow_48 : opAt m_Mo_letsNow 48 = sIld 8 50 := rfl
theorem i_Mo_letsNow_50 : opAt m_Mo_letsNow 50 = sIld 4 52 := rfl
theorem i_Mo_letsNow_52 : opAt m_Mo_letsNow 52 = sBI (fun x y => x + y) 53 := rfl
theorem i_Mo_letsNow_53 : opAt m_Mo_letsNow 53 = sIst 8 55 := rfl
theorem i_Mo_letsNow_55 : opAt m_Mo_letsNow 55 = sGo 10 := rfl
theorem i_Mo_letsNow_58 : opAt m_Mo_letsNow 58 = sIld 7 60 := rfl
theorem i_Mo_letsNow_60 : opAt m_Mo_letsNow 60 = sIf .eq 73 63 := rfl
theorem i_Mo_letsNow_63 : opAt m_Mo_letsNow 63 = sIld 6 65 := rfl
theorem i_Mo_letsNow_65 : opAt m_Mo_letsNow 65 = sPush (.int (Int32.ofInt 1)) 66 := rfl
theorem i_Mo_letsNow_66 : opAt m_Mo_letsNow 66 = sCm .le 73 69 := rfl
theorem i_Mo_letsNow_69 : opAt m_Mo_letsNow 69 = sPush (.int (Int32.ofInt 1)) 70 := rfl
theorem i_Mo_letsNow_70 : opAt m_Mo_letsNow 70 = sGo 74 := rfl
theorem i_Mo_letsNow_73 : opAt m_Mo_letsNow 73 = sPush (.int (Int32.ofInt 0)) 74 := rfl
theorem i_Mo_letsNow_74 : opAt m_Mo_letsNow 74 = sIret .boolean := rfl
theorem i_Mo_has_0 : opAt m_Mo_has 0 = sPush (.int (Int8.ofInt 48).toInt32) 2 := rfl
theorem i_Mo_has_2 : opAt m_Mo_has 2 = sIld 1 3 := rfl
theorem i_Mo_has_3 : opAt m_Mo_has 3 = sBI (fun x y => x * y) 4 := rfl
theorem i_Mo_has_4 : opAt m_Mo_has 4 = sIld 2 5 := rfl
theorem i_Mo_has_5 : opAt m_Mo_has 5 = sBI (fun x y => x + y) 6 := rfl
theorem i_Mo_has_6 : opAt m_Mo_has 6 = sIst 5 8 := rfl
theorem i_Mo_has_8 : opAt m_Mo_has 8 = sIld 4 10 := rfl
theorem i_Mo_has_10 : opAt m_Mo_has 10 = sIf .ne 23 13 := rfl
theorem i_Mo_has_13 : opAt m_Mo_has 13 = sAld 0 14 := rfl
theorem i_Mo_has_14 : opAt m_Mo_has 14 = sGet [(11, 15)] 17 := rfl
theorem i_Mo_has_17 : opAt m_Mo_has 17 = sIld 5 19 := rfl
theorem i_Mo_has_19 : opAt m_Mo_has 19 = sIal 20 := rfl
theorem i_Mo_has_20 : opAt m_Mo_has 20 = sGo 54 := rfl
theorem i_Mo_has_23 : opAt m_Mo_has 23 = sIld 4 25 := rfl
theorem i_Mo_has_25 : opAt m_Mo_has 25 = sPush (.int (Int32.ofInt 1)) 26 := rfl
theorem i_Mo_has_26 : opAt m_Mo_has 26 = sCm .ne 39 29 := rfl
theorem i_Mo_has_29 : opAt m_Mo_has 29 = sAld 0 30 := rfl
theorem i_Mo_has_30 : opAt m_Mo_has 30 = sGet [(11, 16)] 33 := rfl
theorem i_Mo_has_33 : opAt m_Mo_has 33 = sIld 5 35 := rfl
theorem i_Mo_has_35 : opAt m_Mo_has 35 = sIal 36 := rfl
theorem i_Mo_has_36 : opAt m_Mo_has 36 = sGo 54 := rfl
theorem i_Mo_has_39 : opAt m_Mo_has 39 = sAld 0 40 := rfl
theorem i_Mo_has_40 : opAt m_Mo_has 40 = sGet [(11, 15)] 43 := rfl
theorem i_Mo_has_43 : opAt m_Mo_has 43 = sIld 5 45 := rfl
theorem i_Mo_has_45 : opAt m_Mo_has 45 = sIal 46 := rfl
theorem i_Mo_has_46 : opAt m_Mo_has 46 = sAld 0 47 := rfl
theorem i_Mo_has_47 : opAt m_Mo_has 47 = sGet [(11, 16)] 50 := rfl
theorem i_Mo_has_50 : opAt m_Mo_has 50 = sIld 5 52 := rfl
theorem i_Mo_has_52 : opAt m_Mo_has 52 = sIal 53 := rfl
theorem i_Mo_has_53 : opAt m_Mo_has 53 = sBI (fun x y => x ||| y) 54 := rfl
theorem i_Mo_has_54 : opAt m_Mo_has 54 = sIst 6 56 := rfl
theorem i_Mo_has_56 : opAt m_Mo_has 56 = sIld 6 58 := rfl
theorem i_Mo_has_58 : opAt m_Mo_has 58 = sIld 3 59 := rfl
theorem i_Mo_has_59 : opAt m_Mo_has 59 = sBI (fun x y => x >>> (y &&& 31)) 60 := rfl
theorem i_Mo_has_60 : opAt m_Mo_has 60 = sPush (.int (Int32.ofInt 1)) 61 := rfl
theorem i_Mo_has_61 : opAt m_Mo_has 61 = sBI (fun x y => x &&& y) 62 := rfl
theorem i_Mo_has_62 : opAt m_Mo_has 62 = sPush (.int (Int32.ofInt 1)) 63 := rfl
theorem i_Mo_has_63 : opAt m_Mo_has 63 = sCm .ne 70 66 := rfl
theorem i_Mo_has_66 : opAt m_Mo_has 66 = sPush (.int (Int32.ofInt 1)) 67 := rfl
theorem i_Mo_has_67 : opAt m_Mo_has 67 = sGo 71 := rfl
theorem i_Mo_has_70 : opAt m_Mo_has 70 = sPush (.int (Int32.ofInt 0)) 71 := rfl
theorem i_Mo_has_71 : opAt m_Mo_has 71 = sIret .boolean := rfl
theorem i_Mo_rounds_0 : opAt m_Mo_rounds 0 = sAld 0 1 := rfl
theorem i_Mo_rounds_1 : opAt m_Mo_rounds 1 = sIld 1 2 := rfl
theorem i_Mo_rounds_2 : opAt m_Mo_rounds 2 = sVir [(11, m_Mo_isPrint)] 0 1 5 := rfl
theorem i_Mo_rounds_5 : opAt m_Mo_rounds 5 = sIf .ne 11 8 := rfl
theorem i_Mo_rounds_8 : opAt m_Mo_rounds 8 = sPush (.int (Int8.ofInt (-101)).toInt32) 10 := rfl
theorem i_Mo_rounds_10 : opAt m_Mo_rounds 10 = sIret .int := rfl
theorem i_Mo_rounds_11 : opAt m_Mo_rounds 11 = sIld 2 12 := rfl
theorem i_Mo_rounds_12 : opAt m_Mo_rounds 12 = sIld 3 13 := rfl
theorem i_Mo_rounds_13 : opAt m_Mo_rounds 13 = sSta m_Mo_isLook 0 2 16 := rfl
theorem i_Mo_rounds_16 : opAt m_Mo_rounds 16 = sIf .eq 29 19 := rfl
theorem i_Mo_rounds_19 : opAt m_Mo_rounds 19 = sAld 0 20 := rfl
theorem i_Mo_rounds_20 : opAt m_Mo_rounds 20 = sIld 1 21 := rfl
theorem i_Mo_rounds_21 : opAt m_Mo_rounds 21 = sIld 2 22 := rfl
theorem i_Mo_rounds_22 : opAt m_Mo_rounds 22 = sIld 3 23 := rfl
theorem i_Mo_rounds_23 : opAt m_Mo_rounds 23 = sVir [(11, m_Mo_roundsOf)] 0 3 26 := rfl
theorem i_Mo_rounds_26 : opAt m_Mo_rounds 26 = sGo 31 := rfl
theorem i_Mo_rounds_29 : opAt m_Mo_rounds 29 = sPush (.int (Int8.ofInt (-102)).toInt32) 31 := rfl
theorem i_Mo_rounds_31 : opAt m_Mo_rounds 31 = sIret .int := rfl
theorem i_Mo_roundsOf_0 : opAt m_Mo_roundsOf 0 = sPush (.int (Int32.ofInt 0)) 1 := rfl
theorem i_Mo_roundsOf_1 : opAt m_Mo_roundsOf 1 = sIst 4 3 := rfl
theorem i_Mo_roundsOf_3 : opAt m_Mo_roundsOf 3 = sPush (.int (Int32.ofInt 2)) 4 := rfl
theorem i_Mo_roundsOf_4 : opAt m_Mo_roundsOf 4 = sIst 5 6 := rfl
theorem i_Mo_roundsOf_6 : opAt m_Mo_roundsOf 6 = sIld 5 8 := rfl
theorem i_Mo_roundsOf_8 : opAt m_Mo_roundsOf 8 = sPush (.int (Int8.ofInt 20).toInt32) 10 := rfl
theorem i_Mo_roundsOf_10 : opAt m_Mo_roundsOf 10 = sCm .ge 62 13 := rfl
theorem i_Mo_roundsOf_13 : opAt m_Mo_roundsOf 13 = sPush (.int (Int32.ofInt 0)) 14 := rfl
theorem i_Mo_roundsOf_14 : opAt m_Mo_roundsOf 14 = sIst 6 16 := rfl
theorem i_Mo_roundsOf_16 : opAt m_Mo_roundsOf 16 = sIld 6 18 := rfl
theorem i_Mo_roundsOf_18 : opAt m_Mo_roundsOf 18 = sIld 5 20 := rfl
theorem i_Mo_roundsOf_20 : opAt m_Mo_roundsOf 20 = sCm .ge 56 23 := rfl
theorem i_Mo_roundsOf_23 : opAt m_Mo_roundsOf 23 = sIld 4 25 := rfl
theorem i_Mo_roundsOf_25 : opAt m_Mo_roundsOf 25 = sAld 0 26 := rfl
theorem i_Mo_roundsOf_26 : opAt m_Mo_roundsOf 26 = sIld 1 27 := rfl
theorem i_Mo_roundsOf_27 : opAt m_Mo_roundsOf 27 = sIld 2 28 := rfl
theorem i_Mo_roundsOf_28 : opAt m_Mo_roundsOf 28 = sIld 3 29 := rfl
theorem i_Mo_roundsOf_29 : opAt m_Mo_roundsOf 29 = sIld 5 31 := rfl
theorem i_Mo_roundsOf_31 : opAt m_Mo_roundsOf 31 = sIld 6 33 := rfl
theorem i_Mo_roundsOf_33 : opAt m_Mo_roundsOf 33 = sVir [(11, m_Mo_letsNow)] 0 5 36 := rfl
theorem i_Mo_roundsOf_36 : opAt m_Mo_roundsOf 36 = sIf .eq 46 39 := rfl
theorem i_Mo_roundsOf_39 : opAt m_Mo_roundsOf 39 = sPush (.int (Int32.ofInt 1)) 40 := rfl
theorem i_Mo_roundsOf_40 : opAt m_Mo_roundsOf 40 = sIld 5 42 := rfl
theorem i_Mo_roundsOf_42 : opAt m_Mo_roundsOf 42 = sBI (fun x y => x <<< (y &&& 31)) 43 := rfl
theorem i_Mo_roundsOf_43 : opAt m_Mo_roundsOf 43 = sGo 47 := rfl
theorem i_Mo_roundsOf_46 : opAt m_Mo_roundsOf 46 = sPush (.int (Int32.ofInt 0)) 47 := rfl
theorem i_Mo_roundsOf_47 : opAt m_Mo_roundsOf 47 = sBI (fun x y => x ||| y) 48 := rfl
theorem i_Mo_roundsOf_48 : opAt m_Mo_roundsOf 48 = sIst 4 50 := rfl
theorem i_Mo_roundsOf_50 : opAt m_Mo_roundsOf 50 = sInc 6 1 53 := rfl
theorem i_Mo_roundsOf_53 : opAt m_Mo_roundsOf 53 = sGo 16 := rfl
theorem i_Mo_roundsOf_56 : opAt m_Mo_roundsOf 56 = sInc 5 1 59 := rfl
theorem i_Mo_roundsOf_59 : opAt m_Mo_roundsOf 59 = sGo 6 := rfl
theorem i_Mo_roundsOf_62 : opAt m_Mo_roundsOf 62 = sIld 4 64 := rfl
theorem i_Mo_roundsOf_64 : opAt m_Mo_roundsOf 64 = sIret .int := rfl
theorem i_Mo_chance_0 : opAt m_Mo_chance 0 = sAld 0 1 := rfl
theorem i_Mo_chance_1 : opAt m_Mo_chance 1 = sIld 1 2 := rfl
theorem i_Mo_chance_2 : opAt m_Mo_chance 2 = sVir [(11, m_Mo_isPrint)] 0 1 5 := rfl
theorem i_Mo_chance_5 : opAt m_Mo_chance 5 = sIf .ne 12 8 := rfl
theorem i_Mo_chance_8 : opAt m_Mo_chance 8 = sPush (.long (-101)) 11 := rfl
theorem i_Mo_chance_11 : opAt m_Mo_chance 11 = sLret := rfl
theorem i_Mo_chance_12 : opAt m_Mo_chance 12 = sIld 2 13 := rfl
theorem i_Mo_chance_13 : opAt m_Mo_chance 13 = sIld 3 14 := rfl
theorem i_Mo_chance_14 : opAt m_Mo_chance 14 = sSta m_Mo_isLook 0 2 17 := rfl
theorem i_Mo_chance_17 : opAt m_Mo_chance 17 = sIf .eq 41 20 := rfl
theorem i_Mo_chance_20 : opAt m_Mo_chance 20 = sIld 4 22 := rfl
theorem i_Mo_chance_22 : opAt m_Mo_chance 22 = sIld 5 24 := rfl
theorem i_Mo_chance_24 : opAt m_Mo_chance 24 = sSta m_Mo_isRound 0 2 27 := rfl
theorem i_Mo_chance_27 : opAt m_Mo_chance 27 = sIf .eq 41 30 := rfl
theorem i_Mo_chance_30 : opAt m_Mo_chance 30 = sIld 6 32 := rfl
theorem i_Mo_chance_32 : opAt m_Mo_chance 32 = sIL 33 := rfl
theorem i_Mo_chance_33 : opAt m_Mo_chance 33 = sPush (.long (Int64.ofNat ((0 : Fin 2) : Nat))) 34 := rfl
theorem i_Mo_chance_34 : opAt m_Mo_chance 34 = sPush (.long (Int64.ofNat ((1 : Fin 2) : Nat))) 35 := rfl
theorem i_Mo_chance_35 : opAt m_Mo_chance 35 = sSta m_Mo_in 0 3 38 := rfl
theorem i_Mo_chance_38 : opAt m_Mo_chance 38 = sIf .ne 45 41 := rfl
theorem i_Mo_chance_41 : opAt m_Mo_chance 41 = sPush (.long (-102)) 44 := rfl
theorem i_Mo_chance_44 : opAt m_Mo_chance 44 = sLret := rfl
theorem i_Mo_chance_45 : opAt m_Mo_chance 45 = sAld 0 46 := rfl
theorem i_Mo_chance_46 : opAt m_Mo_chance 46 = sGet [(11, 13)] 49 := rfl
theorem i_Mo_chance_49 : opAt m_Mo_chance 49 = sIld 1 50 := rfl
theorem i_Mo_chance_50 : opAt m_Mo_chance 50 = sIal 51 := rfl
theorem i_Mo_chance_51 : opAt m_Mo_chance 51 = sIst 7 53 := rfl
theorem i_Mo_chance_53 : opAt m_Mo_chance 53 = sPush (.int (Int32.ofInt 0)) 54 := rfl
theorem i_Mo_chance_54 : opAt m_Mo_chance 54 = sIst 8 56 := rfl
theorem i_Mo_chance_56 : opAt m_Mo_chance 56 = sPush (.int (Int32.ofInt 0)) 57 := rfl
theorem i_Mo_chance_57 : opAt m_Mo_chance 57 = sIst 9 59 := rfl
theorem i_Mo_chance_59 : opAt m_Mo_chance 59 = sPush (.int (Int32.ofInt 0)) 60 := rfl
theorem i_Mo_chance_60 : opAt m_Mo_chance 60 = sIst 10 62 := rfl
theorem i_Mo_chance_62 : opAt m_Mo_chance 62 = sIld 10 64 := rfl
theorem i_Mo_chance_64 : opAt m_Mo_chance 64 = sIld 7 66 := rfl
theorem i_Mo_chance_66 : opAt m_Mo_chance 66 = sCm .ge 117 69 := rfl
theorem i_Mo_chance_69 : opAt m_Mo_chance 69 = sIld 8 71 := rfl
theorem i_Mo_chance_71 : opAt m_Mo_chance 71 = sAld 0 72 := rfl
theorem i_Mo_chance_72 : opAt m_Mo_chance 72 = sIld 1 73 := rfl
theorem i_Mo_chance_73 : opAt m_Mo_chance 73 = sIld 10 75 := rfl
theorem i_Mo_chance_75 : opAt m_Mo_chance 75 = sIld 2 76 := rfl
theorem i_Mo_chance_76 : opAt m_Mo_chance 76 = sIld 3 77 := rfl
theorem i_Mo_chance_77 : opAt m_Mo_chance 77 = sVir [(11, m_Mo_has)] 0 4 80 := rfl
theorem i_Mo_chance_80 : opAt m_Mo_chance 80 = sIf .eq 87 83 := rfl
theorem i_Mo_chance_83 : opAt m_Mo_chance 83 = sPush (.int (Int32.ofInt 1)) 84 := rfl
theorem i_Mo_chance_84 : opAt m_Mo_chance 84 = sGo 88 := rfl
theorem i_Mo_chance_87 : opAt m_Mo_chance 87 = sPush (.int (Int32.ofInt 0)) 88 := rfl
theorem i_Mo_chance_88 : opAt m_Mo_chance 88 = sBI (fun x y => x + y) 89 := rfl
theorem i_Mo_chance_89 : opAt m_Mo_chance 89 = sIst 8 91 := rfl
theorem i_Mo_chance_91 : opAt m_Mo_chance 91 = sIld 9 93 := rfl
theorem i_Mo_chance_93 : opAt m_Mo_chance 93 = sIld 10 95 := rfl
theorem i_Mo_chance_95 : opAt m_Mo_chance 95 = sIld 4 97 := rfl
theorem i_Mo_chance_97 : opAt m_Mo_chance 97 = sDI (fun x y => x - x / y * y) 98 := rfl
theorem i_Mo_chance_98 : opAt m_Mo_chance 98 = sIld 5 100 := rfl
theorem i_Mo_chance_100 : opAt m_Mo_chance 100 = sCm .ne 107 103 := rfl
theorem i_Mo_chance_103 : opAt m_Mo_chance 103 = sPush (.int (Int32.ofInt 1)) 104 := rfl
theorem i_Mo_chance_104 : opAt m_Mo_chance 104 = sGo 108 := rfl
theorem i_Mo_chance_107 : opAt m_Mo_chance 107 = sPush (.int (Int32.ofInt 0)) 108 := rfl
theorem i_Mo_chance_108 : opAt m_Mo_chance 108 = sBI (fun x y => x + y) 109 := rfl
theorem i_Mo_chance_109 : opAt m_Mo_chance 109 = sIst 9 111 := rfl
theorem i_Mo_chance_111 : opAt m_Mo_chance 111 = sInc 10 1 114 := rfl
theorem i_Mo_chance_114 : opAt m_Mo_chance 114 = sGo 62 := rfl
theorem i_Mo_chance_117 : opAt m_Mo_chance 117 = sAld 0 118 := rfl
theorem i_Mo_chance_118 : opAt m_Mo_chance 118 = sIld 7 120 := rfl
theorem i_Mo_chance_120 : opAt m_Mo_chance 120 = sIld 9 122 := rfl
theorem i_Mo_chance_122 : opAt m_Mo_chance 122 = sBI (fun x y => x - y) 123 := rfl
theorem i_Mo_chance_123 : opAt m_Mo_chance 123 = sIld 8 125 := rfl
theorem i_Mo_chance_125 : opAt m_Mo_chance 125 = sIld 9 127 := rfl
theorem i_Mo_chance_127 : opAt m_Mo_chance 127 = sBI (fun x y => x - y) 128 := rfl
theorem i_Mo_chance_128 : opAt m_Mo_chance 128 = sVir [(11, m_Mo_waysOf)] 0 2 131 := rfl
theorem i_Mo_chance_131 : opAt m_Mo_chance 131 = sLst 10 133 := rfl
theorem i_Mo_chance_133 : opAt m_Mo_chance 133 = sAld 0 134 := rfl
theorem i_Mo_chance_134 : opAt m_Mo_chance 134 = sIld 7 136 := rfl
theorem i_Mo_chance_136 : opAt m_Mo_chance 136 = sIld 8 138 := rfl
theorem i_Mo_chance_138 : opAt m_Mo_chance 138 = sVir [(11, m_Mo_waysOf)] 0 2 141 := rfl
theorem i_Mo_chance_141 : opAt m_Mo_chance 141 = sLst 12 143 := rfl
theorem i_Mo_chance_143 : opAt m_Mo_chance 143 = sLld 10 145 := rfl
theorem i_Mo_chance_145 : opAt m_Mo_chance 145 = sLld 12 147 := rfl
theorem i_Mo_chance_147 : opAt m_Mo_chance 147 = sSta m_Mo_common 0 2 150 := rfl
theorem i_Mo_chance_150 : opAt m_Mo_chance 150 = sLst 14 152 := rfl
theorem i_Mo_chance_152 : opAt m_Mo_chance 152 = sIld 6 154 := rfl
theorem i_Mo_chance_154 : opAt m_Mo_chance 154 = sIf .ne 165 157 := rfl
theorem i_Mo_chance_157 : opAt m_Mo_chance 157 = sLld 10 159 := rfl
theorem i_Mo_chance_159 : opAt m_Mo_chance 159 = sLld 14 161 := rfl
theorem i_Mo_chance_161 : opAt m_Mo_chance 161 = sDL (fun x y => x / y) 162 := rfl
theorem i_Mo_chance_162 : opAt m_Mo_chance 162 = sGo 170 := rfl
theorem i_Mo_chance_165 : opAt m_Mo_chance 165 = sLld 12 167 := rfl
theorem i_Mo_chance_167 : opAt m_Mo_chance 167 = sLld 14 169 := rfl
theorem i_Mo_chance_169 : opAt m_Mo_chance 169 = sDL (fun x y => x / y) 170 := rfl
theorem i_Mo_chance_170 : opAt m_Mo_chance 170 = sLret := rfl
theorem i_Mo_waysOf_0 : opAt m_Mo_waysOf 0 = sPush (.int (Int32.ofInt 0)) 1 := rfl
theorem i_Mo_waysOf_1 : opAt m_Mo_waysOf 1 = sIst 3 2 := rfl
theorem i_Mo_waysOf_2 : opAt m_Mo_waysOf 2 = sIld 3 3 := rfl
theorem i_Mo_waysOf_3 : opAt m_Mo_waysOf 3 = sPush (.int (Int8.ofInt 49).toInt32) 5 := rfl
theorem i_Mo_waysOf_5 : opAt m_Mo_waysOf 5 = sCm .ge 29 8 := rfl
theorem i_Mo_waysOf_8 : opAt m_Mo_waysOf 8 = sAld 0 9 := rfl
theorem i_Mo_waysOf_9 : opAt m_Mo_waysOf 9 = sGet [(11, 17)] 12 := rfl
theorem i_Mo_waysOf_12 : opAt m_Mo_waysOf 12 = sIld 3 13 := rfl
theorem i_Mo_waysOf_13 : opAt m_Mo_waysOf 13 = sIld 3 14 := rfl
theorem i_Mo_waysOf_14 : opAt m_Mo_waysOf 14 = sIf .ne 21 17 := rfl
theorem i_Mo_waysOf_17 : opAt m_Mo_waysOf 17 = sPush (.long (Int64.ofNat ((1 : Fin 2) : Nat))) 18 := rfl
theorem i_Mo_waysOf_18 : opAt m_Mo_waysOf 18 = sGo 22 := rfl
theorem i_Mo_waysOf_21 : opAt m_Mo_waysOf 21 = sPush (.long (Int64.ofNat ((0 : Fin 2) : Nat))) 22 := rfl
theorem i_Mo_waysOf_22 : opAt m_Mo_waysOf 22 = sLas 23 := rfl
theorem i_Mo_waysOf_23 : opAt m_Mo_waysOf 23 = sInc 3 1 26 := rfl
theorem i_Mo_waysOf_26 : opAt m_Mo_waysOf 26 = sGo 2 := rfl
theorem i_Mo_waysOf_29 : opAt m_Mo_waysOf 29 = sPush (.int (Int32.ofInt 1)) 30 := rfl
theorem i_Mo_waysOf_30 : opAt m_Mo_waysOf 30 = sIst 3 31 := rfl
theorem i_Mo_waysOf_31 : opAt m_Mo_waysOf 31 = sIld 3 32 := rfl
theorem i_Mo_waysOf_32 : opAt m_Mo_waysOf 32 = sIld 1 33 := rfl
theorem i_Mo_waysOf_33 : opAt m_Mo_waysOf 33 = sCm .gt 75 36 := rfl
theorem i_Mo_waysOf_36 : opAt m_Mo_waysOf 36 = sIld 3 37 := rfl
theorem i_Mo_waysOf_37 : opAt m_Mo_waysOf 37 = sIst 4 39 := rfl
theorem i_Mo_waysOf_39 : opAt m_Mo_waysOf 39 = sIld 4 41 := rfl
theorem i_Mo_waysOf_41 : opAt m_Mo_waysOf 41 = sIf .le 69 44 := rfl
theorem i_Mo_waysOf_44 : opAt m_Mo_waysOf 44 = sAld 0 45 := rfl
theorem i_Mo_waysOf_45 : opAt m_Mo_waysOf 45 = sGet [(11, 17)] 48 := rfl
theorem i_Mo_waysOf_48 : opAt m_Mo_waysOf 48 = sIld 4 50 := rfl
theorem i_Mo_waysOf_50 : opAt m_Mo_waysOf 50 = sDup2 51 := rfl
theorem i_Mo_waysOf_51 : opAt m_Mo_waysOf 51 = sLal 52 := rfl
theorem i_Mo_waysOf_52 : opAt m_Mo_waysOf 52 = sAld 0 53 := rfl
theorem i_Mo_waysOf_53 : opAt m_Mo_waysOf 53 = sGet [(11, 17)] 56 := rfl
theorem i_Mo_waysOf_56 : opAt m_Mo_waysOf 56 = sIld 4 58 := rfl
theorem i_Mo_waysOf_58 : opAt m_Mo_waysOf 58 = sPush (.int (Int32.ofInt 1)) 59 := rfl
theorem i_Mo_waysOf_59 : opAt m_Mo_waysOf 59 = sBI (fun x y => x - y) 60 := rfl
theorem i_Mo_waysOf_60 : opAt m_Mo_waysOf 60 = sLal 61 := rfl
theorem i_Mo_waysOf_61 : opAt m_Mo_waysOf 61 = sBL (fun x y => x + y) 62 := rfl
theorem i_Mo_waysOf_62 : opAt m_Mo_waysOf 62 = sLas 63 := rfl
theorem i_Mo_waysOf_63 : opAt m_Mo_waysOf 63 = sInc 4 (-1) 66 := rfl
theorem i_Mo_waysOf_66 : opAt m_Mo_waysOf 66 = sGo 39 := rfl
theorem i_Mo_waysOf_69 : opAt m_Mo_waysOf 69 = sInc 3 1 72 := rfl
theorem i_Mo_waysOf_72 : opAt m_Mo_waysOf 72 = sGo 31 := rfl
theorem i_Mo_waysOf_75 : opAt m_Mo_waysOf 75 = sIld 2 76 := rfl
theorem i_Mo_waysOf_76 : opAt m_Mo_waysOf 76 = sIf .ge 83 79 := rfl
theorem i_Mo_waysOf_79 : opAt m_Mo_waysOf 79 = sPush (.long (Int64.ofNat ((0 : Fin 2) : Nat))) 80 := rfl
theorem i_Mo_waysOf_80 : opAt m_Mo_waysOf 80 = sGo 89 := rfl
theorem i_Mo_waysOf_83 : opAt m_Mo_waysOf 83 = sAld 0 84 := rfl
theorem i_Mo_waysOf_84 : opAt m_Mo_waysOf 84 = sGet [(11, 17)] 87 := rfl
theorem i_Mo_waysOf_87 : opAt m_Mo_waysOf 87 = sIld 2 88 := rfl
theorem i_Mo_waysOf_88 : opAt m_Mo_waysOf 88 = sLal 89 := rfl
theorem i_Mo_waysOf_89 : opAt m_Mo_waysOf 89 = sLret := rfl
theorem i_Mo_common_0 : opAt m_Mo_common 0 = sLld 0 1 := rfl
theorem i_Mo_common_1 : opAt m_Mo_common 1 = sLst 4 3 := rfl
theorem i_Mo_common_3 : opAt m_Mo_common 3 = sLld 2 4 := rfl
theorem i_Mo_common_4 : opAt m_Mo_common 4 = sLst 6 6 := rfl
theorem i_Mo_common_6 : opAt m_Mo_common 6 = sLld 4 8 := rfl
theorem i_Mo_common_8 : opAt m_Mo_common 8 = sPush (.long (Int64.ofNat ((0 : Fin 2) : Nat))) 9 := rfl
theorem i_Mo_common_9 : opAt m_Mo_common 9 = sCmp 10 := rfl
theorem i_Mo_common_10 : opAt m_Mo_common 10 = sIf .eq 31 13 := rfl
theorem i_Mo_common_13 : opAt m_Mo_common 13 = sLld 6 15 := rfl
theorem i_Mo_common_15 : opAt m_Mo_common 15 = sLld 4 17 := rfl
theorem i_Mo_common_17 : opAt m_Mo_common 17 = sDL (fun x y => x - x / y * y) 18 := rfl
theorem i_Mo_common_18 : opAt m_Mo_common 18 = sLst 8 20 := rfl
theorem i_Mo_common_20 : opAt m_Mo_common 20 = sLld 4 22 := rfl
theorem i_Mo_common_22 : opAt m_Mo_common 22 = sLst 6 24 := rfl
theorem i_Mo_common_24 : opAt m_Mo_common 24 = sLld 8 26 := rfl
theorem i_Mo_common_26 : opAt m_Mo_common 26 = sLst 4 28 := rfl
theorem i_Mo_common_28 : opAt m_Mo_common 28 = sGo 6 := rfl
theorem i_Mo_common_31 : opAt m_Mo_common 31 = sLld 6 33 := rfl
theorem i_Mo_common_33 : opAt m_Mo_common 33 = sLret := rfl
theorem i_Mo_whose_0 : opAt m_Mo_whose 0 = sAld 0 1 := rfl
theorem i_Mo_whose_1 : opAt m_Mo_whose 1 = sIld 1 2 := rfl
theorem i_Mo_whose_2 : opAt m_Mo_whose 2 = sVir [(11, m_Mo_isPrint)] 0 1 5 := rfl
theorem i_Mo_whose_5 : opAt m_Mo_whose 5 = sIf .eq 16 8 := rfl
theorem i_Mo_whose_8 : opAt m_Mo_whose 8 = sAld 0 9 := rfl
theorem i_Mo_whose_9 : opAt m_Mo_whose 9 = sIld 1 10 := rfl
theorem i_Mo_whose_10 : opAt m_Mo_whose 10 = sVir [(11, m_Mo_whoseOf)] 0 1 13 := rfl
theorem i_Mo_whose_13 : opAt m_Mo_whose 13 = sGo 18 := rfl
theorem i_Mo_whose_16 : opAt m_Mo_whose 16 = sPush (.int (Int8.ofInt (-101)).toInt32) 18 := rfl
theorem i_Mo_whose_18 : opAt m_Mo_whose 18 = sIret .int := rfl
theorem i_Mo_whoseOf_0 : opAt m_Mo_whoseOf 0 = sPush (.int (Int32.ofInt 0)) 1 := rfl
theorem i_Mo_whoseOf_1 : opAt m_Mo_whoseOf 1 = sIst 2 2 := rfl
theorem i_Mo_whoseOf_2 : opAt m_Mo_whoseOf 2 = sPush (.int (Int32.ofInt 0)) 3 := rfl
theorem i_Mo_whoseOf_3 : opAt m_Mo_whoseOf 3 = sIst 3 4 := rfl
theorem i_Mo_whoseOf_4 : opAt m_Mo_whoseOf 4 = sIld 3 5 := rfl
theorem i_Mo_whoseOf_5 : opAt m_Mo_whoseOf 5 = sAld 0 6 := rfl
theorem i_Mo_whoseOf_6 : opAt m_Mo_whoseOf 6 = sGet [(11, 9)] 9 := rfl
theorem i_Mo_whoseOf_9 : opAt m_Mo_whoseOf 9 = sCm .ge 131 12 := rfl
theorem i_Mo_whoseOf_12 : opAt m_Mo_whoseOf 12 = sPush (.int (Int32.ofInt 1)) 13 := rfl
theorem i_Mo_whoseOf_13 : opAt m_Mo_whoseOf 13 = sIst 4 15 := rfl
theorem i_Mo_whoseOf_15 : opAt m_Mo_whoseOf 15 = sPush (.int (Int32.ofInt 0)) 16 := rfl
theorem i_Mo_whoseOf_16 : opAt m_Mo_whoseOf 16 = sIst 5 18 := rfl
theorem i_Mo_whoseOf_18 : opAt m_Mo_whoseOf 18 = sIld 5 20 := rfl
theorem i_Mo_whoseOf_20 : opAt m_Mo_whoseOf 20 = sAld 0 21 := rfl
theorem i_Mo_whoseOf_21 : opAt m_Mo_whoseOf 21 = sGet [(11, 10)] 24 := rfl
theorem i_Mo_whoseOf_24 : opAt m_Mo_whoseOf 24 = sIld 3 25 := rfl
theorem i_Mo_whoseOf_25 : opAt m_Mo_whoseOf 25 = sIal 26 := rfl
theorem i_Mo_whoseOf_26 : opAt m_Mo_whoseOf 26 = sCm .ge 110 29 := rfl
theorem i_Mo_whoseOf_29 : opAt m_Mo_whoseOf 29 = sAld 0 30 := rfl
theorem i_Mo_whoseOf_30 : opAt m_Mo_whoseOf 30 = sGet [(11, 11)] 33 := rfl
theorem i_Mo_whoseOf_33 : opAt m_Mo_whoseOf 33 = sPush (.int (Int8.ofInt 16).toInt32) 35 := rfl
theorem i_Mo_whoseOf_35 : opAt m_Mo_whoseOf 35 = sIld 3 36 := rfl
theorem i_Mo_whoseOf_36 : opAt m_Mo_whoseOf 36 = sBI (fun x y => x * y) 37 := rfl
theorem i_Mo_whoseOf_37 : opAt m_Mo_whoseOf 37 = sPush (.int (Int32.ofInt 4)) 38 := rfl
theorem i_Mo_whoseOf_38 : opAt m_Mo_whoseOf 38 = sIld 5 40 := rfl
theorem i_Mo_whoseOf_40 : opAt m_Mo_whoseOf 40 = sBI (fun x y => x * y) 41 := rfl
theorem i_Mo_whoseOf_41 : opAt m_Mo_whoseOf 41 = sBI (fun x y => x + y) 42 := rfl
theorem i_Mo_whoseOf_42 : opAt m_Mo_whoseOf 42 = sPush (.int (Int32.ofInt 1)) 43 := rfl
theorem i_Mo_whoseOf_43 : opAt m_Mo_whoseOf 43 = sBI (fun x y => x + y) 44 := rfl
theorem i_Mo_whoseOf_44 : opAt m_Mo_whoseOf 44 = sIal 45 := rfl
theorem i_Mo_whoseOf_45 : opAt m_Mo_whoseOf 45 = sIst 6 47 := rfl
theorem i_Mo_whoseOf_47 : opAt m_Mo_whoseOf 47 = sPush (.int (Int32.ofInt 0)) 48 := rfl
theorem i_Mo_whoseOf_48 : opAt m_Mo_whoseOf 48 = sIst 7 50 := rfl
theorem i_Mo_whoseOf_50 : opAt m_Mo_whoseOf 50 = sIld 7 52 := rfl
theorem i_Mo_whoseOf_52 : opAt m_Mo_whoseOf 52 = sAld 0 53 := rfl
theorem i_Mo_whoseOf_53 : opAt m_Mo_whoseOf 53 = sGet [(11, 13)] 56 := rfl
theorem i_Mo_whoseOf_56 : opAt m_Mo_whoseOf 56 = sIld 1 57 := rfl
theorem i_Mo_whoseOf_57 : opAt m_Mo_whoseOf 57 = sIal 58 := rfl
theorem i_Mo_whoseOf_58 : opAt m_Mo_whoseOf 58 = sCm .ge 104 61 := rfl
theorem i_Mo_whoseOf_61 : opAt m_Mo_whoseOf 61 = sIld 4 63 := rfl
theorem i_Mo_whoseOf_63 : opAt m_Mo_whoseOf 63 = sIf .eq 95 66 := rfl
theorem i_Mo_whoseOf_66 : opAt m_Mo_whoseOf 66 = sAld 0 67 := rfl
theorem i_Mo_whoseOf_67 : opAt m_Mo_whoseOf 67 = sIld 3 68 := rfl
theorem i_Mo_whoseOf_68 : opAt m_Mo_whoseOf 68 = sIld 5 70 := rfl
theorem i_Mo_whoseOf_70 : opAt m_Mo_whoseOf 70 = sIld 7 72 := rfl
theorem i_Mo_whoseOf_72 : opAt m_Mo_whoseOf 72 = sVir [(11, m_Mo_marks)] 0 3 75 := rfl
theorem i_Mo_whoseOf_75 : opAt m_Mo_whoseOf 75 = sIf .eq 91 78 := rfl
theorem i_Mo_whoseOf_78 : opAt m_Mo_whoseOf 78 = sAld 0 79 := rfl
theorem i_Mo_whoseOf_79 : opAt m_Mo_whoseOf 79 = sIld 1 80 := rfl
theorem i_Mo_whoseOf_80 : opAt m_Mo_whoseOf 80 = sIld 7 82 := rfl
theorem i_Mo_whoseOf_82 : opAt m_Mo_whoseOf 82 = sIld 6 84 := rfl
theorem i_Mo_whoseOf_84 : opAt m_Mo_whoseOf 84 = sPush (.int (Int32.ofInt 0)) 85 := rfl
theorem i_Mo_whoseOf_85 : opAt m_Mo_whoseOf 85 = sVir [(11, m_Mo_has)] 0 4 88 := rfl
theorem i_Mo_whoseOf_88 : opAt m_Mo_whoseOf 88 = sIf .eq 95 91 := rfl
theorem i_Mo_whoseOf_91 : opAt m_Mo_whoseOf 91 = sPush (.int (Int32.ofInt 1)) 92 := rfl
theorem i_Mo_whoseOf_92 : opAt m_Mo_whoseOf 92 = sGo 96 := rfl
theorem i_Mo_whoseOf_95 : opAt m_Mo_whoseOf 95 = sPush (.int (Int32.ofInt 0)) 96 := rfl
theorem i_Mo_whoseOf_96 : opAt m_Mo_whoseOf 96 = sIst 4 98 := rfl
theorem i_Mo_whoseOf_98 : opAt m_Mo_whoseOf 98 = sInc 7 1 101 := rfl
theorem i_Mo_whoseOf_101 : opAt m_Mo_whoseOf 101 = sGo 50 := rfl
theorem i_Mo_whoseOf_104 : opAt m_Mo_whoseOf 104 = sInc 5 1 107 := rfl
theorem i_Mo_whoseOf_107 : opAt m_Mo_whoseOf 107 = sGo 18 := rfl
theorem i_Mo_whoseOf_110 : opAt m_Mo_whoseOf 110 = sIld 2 111 := rfl
theorem i_Mo_whoseOf_111 : opAt m_Mo_whoseOf 111 = sIld 4 113 := rfl
theorem i_Mo_whoseOf_113 : opAt m_Mo_whoseOf 113 = sIf .eq 122 116 := rfl
theorem i_Mo_whoseOf_116 : opAt m_Mo_whoseOf 116 = sPush (.int (Int32.ofInt 1)) 117 := rfl
theorem i_Mo_whoseOf_117 : opAt m_Mo_whoseOf 117 = sIld 3 118 := rfl
theorem i_Mo_whoseOf_118 : opAt m_Mo_whoseOf 118 = sBI (fun x y => x <<< (y &&& 31)) 119 := rfl
theorem i_Mo_whoseOf_119 : opAt m_Mo_whoseOf 119 = sGo 123 := rfl
theorem i_Mo_whoseOf_122 : opAt m_Mo_whoseOf 122 = sPush (.int (Int32.ofInt 0)) 123 := rfl
theorem i_Mo_whoseOf_123 : opAt m_Mo_whoseOf 123 = sBI (fun x y => x ||| y) 124 := rfl
theorem i_Mo_whoseOf_124 : opAt m_Mo_whoseOf 124 = sIst 2 125 := rfl
theorem i_Mo_whoseOf_125 : opAt m_Mo_whoseOf 125 = sInc 3 1 128 := rfl
theorem i_Mo_whoseOf_128 : opAt m_Mo_whoseOf 128 = sGo 4 := rfl
theorem i_Mo_whoseOf_131 : opAt m_Mo_whoseOf 131 = sIld 2 132 := rfl
theorem i_Mo_whoseOf_132 : opAt m_Mo_whoseOf 132 = sIret .int := rfl
theorem i_Mo_wound_0 : opAt m_Mo_wound 0 = sAld 0 1 := rfl
theorem i_Mo_wound_1 : opAt m_Mo_wound 1 = sIld 1 2 := rfl
theorem i_Mo_wound_2 : opAt m_Mo_wound 2 = sVir [(11, m_Mo_isPrint)] 0 1 5 := rfl
theorem i_Mo_wound_5 : opAt m_Mo_wound 5 = sIf .ne 11 8 := rfl
theorem i_Mo_wound_8 : opAt m_Mo_wound 8 = sPush (.int (Int8.ofInt (-101)).toInt32) 10 := rfl
theorem i_Mo_wound_10 : opAt m_Mo_wound 10 = sIret .int := rfl
theorem i_Mo_wound_11 : opAt m_Mo_wound 11 = sIld 2 12 := rfl
theorem i_Mo_wound_12 : opAt m_Mo_wound 12 = sIld 3 13 := rfl
theorem i_Mo_wound_13 : opAt m_Mo_wound 13 = sSta m_Mo_isLook 0 2 16 := rfl
theorem i_Mo_wound_16 : opAt m_Mo_wound 16 = sIf .eq 32 19 := rfl
theorem i_Mo_wound_19 : opAt m_Mo_wound 19 = sIld 5 21 := rfl
theorem i_Mo_wound_21 : opAt m_Mo_wound 21 = sIL 22 := rfl
theorem i_Mo_wound_22 : opAt m_Mo_wound 22 = sPush (.long (Int64.ofNat ((0 : Fin 2) : Nat))) 23 := rfl
theorem i_Mo_wound_23 : opAt m_Mo_wound 23 = sPush (.long (2)) 26 := rfl
theorem i_Mo_wound_26 : opAt m_Mo_wound 26 = sSta m_Mo_in 0 3 29 := rfl
theorem i_Mo_wound_29 : opAt m_Mo_wound 29 = sIf .ne 35 32 := rfl
theorem i_Mo_wound_32 : opAt m_Mo_wound 32 = sPush (.int (Int8.ofInt (-102)).toInt32) 34 := rfl
theorem i_Mo_wound_34 : opAt m_Mo_wound 34 = sIret .int := rfl
theorem i_Mo_wound_35 : opAt m_Mo_wound 35 = sPush (.int (Int32.ofInt 0)) 36 := rfl
theorem i_Mo_wound_36 : opAt m_Mo_wound 36 = sIst 6 38 := rfl
theorem i_Mo_wound_38 : opAt m_Mo_wound 38 = sPush (.int (Int32.ofInt (-1))) 39 := rfl
theorem i_Mo_wound_39 : opAt m_Mo_wound 39 = sIst 7 41 := rfl
theorem i_Mo_wound_41 : opAt m_Mo_wound 41 = sPush (.int (Int8.ofInt 10).toInt32) 43 := rfl
theorem i_Mo_wound_43 : opAt m_Mo_wound 43 = sIst 8 45 := rfl
theorem i_Mo_wound_45 : opAt m_Mo_wound 45 = sIld 8 47 := rfl
theorem i_Mo_wound_47 : opAt m_Mo_wound 47 = sPush (.int (Int16.ofInt 200).toInt32) 50 := rfl
theorem i_Mo_wound_50 : opAt m_Mo_wound 50 = sCm .ge 99 53 := rfl
theorem i_Mo_wound_53 : opAt m_Mo_wound 53 = sAld 0 54 := rfl
theorem i_Mo_wound_54 : opAt m_Mo_wound 54 = sIld 1 55 := rfl
theorem i_Mo_wound_55 : opAt m_Mo_wound 55 = sIld 2 56 := rfl
theorem i_Mo_wound_56 : opAt m_Mo_wound 56 = sIld 3 57 := rfl
theorem i_Mo_wound_57 : opAt m_Mo_wound 57 = sIld 4 59 := rfl
theorem i_Mo_wound_59 : opAt m_Mo_wound 59 = sIld 8 61 := rfl
theorem i_Mo_wound_61 : opAt m_Mo_wound 61 = sPush (.int (Int8.ofInt 10).toInt32) 63 := rfl
theorem i_Mo_wound_63 : opAt m_Mo_wound 63 = sDI (fun x y => x / y) 64 := rfl
theorem i_Mo_wound_64 : opAt m_Mo_wound 64 = sIld 8 66 := rfl
theorem i_Mo_wound_66 : opAt m_Mo_wound 66 = sPush (.int (Int8.ofInt 10).toInt32) 68 := rfl
theorem i_Mo_wound_68 : opAt m_Mo_wound 68 = sDI (fun x y => x - x / y * y) 69 := rfl
theorem i_Mo_wound_69 : opAt m_Mo_wound 69 = sVir [(11, m_Mo_isWoundSo)] 0 6 72 := rfl
theorem i_Mo_wound_72 : opAt m_Mo_wound 72 = sIf .eq 93 75 := rfl
theorem i_Mo_wound_75 : opAt m_Mo_wound 75 = sInc 6 1 78 := rfl
theorem i_Mo_wound_78 : opAt m_Mo_wound 78 = sIld 7 80 := rfl
theorem i_Mo_wound_80 : opAt m_Mo_wound 80 = sPush (.int (Int32.ofInt (-1))) 81 := rfl
theorem i_Mo_wound_81 : opAt m_Mo_wound 81 = sCm .ne 89 84 := rfl
theorem i_Mo_wound_84 : opAt m_Mo_wound 84 = sIld 8 86 := rfl
theorem i_Mo_wound_86 : opAt m_Mo_wound 86 = sGo 91 := rfl
theorem i_Mo_wound_89 : opAt m_Mo_wound 89 = sIld 7 91 := rfl
theorem i_Mo_wound_91 : opAt m_Mo_wound 91 = sIst 7 93 := rfl
theorem i_Mo_wound_93 : opAt m_Mo_wound 93 = sInc 8 1 96 := rfl
theorem i_Mo_wound_96 : opAt m_Mo_wound 96 = sGo 45 := rfl
theorem i_Mo_wound_99 : opAt m_Mo_wound 99 = sIld 5 101 := rfl
theorem i_Mo_wound_101 : opAt m_Mo_wound 101 = sIf .ne 109 104 := rfl
theorem i_Mo_wound_104 : opAt m_Mo_wound 104 = sIld 6 106 := rfl
theorem i_Mo_wound_106 : opAt m_Mo_wound 106 = sGo 138 := rfl
theorem i_Mo_wound_109 : opAt m_Mo_wound 109 = sIld 7 111 := rfl
theorem i_Mo_wound_111 : opAt m_Mo_wound 111 = sPush (.int (Int32.ofInt (-1))) 112 := rfl
theorem i_Mo_wound_112 : opAt m_Mo_wound 112 = sCm .ne 119 115 := rfl
theorem i_Mo_wound_115 : opAt m_Mo_wound 115 = sPush (.int (Int32.ofInt (-1))) 116 := rfl
theorem i_Mo_wound_116 : opAt m_Mo_wound 116 = sGo 138 := rfl
theorem i_Mo_wound_119 : opAt m_Mo_wound 119 = sIld 5 121 := rfl
theorem i_Mo_wound_121 : opAt m_Mo_wound 121 = sPush (.int (Int32.ofInt 1)) 122 := rfl
theorem i_Mo_wound_122 : opAt m_Mo_wound 122 = sCm .ne 133 125 := rfl
theorem i_Mo_wound_125 : opAt m_Mo_wound 125 = sIld 7 127 := rfl
theorem i_Mo_wound_127 : opAt m_Mo_wound 127 = sPush (.int (Int8.ofInt 10).toInt32) 129 := rfl
theorem i_Mo_wound_129 : opAt m_Mo_wound 129 = sDI (fun x y => x / y) 130 := rfl
theorem i_Mo_wound_130 : opAt m_Mo_wound 130 = sGo 138 := rfl
theorem i_Mo_wound_133 : opAt m_Mo_wound 133 = sIld 7 135 := rfl
theorem i_Mo_wound_135 : opAt m_Mo_wound 135 = sPush (.int (Int8.ofInt 10).toInt32) 137 := rfl
theorem i_Mo_wound_137 : opAt m_Mo_wound 137 = sDI (fun x y => x - x / y * y) 138 := rfl
theorem i_Mo_wound_138 : opAt m_Mo_wound 138 = sIret .int := rfl
theorem i_Mo_isWoundSo_0 : opAt m_Mo_isWoundSo 0 = sPush (.int (Int32.ofInt 0)) 1 := rfl
theorem i_Mo_isWoundSo_1 : opAt m_Mo_isWoundSo 1 = sIst 7 3 := rfl
theorem i_Mo_isWoundSo_3 : opAt m_Mo_isWoundSo 3 = sPush (.int (Int32.ofInt 1)) 4 := rfl
theorem i_Mo_isWoundSo_4 : opAt m_Mo_isWoundSo 4 = sIst 8 6 := rfl
theorem i_Mo_isWoundSo_6 : opAt m_Mo_isWoundSo 6 = sIld 5 8 := rfl
theorem i_Mo_isWoundSo_8 : opAt m_Mo_isWoundSo 8 = sIst 9 10 := rfl
theorem i_Mo_isWoundSo_10 : opAt m_Mo_isWoundSo 10 = sIld 5 12 := rfl
theorem i_Mo_isWoundSo_12 : opAt m_Mo_isWoundSo 12 = sIst 10 14 := rfl
theorem i_Mo_isWoundSo_14 : opAt m_Mo_isWoundSo 14 = sIld 9 16 := rfl
theorem i_Mo_isWoundSo_16 : opAt m_Mo_isWoundSo 16 = sAld 0 17 := rfl
theorem i_Mo_isWoundSo_17 : opAt m_Mo_isWoundSo 17 = sGet [(11, 13)] 20 := rfl
theorem i_Mo_isWoundSo_20 : opAt m_Mo_isWoundSo 20 = sIld 1 21 := rfl
theorem i_Mo_isWoundSo_21 : opAt m_Mo_isWoundSo 21 = sIal 22 := rfl
theorem i_Mo_isWoundSo_22 : opAt m_Mo_isWoundSo 22 = sCm .ge 88 25 := rfl
theorem i_Mo_isWoundSo_25 : opAt m_Mo_isWoundSo 25 = sInc 7 1 28 := rfl
theorem i_Mo_isWoundSo_28 : opAt m_Mo_isWoundSo 28 = sIld 8 30 := rfl
theorem i_Mo_isWoundSo_30 : opAt m_Mo_isWoundSo 30 = sIf .eq 68 33 := rfl
theorem i_Mo_isWoundSo_33 : opAt m_Mo_isWoundSo 33 = sAld 0 34 := rfl
theorem i_Mo_isWoundSo_34 : opAt m_Mo_isWoundSo 34 = sIld 1 35 := rfl
theorem i_Mo_isWoundSo_35 : opAt m_Mo_isWoundSo 35 = sIld 4 37 := rfl
theorem i_Mo_isWoundSo_37 : opAt m_Mo_isWoundSo 37 = sIf .eq 54 40 := rfl
theorem i_Mo_isWoundSo_40 : opAt m_Mo_isWoundSo 40 = sAld 0 41 := rfl
theorem i_Mo_isWoundSo_41 : opAt m_Mo_isWoundSo 41 = sGet [(11, 13)] 44 := rfl
theorem i_Mo_isWoundSo_44 : opAt m_Mo_isWoundSo 44 = sIld 1 45 := rfl
theorem i_Mo_isWoundSo_45 : opAt m_Mo_isWoundSo 45 = sIal 46 := rfl
theorem i_Mo_isWoundSo_46 : opAt m_Mo_isWoundSo 46 = sPush (.int (Int32.ofInt 1)) 47 := rfl
theorem i_Mo_isWoundSo_47 : opAt m_Mo_isWoundSo 47 = sBI (fun x y => x - y) 48 := rfl
theorem i_Mo_isWoundSo_48 : opAt m_Mo_isWoundSo 48 = sIld 9 50 := rfl
theorem i_Mo_isWoundSo_50 : opAt m_Mo_isWoundSo 50 = sBI (fun x y => x - y) 51 := rfl
theorem i_Mo_isWoundSo_51 : opAt m_Mo_isWoundSo 51 = sGo 56 := rfl
theorem i_Mo_isWoundSo_54 : opAt m_Mo_isWoundSo 54 = sIld 9 56 := rfl
theorem i_Mo_isWoundSo_56 : opAt m_Mo_isWoundSo 56 = sIld 2 57 := rfl
theorem i_Mo_isWoundSo_57 : opAt m_Mo_isWoundSo 57 = sIld 3 58 := rfl
theorem i_Mo_isWoundSo_58 : opAt m_Mo_isWoundSo 58 = sVir [(11, m_Mo_has)] 0 4 61 := rfl
theorem i_Mo_isWoundSo_61 : opAt m_Mo_isWoundSo 61 = sIf .eq 68 64 := rfl
theorem i_Mo_isWoundSo_64 : opAt m_Mo_isWoundSo 64 = sPush (.int (Int32.ofInt 1)) 65 := rfl
theorem i_Mo_isWoundSo_65 : opAt m_Mo_isWoundSo 65 = sGo 69 := rfl
theorem i_Mo_isWoundSo_68 : opAt m_Mo_isWoundSo 68 = sPush (.int (Int32.ofInt 0)) 69 := rfl
theorem i_Mo_isWoundSo_69 : opAt m_Mo_isWoundSo 69 = sIst 8 71 := rfl
theorem i_Mo_isWoundSo_71 : opAt m_Mo_isWoundSo 71 = sIld 10 73 := rfl
theorem i_Mo_isWoundSo_73 : opAt m_Mo_isWoundSo 73 = sIld 6 75 := rfl
theorem i_Mo_isWoundSo_75 : opAt m_Mo_isWoundSo 75 = sBI (fun x y => x + y) 76 := rfl
theorem i_Mo_isWoundSo_76 : opAt m_Mo_isWoundSo 76 = sIst 10 78 := rfl
theorem i_Mo_isWoundSo_78 : opAt m_Mo_isWoundSo 78 = sIld 9 80 := rfl
theorem i_Mo_isWoundSo_80 : opAt m_Mo_isWoundSo 80 = sIld 10 82 := rfl
theorem i_Mo_isWoundSo_82 : opAt m_Mo_isWoundSo 82 = sBI (fun x y => x + y) 83 := rfl
theorem i_Mo_isWoundSo_83 : opAt m_Mo_isWoundSo 83 = sIst 9 85 := rfl
theorem i_Mo_isWoundSo_85 : opAt m_Mo_isWoundSo 85 = sGo 14 := rfl
theorem i_Mo_isWoundSo_88 : opAt m_Mo_isWoundSo 88 = sIld 8 90 := rfl
theorem i_Mo_isWoundSo_90 : opAt m_Mo_isWoundSo 90 = sIf .eq 103 93 := rfl
theorem i_Mo_isWoundSo_93 : opAt m_Mo_isWoundSo 93 = sIld 7 95 := rfl
theorem i_Mo_isWoundSo_95 : opAt m_Mo_isWoundSo 95 = sPush (.int (Int32.ofInt 2)) 96 := rfl
theorem i_Mo_isWoundSo_96 : opAt m_Mo_isWoundSo 96 = sCm .le 103 99 := rfl
theorem i_Mo_isWoundSo_99 : opAt m_Mo_isWoundSo 99 = sPush (.int (Int32.ofInt 1)) 100 := rfl
theorem i_Mo_isWoundSo_100 : opAt m_Mo_isWoundSo 100 = sGo 104 := rfl
theorem i_Mo_isWoundSo_103 : opAt m_Mo_isWoundSo 103 = sPush (.int (Int32.ofInt 0)) 104 := rfl
theorem i_Mo_isWoundSo_104 : opAt m_Mo_isWoundSo 104 = sIret .boolean := rfl
theorem i_Mo_trace_0 : opAt m_Mo_trace 0 = sIld 1 1 := rfl
theorem i_Mo_trace_1 : opAt m_Mo_trace 1 = sSta m_Mo_isSide 0 1 4 := rfl
theorem i_Mo_trace_4 : opAt m_Mo_trace 4 = sIf .eq 21 7 := rfl
theorem i_Mo_trace_7 : opAt m_Mo_trace 7 = sIld 2 8 := rfl
theorem i_Mo_trace_8 : opAt m_Mo_trace 8 = sIL 9 := rfl
theorem i_Mo_trace_9 : opAt m_Mo_trace 9 = sPush (.long (2)) 12 := rfl
theorem i_Mo_trace_12 : opAt m_Mo_trace 12 = sPush (.long (19)) 15 := rfl
theorem i_Mo_trace_15 : opAt m_Mo_trace 15 = sSta m_Mo_in 0 3 18 := rfl
theorem i_Mo_trace_18 : opAt m_Mo_trace 18 = sIf .ne 24 21 := rfl
theorem i_Mo_trace_21 : opAt m_Mo_trace 21 = sPush (.int (Int8.ofInt (-102)).toInt32) 23 := rfl
theorem i_Mo_trace_23 : opAt m_Mo_trace 23 = sIret .int := rfl
theorem i_Mo_trace_24 : opAt m_Mo_trace 24 = sAld 0 25 := rfl
theorem i_Mo_trace_25 : opAt m_Mo_trace 25 = sGet [(11, 18)] 28 := rfl
theorem i_Mo_trace_28 : opAt m_Mo_trace 28 = sPush (.int (Int32.ofInt 4)) 29 := rfl
theorem i_Mo_trace_29 : opAt m_Mo_trace 29 = sCm .ne 35 32 := rfl
theorem i_Mo_trace_32 : opAt m_Mo_trace 32 = sPush (.int (Int8.ofInt (-104)).toInt32) 34 := rfl
theorem i_Mo_trace_34 : opAt m_Mo_trace 34 = sIret .int := rfl
theorem i_Mo_trace_35 : opAt m_Mo_trace 35 = sAld 0 36 := rfl
theorem i_Mo_trace_36 : opAt m_Mo_trace 36 = sGet [(11, 19)] 39 := rfl
theorem i_Mo_trace_39 : opAt m_Mo_trace 39 = sPush (.int (Int32.ofInt 2)) 40 := rfl
theorem i_Mo_trace_40 : opAt m_Mo_trace 40 = sAld 0 41 := rfl
theorem i_Mo_trace_41 : opAt m_Mo_trace 41 = sGet [(11, 18)] 44 := rfl
theorem i_Mo_trace_44 : opAt m_Mo_trace 44 = sBI (fun x y => x * y) 45 := rfl
theorem i_Mo_trace_45 : opAt m_Mo_trace 45 = sIld 1 46 := rfl
theorem i_Mo_trace_46 : opAt m_Mo_trace 46 = sIas 47 := rfl
theorem i_Mo_trace_47 : opAt m_Mo_trace 47 = sAld 0 48 := rfl
theorem i_Mo_trace_48 : opAt m_Mo_trace 48 = sGet [(11, 19)] 51 := rfl
theorem i_Mo_trace_51 : opAt m_Mo_trace 51 = sPush (.int (Int32.ofInt 2)) 52 := rfl
theorem i_Mo_trace_52 : opAt m_Mo_trace 52 = sAld 0 53 := rfl
theorem i_Mo_trace_53 : opAt m_Mo_trace 53 = sGet [(11, 18)] 56 := rfl
theorem i_Mo_trace_56 : opAt m_Mo_trace 56 = sBI (fun x y => x * y) 57 := rfl
theorem i_Mo_trace_57 : opAt m_Mo_trace 57 = sPush (.int (Int32.ofInt 1)) 58 := rfl
theorem i_Mo_trace_58 : opAt m_Mo_trace 58 = sBI (fun x y => x + y) 59 := rfl
theorem i_Mo_trace_59 : opAt m_Mo_trace 59 = sIld 2 60 := rfl
theorem i_Mo_trace_60 : opAt m_Mo_trace 60 = sIas 61 := rfl
theorem i_Mo_trace_61 : opAt m_Mo_trace 61 = sAld 0 62 := rfl
theorem i_Mo_trace_62 : opAt m_Mo_trace 62 = sDup 63 := rfl
theorem i_Mo_trace_63 : opAt m_Mo_trace 63 = sGet [(11, 18)] 66 := rfl
theorem i_Mo_trace_66 : opAt m_Mo_trace 66 = sPush (.int (Int32.ofInt 1)) 67 := rfl
theorem i_Mo_trace_67 : opAt m_Mo_trace 67 = sBI (fun x y => x + y) 68 := rfl
theorem i_Mo_trace_68 : opAt m_Mo_trace 68 = sPut [(11, 18)] (.int) 71 := rfl
theorem i_Mo_trace_71 : opAt m_Mo_trace 71 = sAld 0 72 := rfl
theorem i_Mo_trace_72 : opAt m_Mo_trace 72 = sGet [(11, 18)] 75 := rfl
theorem i_Mo_trace_75 : opAt m_Mo_trace 75 = sIret .int := rfl
theorem i_Mo_clear_0 : opAt m_Mo_clear 0 = sAld 0 1 := rfl
theorem i_Mo_clear_1 : opAt m_Mo_clear 1 = sGet [(11, 18)] 4 := rfl
theorem i_Mo_clear_4 : opAt m_Mo_clear 4 = sIst 1 5 := rfl
theorem i_Mo_clear_5 : opAt m_Mo_clear 5 = sAld 0 6 := rfl
theorem i_Mo_clear_6 : opAt m_Mo_clear 6 = sPush (.int (Int32.ofInt 0)) 7 := rfl
theorem i_Mo_clear_7 : opAt m_Mo_clear 7 = sPut [(11, 18)] (.int) 10 := rfl
theorem i_Mo_clear_10 : opAt m_Mo_clear 10 = sIld 1 11 := rfl
theorem i_Mo_clear_11 : opAt m_Mo_clear 11 = sIret .int := rfl
theorem i_Mo_gone_0 : opAt m_Mo_gone 0 = sAld 0 1 := rfl
theorem i_Mo_gone_1 : opAt m_Mo_gone 1 = sIld 1 2 := rfl
theorem i_Mo_gone_2 : opAt m_Mo_gone 2 = sVir [(11, m_Mo_isPrint)] 0 1 5 := rfl
theorem i_Mo_gone_5 : opAt m_Mo_gone 5 = sIf .ne 11 8 := rfl
theorem i_Mo_gone_8 : opAt m_Mo_gone 8 = sPush (.int (Int8.ofInt (-101)).toInt32) 10 := rfl
theorem i_Mo_gone_10 : opAt m_Mo_gone 10 = sIret .int := rfl
theorem i_Mo_gone_11 : opAt m_Mo_gone 11 = sAld 0 12 := rfl
theorem i_Mo_gone_12 : opAt m_Mo_gone 12 = sIld 1 13 := rfl
theorem i_Mo_gone_13 : opAt m_Mo_gone 13 = sIld 2 14 := rfl
theorem i_Mo_gone_14 : opAt m_Mo_gone 14 = sVir [(11, m_Mo_isPlace)] 0 2 17 := rfl
theorem i_Mo_gone_17 : opAt m_Mo_gone 17 = sIf .ne 23 20 := rfl
theorem i_Mo_gone_20 : opAt m_Mo_gone 20 = sPush (.int (Int8.ofInt (-102)).toInt32) 22 := rfl
theorem i_Mo_gone_22 : opAt m_Mo_gone 22 = sIret .int := rfl
theorem i_Mo_gone_23 : opAt m_Mo_gone 23 = sPush (.int (Int32.ofInt 0)) 24 := rfl
theorem i_Mo_gone_24 : opAt m_Mo_gone 24 = sIst 3 25 := rfl
theorem i_Mo_gone_25 : opAt m_Mo_gone 25 = sIld 3 26 := rfl
theorem i_Mo_gone_26 : opAt m_Mo_gone 26 = sPush (.int (Int8.ofInt 100).toInt32) 28 := rfl
theorem i_Mo_gone_28 : opAt m_Mo_gone 28 = sCm .ge 89 31 := rfl
theorem i_Mo_gone_31 : opAt m_Mo_gone 31 = sPush (.int (Int32.ofInt 1)) 32 := rfl
theorem i_Mo_gone_32 : opAt m_Mo_gone 32 = sIst 4 34 := rfl
theorem i_Mo_gone_34 : opAt m_Mo_gone 34 = sPush (.int (Int32.ofInt 0)) 35 := rfl
theorem i_Mo_gone_35 : opAt m_Mo_gone 35 = sIst 5 37 := rfl
theorem i_Mo_gone_37 : opAt m_Mo_gone 37 = sIld 5 39 := rfl
theorem i_Mo_gone_39 : opAt m_Mo_gone 39 = sAld 0 40 := rfl
theorem i_Mo_gone_40 : opAt m_Mo_gone 40 = sGet [(11, 18)] 43 := rfl
theorem i_Mo_gone_43 : opAt m_Mo_gone 43 = sCm .ge 76 46 := rfl
theorem i_Mo_gone_46 : opAt m_Mo_gone 46 = sIld 4 48 := rfl
theorem i_Mo_gone_48 : opAt m_Mo_gone 48 = sIf .eq 67 51 := rfl
theorem i_Mo_gone_51 : opAt m_Mo_gone 51 = sAld 0 52 := rfl
theorem i_Mo_gone_52 : opAt m_Mo_gone 52 = sIld 1 53 := rfl
theorem i_Mo_gone_53 : opAt m_Mo_gone 53 = sIld 2 54 := rfl
theorem i_Mo_gone_54 : opAt m_Mo_gone 54 = sIld 5 56 := rfl
theorem i_Mo_gone_56 : opAt m_Mo_gone 56 = sIld 3 57 := rfl
theorem i_Mo_gone_57 : opAt m_Mo_gone 57 = sVir [(11, m_Mo_fitsGone)] 0 4 60 := rfl
theorem i_Mo_gone_60 : opAt m_Mo_gone 60 = sIf .eq 67 63 := rfl
theorem i_Mo_gone_63 : opAt m_Mo_gone 63 = sPush (.int (Int32.ofInt 1)) 64 := rfl
theorem i_Mo_gone_64 : opAt m_Mo_gone 64 = sGo 68 := rfl
theorem i_Mo_gone_67 : opAt m_Mo_gone 67 = sPush (.int (Int32.ofInt 0)) 68 := rfl
theorem i_Mo_gone_68 : opAt m_Mo_gone 68 = sIst 4 70 := rfl
theorem i_Mo_gone_70 : opAt m_Mo_gone 70 = sInc 5 1 73 := rfl
theorem i_Mo_gone_73 : opAt m_Mo_gone 73 = sGo 37 := rfl
theorem i_Mo_gone_76 : opAt m_Mo_gone 76 = sIld 4 78 := rfl
theorem i_Mo_gone_78 : opAt m_Mo_gone 78 = sIf .eq 83 81 := rfl
theorem i_Mo_gone_81 : opAt m_Mo_gone 81 = sIld 3 82 := rfl
theorem i_Mo_gone_82 : opAt m_Mo_gone 82 = sIret .int := rfl
theorem i_Mo_gone_83 : opAt m_Mo_gone 83 = sInc 3 1 86 := rfl
theorem i_Mo_gone_86 : opAt m_Mo_gone 86 = sGo 25 := rfl
theorem i_Mo_gone_89 : opAt m_Mo_gone 89 = sPush (.int (Int32.ofInt (-1))) 90 := rfl
theorem i_Mo_gone_90 : opAt m_Mo_gone 90 = sIret .int := rfl
theorem i_Mo_isPlace_0 : opAt m_Mo_isPlace 0 = sIld 2 1 := rfl
theorem i_Mo_isPlace_1 : opAt m_Mo_isPlace 1 = sIL 2 := rfl
theorem i_Mo_isPlace_2 : opAt m_Mo_isPlace 2 = sPush (.long (Int64.ofNat ((1 : Fin 2) : Nat))) 3 := rfl
theorem i_Mo_isPlace_3 : opAt m_Mo_isPlace 3 = sAld 0 4 := rfl
theorem i_Mo_isPlace_4 : opAt m_Mo_isPlace 4 = sGet [(11, 13)] 7 := rfl
theorem i_Mo_isPlace_7 : opAt m_Mo_isPlace 7 = sIld 1 8 := rfl
theorem i_Mo_isPlace_8 : opAt m_Mo_isPlace 8 = sIal 9 := rfl
theorem i_Mo_isPlace_9 : opAt m_Mo_isPlace 9 = sPush (.int (Int32.ofInt 1)) 10 := rfl
theorem i_Mo_isPlace_10 : opAt m_Mo_isPlace 10 = sBI (fun x y => x - y) 11 := rfl
theorem i_Mo_isPlace_11 : opAt m_Mo_isPlace 11 = sIL 12 := rfl
theorem i_Mo_isPlace_12 : opAt m_Mo_isPlace 12 = sSta m_Mo_in 0 3 15 := rfl
theorem i_Mo_isPlace_15 : opAt m_Mo_isPlace 15 = sIret .boolean := rfl
theorem i_Mo_fitsGone_0 : opAt m_Mo_fitsGone 0 = sAld 0 1 := rfl
theorem i_Mo_fitsGone_1 : opAt m_Mo_fitsGone 1 = sIld 1 2 := rfl
theorem i_Mo_fitsGone_2 : opAt m_Mo_fitsGone 2 = sAld 0 3 := rfl
theorem i_Mo_fitsGone_3 : opAt m_Mo_fitsGone 3 = sGet [(11, 19)] 6 := rfl
theorem i_Mo_fitsGone_6 : opAt m_Mo_fitsGone 6 = sPush (.int (Int32.ofInt 2)) 7 := rfl
theorem i_Mo_fitsGone_7 : opAt m_Mo_fitsGone 7 = sIld 3 8 := rfl
theorem i_Mo_fitsGone_8 : opAt m_Mo_fitsGone 8 = sBI (fun x y => x * y) 9 := rfl
theorem i_Mo_fitsGone_9 : opAt m_Mo_fitsGone 9 = sIal 10 := rfl
theorem i_Mo_fitsGone_10 : opAt m_Mo_fitsGone 10 = sIld 2 11 := rfl
theorem i_Mo_fitsGone_11 : opAt m_Mo_fitsGone 11 = sVir [(11, m_Mo_lastAhead)] 0 3 14 := rfl
theorem i_Mo_fitsGone_14 : opAt m_Mo_fitsGone 14 = sIst 5 16 := rfl
theorem i_Mo_fitsGone_16 : opAt m_Mo_fitsGone 16 = sAld 0 17 := rfl
theorem i_Mo_fitsGone_17 : opAt m_Mo_fitsGone 17 = sIld 1 18 := rfl
theorem i_Mo_fitsGone_18 : opAt m_Mo_fitsGone 18 = sAld 0 19 := rfl
theorem i_Mo_fitsGone_19 : opAt m_Mo_fitsGone 19 = sGet [(11, 19)] 22 := rfl
theorem i_Mo_fitsGone_22 : opAt m_Mo_fitsGone 22 = sPush (.int (Int32.ofInt 2)) 23 := rfl
theorem i_Mo_fitsGone_23 : opAt m_Mo_fitsGone 23 = sIld 3 24 := rfl
theorem i_Mo_fitsGone_24 : opAt m_Mo_fitsGone 24 = sBI (fun x y => x * y) 25 := rfl
theorem i_Mo_fitsGone_25 : opAt m_Mo_fitsGone 25 = sIal 26 := rfl
theorem i_Mo_fitsGone_26 : opAt m_Mo_fitsGone 26 = sIld 2 27 := rfl
theorem i_Mo_fitsGone_27 : opAt m_Mo_fitsGone 27 = sVir [(11, m_Mo_firstFrom)] 0 3 30 := rfl
theorem i_Mo_fitsGone_30 : opAt m_Mo_fitsGone 30 = sIst 6 32 := rfl
theorem i_Mo_fitsGone_32 : opAt m_Mo_fitsGone 32 = sAld 0 33 := rfl
theorem i_Mo_fitsGone_33 : opAt m_Mo_fitsGone 33 = sGet [(11, 19)] 36 := rfl
theorem i_Mo_fitsGone_36 : opAt m_Mo_fitsGone 36 = sPush (.int (Int32.ofInt 2)) 37 := rfl
theorem i_Mo_fitsGone_37 : opAt m_Mo_fitsGone 37 = sIld 3 38 := rfl
theorem i_Mo_fitsGone_38 : opAt m_Mo_fitsGone 38 = sBI (fun x y => x * y) 39 := rfl
theorem i_Mo_fitsGone_39 : opAt m_Mo_fitsGone 39 = sPush (.int (Int32.ofInt 1)) 40 := rfl
theorem i_Mo_fitsGone_40 : opAt m_Mo_fitsGone 40 = sBI (fun x y => x + y) 41 := rfl
theorem i_Mo_fitsGone_41 : opAt m_Mo_fitsGone 41 = sIal 42 := rfl
theorem i_Mo_fitsGone_42 : opAt m_Mo_fitsGone 42 = sIst 7 44 := rfl
theorem i_Mo_fitsGone_44 : opAt m_Mo_fitsGone 44 = sIld 5 46 := rfl
theorem i_Mo_fitsGone_46 : opAt m_Mo_fitsGone 46 = sPush (.int (Int32.ofInt (-1))) 47 := rfl
theorem i_Mo_fitsGone_47 : opAt m_Mo_fitsGone 47 = sCm .eq 72 50 := rfl
theorem i_Mo_fitsGone_50 : opAt m_Mo_fitsGone 50 = sIld 6 52 := rfl
theorem i_Mo_fitsGone_52 : opAt m_Mo_fitsGone 52 = sPush (.int (Int32.ofInt (-1))) 53 := rfl
theorem i_Mo_fitsGone_53 : opAt m_Mo_fitsGone 53 = sCm .eq 72 56 := rfl
theorem i_Mo_fitsGone_56 : opAt m_Mo_fitsGone 56 = sIld 5 58 := rfl
theorem i_Mo_fitsGone_58 : opAt m_Mo_fitsGone 58 = sIld 7 60 := rfl
theorem i_Mo_fitsGone_60 : opAt m_Mo_fitsGone 60 = sDI (fun x y => x - x / y * y) 61 := rfl
theorem i_Mo_fitsGone_61 : opAt m_Mo_fitsGone 61 = sIld 6 63 := rfl
theorem i_Mo_fitsGone_63 : opAt m_Mo_fitsGone 63 = sIld 4 65 := rfl
theorem i_Mo_fitsGone_65 : opAt m_Mo_fitsGone 65 = sBI (fun x y => x + y) 66 := rfl
theorem i_Mo_fitsGone_66 : opAt m_Mo_fitsGone 66 = sIld 7 68 := rfl
theorem i_Mo_fitsGone_68 : opAt m_Mo_fitsGone 68 = sDI (fun x y => x - x / y * y) 69 := rfl
theorem i_Mo_fitsGone_69 : opAt m_Mo_fitsGone 69 = sCm .ne 76 72 := rfl
theorem i_Mo_fitsGone_72 : opAt m_Mo_fitsGone 72 = sPush (.int (Int32.ofInt 1)) 73 := rfl
theorem i_Mo_fitsGone_73 : opAt m_Mo_fitsGone 73 = sGo 77 := rfl
theorem i_Mo_fitsGone_76 : opAt m_Mo_fitsGone 76 = sPush (.int (Int32.ofInt 0)) 77 := rfl
theorem i_Mo_fitsGone_77 : opAt m_Mo_fitsGone 77 = sIret .boolean := rfl
theorem i_Mo_lastAhead_0 : opAt m_Mo_lastAhead 0 = sIld 3 1 := rfl
theorem i_Mo_lastAhead_1 : opAt m_Mo_lastAhead 1 = sPush (.int (Int32.ofInt 1)) 2 := rfl
theorem i_Mo_lastAhead_2 : opAt m_Mo_lastAhead 2 = sBI (fun x y => x - y) 3 := rfl
theorem i_Mo_lastAhead_3 : opAt m_Mo_lastAhead 3 = sIst 4 5 := rfl
theorem i_Mo_lastAhead_5 : opAt m_Mo_lastAhead 5 = sIld 4 7 := rfl
theorem i_Mo_lastAhead_7 : opAt m_Mo_lastAhead 7 = sIf .lt 28 10 := rfl
theorem i_Mo_lastAhead_10 : opAt m_Mo_lastAhead 10 = sAld 0 11 := rfl
theorem i_Mo_lastAhead_11 : opAt m_Mo_lastAhead 11 = sIld 1 12 := rfl
theorem i_Mo_lastAhead_12 : opAt m_Mo_lastAhead 12 = sIld 4 14 := rfl
theorem i_Mo_lastAhead_14 : opAt m_Mo_lastAhead 14 = sIld 2 15 := rfl
theorem i_Mo_lastAhead_15 : opAt m_Mo_lastAhead 15 = sPush (.int (Int32.ofInt 0)) 16 := rfl
theorem i_Mo_lastAhead_16 : opAt m_Mo_lastAhead 16 = sVir [(11, m_Mo_has)] 0 4 19 := rfl
theorem i_Mo_lastAhead_19 : opAt m_Mo_lastAhead 19 = sIf .ne 28 22 := rfl
theorem i_Mo_lastAhead_22 : opAt m_Mo_lastAhead 22 = sInc 4 (-1) 25 := rfl
theorem i_Mo_lastAhead_25 : opAt m_Mo_lastAhead 25 = sGo 5 := rfl
theorem i_Mo_lastAhead_28 : opAt m_Mo_lastAhead 28 = sIld 4 30 := rfl
theorem i_Mo_lastAhead_30 : opAt m_Mo_lastAhead 30 = sIret .int := rfl
theorem i_Mo_firstFrom_0 : opAt m_Mo_firstFrom 0 = sIld 3 1 := rfl
theorem i_Mo_firstFrom_1 : opAt m_Mo_firstFrom 1 = sIst 4 3 := rfl
theorem i_Mo_firstFrom_3 : opAt m_Mo_firstFrom 3 = sIld 4 5 := rfl
theorem i_Mo_firstFrom_5 : opAt m_Mo_firstFrom 5 = sAld 0 6 := rfl
theorem i_Mo_firstFrom_6 : opAt m_Mo_firstFrom 6 = sGet [(11, 13)] 9 := rfl
theorem i_Mo_firstFrom_9 : opAt m_Mo_firstFrom 9 = sIld 1 10 := rfl
theorem i_Mo_firstFrom_10 : opAt m_Mo_firstFrom 10 = sIal 11 := rfl
theorem i_Mo_firstFrom_11 : opAt m_Mo_firstFrom 11 = sCm .ge 32 14 := rfl
theorem i_Mo_firstFrom_14 : opAt m_Mo_firstFrom 14 = sAld 0 15 := rfl
theorem i_Mo_firstFrom_15 : opAt m_Mo_firstFrom 15 = sIld 1 16 := rfl
theorem i_Mo_firstFrom_16 : opAt m_Mo_firstFrom 16 = sIld 4 18 := rfl
theorem i_Mo_firstFrom_18 : opAt m_Mo_firstFrom 18 = sIld 2 19 := rfl
theorem i_Mo_firstFrom_19 : opAt m_Mo_firstFrom 19 = sPush (.int (Int32.ofInt 0)) 20 := rfl
theorem i_Mo_firstFrom_20 : opAt m_Mo_firstFrom 20 = sVir [(11, m_Mo_has)] 0 4 23 := rfl
theorem i_Mo_firstFrom_23 : opAt m_Mo_firstFrom 23 = sIf .ne 32 26 := rfl
theorem i_Mo_firstFrom_26 : opAt m_Mo_firstFrom 26 = sInc 4 1 29 := rfl
theorem i_Mo_firstFrom_29 : opAt m_Mo_firstFrom 29 = sGo 3 := rfl
theorem i_Mo_firstFrom_32 : opAt m_Mo_firstFrom 32 = sIld 4 34 := rfl
theorem i_Mo_firstFrom_34 : opAt m_Mo_firstFrom 34 = sAld 0 35 := rfl
theorem i_Mo_firstFrom_35 : opAt m_Mo_firstFrom 35 = sGet [(11, 13)] 38 := rfl
theorem i_Mo_firstFrom_38 : opAt m_Mo_firstFrom 38 = sIld 1 39 := rfl
theorem i_Mo_firstFrom_39 : opAt m_Mo_firstFrom 39 = sIal 40 := rfl
theorem i_Mo_firstFrom_40 : opAt m_Mo_firstFrom 40 = sCm .ge 48 43 := rfl
theorem i_Mo_firstFrom_43 : opAt m_Mo_firstFrom 43 = sIld 4 45 := rfl
theorem i_Mo_firstFrom_45 : opAt m_Mo_firstFrom 45 = sGo 49 := rfl
theorem i_Mo_firstFrom_48 : opAt m_Mo_firstFrom 48 = sPush (.int (Int32.ofInt (-1))) 49 := rfl
theorem i_Mo_firstFrom_49 : opAt m_Mo_firstFrom 49 = sIret .int := rfl
theorem i_Mo_earlier_0 : opAt m_Mo_earlier 0 = sAld 0 1 := rfl
theorem i_Mo_earlier_1 : opAt m_Mo_earlier 1 = sIld 1 2 := rfl
theorem i_Mo_earlier_2 : opAt m_Mo_earlier 2 = sVir [(11, m_Mo_isPrint)] 0 1 5 := rfl
theorem i_Mo_earlier_5 : opAt m_Mo_earlier 5 = sIf .ne 11 8 := rfl
theorem i_Mo_earlier_8 : opAt m_Mo_earlier 8 = sPush (.int (Int8.ofInt (-101)).toInt32) 10 := rfl
theorem i_Mo_earlier_10 : opAt m_Mo_earlier 10 = sIret .int := rfl
theorem i_Mo_earlier_11 : opAt m_Mo_earlier 11 = sIld 2 12 := rfl
theorem i_Mo_earlier_12 : opAt m_Mo_earlier 12 = sSta m_Mo_isSide 0 1 15 := rfl
theorem i_Mo_earlier_15 : opAt m_Mo_earlier 15 = sIf .eq 42 18 := rfl
theorem i_Mo_earlier_18 : opAt m_Mo_earlier 18 = sIld 3 19 := rfl
theorem i_Mo_earlier_19 : opAt m_Mo_earlier 19 = sIL 20 := rfl
theorem i_Mo_earlier_20 : opAt m_Mo_earlier 20 = sPush (.long (2)) 23 := rfl
theorem i_Mo_earlier_23 : opAt m_Mo_earlier 23 = sPush (.long (19)) 26 := rfl
theorem i_Mo_earlier_26 : opAt m_Mo_earlier 26 = sSta m_Mo_in 0 3 29 := rfl
theorem i_Mo_earlier_29 : opAt m_Mo_earlier 29 = sIf .eq 42 32 := rfl
theorem i_Mo_earlier_32 : opAt m_Mo_earlier 32 = sAld 0 33 := rfl
theorem i_Mo_earlier_33 : opAt m_Mo_earlier 33 = sIld 1 34 := rfl
theorem i_Mo_earlier_34 : opAt m_Mo_earlier 34 = sIld 4 36 := rfl
theorem i_Mo_earlier_36 : opAt m_Mo_earlier 36 = sVir [(11, m_Mo_isPlace)] 0 2 39 := rfl
theorem i_Mo_earlier_39 : opAt m_Mo_earlier 39 = sIf .ne 45 42 := rfl
theorem i_Mo_earlier_42 : opAt m_Mo_earlier 42 = sPush (.int (Int8.ofInt (-102)).toInt32) 44 := rfl
theorem i_Mo_earlier_44 : opAt m_Mo_earlier 44 = sIret .int := rfl
theorem i_Mo_earlier_45 : opAt m_Mo_earlier 45 = sAld 0 46 := rfl
theorem i_Mo_earlier_46 : opAt m_Mo_earlier 46 = sIld 1 47 := rfl
theorem i_Mo_earlier_47 : opAt m_Mo_earlier 47 = sIld 2 48 := rfl
theorem i_Mo_earlier_48 : opAt m_Mo_earlier 48 = sIld 4 50 := rfl
theorem i_Mo_earlier_50 : opAt m_Mo_earlier 50 = sVir [(11, m_Mo_lastAhead)] 0 3 53 := rfl
theorem i_Mo_earlier_53 : opAt m_Mo_earlier 53 = sIst 5 55 := rfl
theorem i_Mo_earlier_55 : opAt m_Mo_earlier 55 = sAld 0 56 := rfl
theorem i_Mo_earlier_56 : opAt m_Mo_earlier 56 = sIld 1 57 := rfl
theorem i_Mo_earlier_57 : opAt m_Mo_earlier 57 = sIld 2 58 := rfl
theorem i_Mo_earlier_58 : opAt m_Mo_earlier 58 = sIld 4 60 := rfl
theorem i_Mo_earlier_60 : opAt m_Mo_earlier 60 = sVir [(11, m_Mo_firstFrom)] 0 3 63 := rfl
theorem i_Mo_earlier_63 : opAt m_Mo_earlier 63 = sIst 6 65 := rfl
theorem i_Mo_earlier_65 : opAt m_Mo_earlier 65 = sIld 5 67 := rfl
theorem i_Mo_earlier_67 : opAt m_Mo_earlier 67 = sPush (.int (Int32.ofInt (-1))) 68 := rfl
theorem i_Mo_earlier_68 : opAt m_Mo_earlier 68 = sCm .eq 77 71 := rfl
theorem i_Mo_earlier_71 : opAt m_Mo_earlier 71 = sIld 6 73 := rfl
theorem i_Mo_earlier_73 : opAt m_Mo_earlier 73 = sPush (.int (Int32.ofInt (-1))) 74 := rfl
theorem i_Mo_earlier_74 : opAt m_Mo_earlier 74 = sCm .ne 81 77 := rfl
theorem i_Mo_earlier_77 : opAt m_Mo_earlier 77 = sPush (.int (Int32.ofInt (-1))) 78 := rfl
theorem i_Mo_earlier_78 : opAt m_Mo_earlier 78 = sGo 97 := rfl
theorem i_Mo_earlier_81 : opAt m_Mo_earlier 81 = sIld 5 83 := rfl
theorem i_Mo_earlier_83 : opAt m_Mo_earlier 83 = sIld 3 84 := rfl
theorem i_Mo_earlier_84 : opAt m_Mo_earlier 84 = sDI (fun x y => x - x / y * y) 85 := rfl
theorem i_Mo_earlier_85 : opAt m_Mo_earlier 85 = sIld 6 87 := rfl
theorem i_Mo_earlier_87 : opAt m_Mo_earlier 87 = sIld 3 88 := rfl
theorem i_Mo_earlier_88 : opAt m_Mo_earlier 88 = sDI (fun x y => x - x / y * y) 89 := rfl
theorem i_Mo_earlier_89 : opAt m_Mo_earlier 89 = sCm .ne 96 92 := rfl
theorem i_Mo_earlier_92 : opAt m_Mo_earlier 92 = sPush (.int (Int32.ofInt 0)) 93 := rfl
theorem i_Mo_earlier_93 : opAt m_Mo_earlier 93 = sGo 97 := rfl
theorem i_Mo_earlier_96 : opAt m_Mo_earlier 96 = sPush (.int (Int32.ofInt 1)) 97 := rfl
theorem i_Mo_earlier_97 : opAt m_Mo_earlier 97 = sIret .int := rfl
theorem i_Mo_lacks_0 : opAt m_Mo_lacks 0 = sAld 0 1 := rfl
theorem i_Mo_lacks_1 : opAt m_Mo_lacks 1 = sIld 1 2 := rfl
theorem i_Mo_lacks_2 : opAt m_Mo_lacks 2 = sVir [(11, m_Mo_isPrint)] 0 1 5 := rfl
theorem i_Mo_lacks_5 : opAt m_Mo_lacks 5 = sIf .eq 26 8 := rfl
theorem i_Mo_lacks_8 : opAt m_Mo_lacks 8 = sIld 2 9 := rfl
theorem i_Mo_lacks_9 : opAt m_Mo_lacks 9 = sPush (.int (Int32.ofInt (-1))) 10 := rfl
theorem i_Mo_lacks_10 : opAt m_Mo_lacks 10 = sCm .eq 21 13 := rfl
theorem i_Mo_lacks_13 : opAt m_Mo_lacks 13 = sAld 0 14 := rfl
theorem i_Mo_lacks_14 : opAt m_Mo_lacks 14 = sIld 2 15 := rfl
theorem i_Mo_lacks_15 : opAt m_Mo_lacks 15 = sVir [(11, m_Mo_isPrint)] 0 1 18 := rfl
theorem i_Mo_lacks_18 : opAt m_Mo_lacks 18 = sIf .eq 26 21 := rfl
theorem i_Mo_lacks_21 : opAt m_Mo_lacks 21 = sIld 1 22 := rfl
theorem i_Mo_lacks_22 : opAt m_Mo_lacks 22 = sIld 2 23 := rfl
theorem i_Mo_lacks_23 : opAt m_Mo_lacks 23 = sCm .ne 29 26 := rfl
theorem i_Mo_lacks_26 : opAt m_Mo_lacks 26 = sPush (.int (Int8.ofInt (-101)).toInt32) 28 := rfl
theorem i_Mo_lacks_28 : opAt m_Mo_lacks 28 = sIret .int := rfl
theorem i_Mo_lacks_29 : opAt m_Mo_lacks 29 = sIld 3 30 := rfl
theorem i_Mo_lacks_30 : opAt m_Mo_lacks 30 = sIL 31 := rfl
theorem i_Mo_lacks_31 : opAt m_Mo_lacks 31 = sPush (.long (Int64.ofNat ((0 : Fin 2) : Nat))) 32 := rfl
theorem i_Mo_lacks_32 : opAt m_Mo_lacks 32 = sPush (.long (99)) 35 := rfl
theorem i_Mo_lacks_35 : opAt m_Mo_lacks 35 = sSta m_Mo_in 0 3 38 := rfl
theorem i_Mo_lacks_38 : opAt m_Mo_lacks 38 = sIf .eq 51 41 := rfl
theorem i_Mo_lacks_41 : opAt m_Mo_lacks 41 = sAld 0 42 := rfl
theorem i_Mo_lacks_42 : opAt m_Mo_lacks 42 = sIld 1 43 := rfl
theorem i_Mo_lacks_43 : opAt m_Mo_lacks 43 = sIld 2 44 := rfl
theorem i_Mo_lacks_44 : opAt m_Mo_lacks 44 = sIld 3 45 := rfl
theorem i_Mo_lacks_45 : opAt m_Mo_lacks 45 = sVir [(11, m_Mo_lacksOf)] 0 3 48 := rfl
theorem i_Mo_lacks_48 : opAt m_Mo_lacks 48 = sGo 53 := rfl
theorem i_Mo_lacks_51 : opAt m_Mo_lacks 51 = sPush (.int (Int8.ofInt (-102)).toInt32) 53 := rfl
theorem i_Mo_lacks_53 : opAt m_Mo_lacks 53 = sIret .int := rfl
theorem i_Mo_lacksOf_0 : opAt m_Mo_lacksOf 0 = sIld 2 1 := rfl
theorem i_Mo_lacksOf_1 : opAt m_Mo_lacksOf 1 = sPush (.int (Int32.ofInt (-1))) 2 := rfl
theorem i_Mo_lacksOf_2 : opAt m_Mo_lacksOf 2 = sCm .ne 13 5 := rfl
theorem i_Mo_lacksOf_5 : opAt m_Mo_lacksOf 5 = sAld 0 6 := rfl
theorem i_Mo_lacksOf_6 : opAt m_Mo_lacksOf 6 = sIld 1 7 := rfl
theorem i_Mo_lacksOf_7 : opAt m_Mo_lacksOf 7 = sVir [(11, m_Mo_whitesOf)] 0 1 10 := rfl
theorem i_Mo_lacksOf_10 : opAt m_Mo_lacksOf 10 = sIld 3 11 := rfl
theorem i_Mo_lacksOf_11 : opAt m_Mo_lacksOf 11 = sBI (fun x y => x + y) 12 := rfl
theorem i_Mo_lacksOf_12 : opAt m_Mo_lacksOf 12 = sIret .int := rfl
theorem i_Mo_lacksOf_13 : opAt m_Mo_lacksOf 13 = sPush (.int (Int32.ofInt 0)) 14 := rfl
theorem i_Mo_lacksOf_14 : opAt m_Mo_lacksOf 14 = sIst 4 16 := rfl
theorem i_Mo_lacksOf_16 : opAt m_Mo_lacksOf 16 = sPush (.int (Int32.ofInt 0)) 17 := rfl
theorem i_Mo_lacksOf_17 : opAt m_Mo_lacksOf 17 = sIst 5 19 := rfl
theorem i_Mo_lacksOf_19 : opAt m_Mo_lacksOf 19 = sIld 5 21 := rfl
theorem i_Mo_lacksOf_21 : opAt m_Mo_lacksOf 21 = sAld 0 22 := rfl
theorem i_Mo_lacksOf_22 : opAt m_Mo_lacksOf 22 = sGet [(11, 13)] 25 := rfl
theorem i_Mo_lacksOf_25 : opAt m_Mo_lacksOf 25 = sIld 1 26 := rfl
theorem i_Mo_lacksOf_26 : opAt m_Mo_lacksOf 26 = sIal 27 := rfl
theorem i_Mo_lacksOf_27 : opAt m_Mo_lacksOf 27 = sCm .ge 130 30 := rfl
theorem i_Mo_lacksOf_30 : opAt m_Mo_lacksOf 30 = sAld 0 31 := rfl
theorem i_Mo_lacksOf_31 : opAt m_Mo_lacksOf 31 = sIld 2 32 := rfl
theorem i_Mo_lacksOf_32 : opAt m_Mo_lacksOf 32 = sAld 0 33 := rfl
theorem i_Mo_lacksOf_33 : opAt m_Mo_lacksOf 33 = sGet [(11, 14)] 36 := rfl
theorem i_Mo_lacksOf_36 : opAt m_Mo_lacksOf 36 = sPush (.int (Int8.ofInt 48).toInt32) 38 := rfl
theorem i_Mo_lacksOf_38 : opAt m_Mo_lacksOf 38 = sIld 1 39 := rfl
theorem i_Mo_lacksOf_39 : opAt m_Mo_lacksOf 39 = sBI (fun x y => x * y) 40 := rfl
theorem i_Mo_lacksOf_40 : opAt m_Mo_lacksOf 40 = sIld 5 42 := rfl
theorem i_Mo_lacksOf_42 : opAt m_Mo_lacksOf 42 = sBI (fun x y => x + y) 43 := rfl
theorem i_Mo_lacksOf_43 : opAt m_Mo_lacksOf 43 = sIal 44 := rfl
theorem i_Mo_lacksOf_44 : opAt m_Mo_lacksOf 44 = sVir [(11, m_Mo_pictureOf)] 0 2 47 := rfl
theorem i_Mo_lacksOf_47 : opAt m_Mo_lacksOf 47 = sIst 6 49 := rfl
theorem i_Mo_lacksOf_49 : opAt m_Mo_lacksOf 49 = sIld 6 51 := rfl
theorem i_Mo_lacksOf_51 : opAt m_Mo_lacksOf 51 = sPush (.int (Int32.ofInt (-1))) 52 := rfl
theorem i_Mo_lacksOf_52 : opAt m_Mo_lacksOf 52 = sCm .ne 59 55 := rfl
theorem i_Mo_lacksOf_55 : opAt m_Mo_lacksOf 55 = sPush (.int (Int32.ofInt 0)) 56 := rfl
theorem i_Mo_lacksOf_56 : opAt m_Mo_lacksOf 56 = sGo 84 := rfl
theorem i_Mo_lacksOf_59 : opAt m_Mo_lacksOf 59 = sAld 0 60 := rfl
theorem i_Mo_lacksOf_60 : opAt m_Mo_lacksOf 60 = sGet [(11, 15)] 63 := rfl
theorem i_Mo_lacksOf_63 : opAt m_Mo_lacksOf 63 = sPush (.int (Int8.ofInt 48).toInt32) 65 := rfl
theorem i_Mo_lacksOf_65 : opAt m_Mo_lacksOf 65 = sIld 2 66 := rfl
theorem i_Mo_lacksOf_66 : opAt m_Mo_lacksOf 66 = sBI (fun x y => x * y) 67 := rfl
theorem i_Mo_lacksOf_67 : opAt m_Mo_lacksOf 67 = sIld 6 69 := rfl
theorem i_Mo_lacksOf_69 : opAt m_Mo_lacksOf 69 = sBI (fun x y => x + y) 70 := rfl
theorem i_Mo_lacksOf_70 : opAt m_Mo_lacksOf 70 = sIal 71 := rfl
theorem i_Mo_lacksOf_71 : opAt m_Mo_lacksOf 71 = sAld 0 72 := rfl
theorem i_Mo_lacksOf_72 : opAt m_Mo_lacksOf 72 = sGet [(11, 16)] 75 := rfl
theorem i_Mo_lacksOf_75 : opAt m_Mo_lacksOf 75 = sPush (.int (Int8.ofInt 48).toInt32) 77 := rfl
theorem i_Mo_lacksOf_77 : opAt m_Mo_lacksOf 77 = sIld 2 78 := rfl
theorem i_Mo_lacksOf_78 : opAt m_Mo_lacksOf 78 = sBI (fun x y => x * y) 79 := rfl
theorem i_Mo_lacksOf_79 : opAt m_Mo_lacksOf 79 = sIld 6 81 := rfl
theorem i_Mo_lacksOf_81 : opAt m_Mo_lacksOf 81 = sBI (fun x y => x + y) 82 := rfl
theorem i_Mo_lacksOf_82 : opAt m_Mo_lacksOf 82 = sIal 83 := rfl
theorem i_Mo_lacksOf_83 : opAt m_Mo_lacksOf 83 = sBI (fun x y => x ||| y) 84 := rfl
theorem i_Mo_lacksOf_84 : opAt m_Mo_lacksOf 84 = sIst 7 86 := rfl
theorem i_Mo_lacksOf_86 : opAt m_Mo_lacksOf 86 = sIld 4 88 := rfl
theorem i_Mo_lacksOf_88 : opAt m_Mo_lacksOf 88 = sAld 0 89 := rfl
theorem i_Mo_lacksOf_89 : opAt m_Mo_lacksOf 89 = sGet [(11, 16)] 92 := rfl
theorem i_Mo_lacksOf_92 : opAt m_Mo_lacksOf 92 = sPush (.int (Int8.ofInt 48).toInt32) 94 := rfl
theorem i_Mo_lacksOf_94 : opAt m_Mo_lacksOf 94 = sIld 1 95 := rfl
theorem i_Mo_lacksOf_95 : opAt m_Mo_lacksOf 95 = sBI (fun x y => x * y) 96 := rfl
theorem i_Mo_lacksOf_96 : opAt m_Mo_lacksOf 96 = sIld 5 98 := rfl
theorem i_Mo_lacksOf_98 : opAt m_Mo_lacksOf 98 = sBI (fun x y => x + y) 99 := rfl
theorem i_Mo_lacksOf_99 : opAt m_Mo_lacksOf 99 = sIal 100 := rfl
theorem i_Mo_lacksOf_100 : opAt m_Mo_lacksOf 100 = sIld 7 102 := rfl
theorem i_Mo_lacksOf_102 : opAt m_Mo_lacksOf 102 = sPush (.int (Int32.ofInt (-1))) 103 := rfl
theorem i_Mo_lacksOf_103 : opAt m_Mo_lacksOf 103 = sBI (fun x y => x ^^^ y) 104 := rfl
theorem i_Mo_lacksOf_104 : opAt m_Mo_lacksOf 104 = sBI (fun x y => x &&& y) 105 := rfl
theorem i_Mo_lacksOf_105 : opAt m_Mo_lacksOf 105 = sSta m_Mo_bitsOf 0 1 108 := rfl
theorem i_Mo_lacksOf_108 : opAt m_Mo_lacksOf 108 = sIld 6 110 := rfl
theorem i_Mo_lacksOf_110 : opAt m_Mo_lacksOf 110 = sPush (.int (Int32.ofInt (-1))) 111 := rfl
theorem i_Mo_lacksOf_111 : opAt m_Mo_lacksOf 111 = sCm .ne 119 114 := rfl
theorem i_Mo_lacksOf_114 : opAt m_Mo_lacksOf 114 = sPush (.int (Int8.ofInt 8).toInt32) 116 := rfl
theorem i_Mo_lacksOf_116 : opAt m_Mo_lacksOf 116 = sGo 120 := rfl
theorem i_Mo_lacksOf_119 : opAt m_Mo_lacksOf 119 = sPush (.int (Int32.ofInt 0)) 120 := rfl
theorem i_Mo_lacksOf_120 : opAt m_Mo_lacksOf 120 = sBI (fun x y => x + y) 121 := rfl
theorem i_Mo_lacksOf_121 : opAt m_Mo_lacksOf 121 = sBI (fun x y => x + y) 122 := rfl
theorem i_Mo_lacksOf_122 : opAt m_Mo_lacksOf 122 = sIst 4 124 := rfl
theorem i_Mo_lacksOf_124 : opAt m_Mo_lacksOf 124 = sInc 5 1 127 := rfl
theorem i_Mo_lacksOf_127 : opAt m_Mo_lacksOf 127 = sGo 19 := rfl
theorem i_Mo_lacksOf_130 : opAt m_Mo_lacksOf 130 = sIld 4 132 := rfl
theorem i_Mo_lacksOf_132 : opAt m_Mo_lacksOf 132 = sIret .int := rfl
theorem i_Mo_whitesOf_0 : opAt m_Mo_whitesOf 0 = sPush (.int (Int32.ofInt 0)) 1 := rfl
theorem i_Mo_whitesOf_1 : opAt m_Mo_whitesOf 1 = sIst 2 2 := rfl
theorem i_Mo_whitesOf_2 : opAt m_Mo_whitesOf 2 = sPush (.int (Int32.ofInt 0)) 3 := rfl
theorem i_Mo_whitesOf_3 : opAt m_Mo_whitesOf 3 = sIst 3 4 := rfl
theorem i_Mo_whitesOf_4 : opAt m_Mo_whitesOf 4 = sIld 3 5 := rfl
theorem i_Mo_whitesOf_5 : opAt m_Mo_whitesOf 5 = sAld 0 6 := rfl
theorem i_Mo_whitesOf_6 : opAt m_Mo_whitesOf 6 = sGet [(11, 13)] 9 := rfl
theorem i_Mo_whitesOf_9 : opAt m_Mo_whitesOf 9 = sIld 1 10 := rfl
theorem i_Mo_whitesOf_10 : opAt m_Mo_whitesOf 10 = sIal 11 := rfl
theorem i_Mo_whitesOf_11 : opAt m_Mo_whitesOf 11 = sCm .ge 37 14 := rfl
theorem i_Mo_whitesOf_14 : opAt m_Mo_whitesOf 14 = sIld 2 15 := rfl
theorem i_Mo_whitesOf_15 : opAt m_Mo_whitesOf 15 = sAld 0 16 := rfl
theorem i_Mo_whitesOf_16 : opAt m_Mo_whitesOf 16 = sGet [(11, 16)] 19 := rfl
theorem i_Mo_whitesOf_19 : opAt m_Mo_whitesOf 19 = sPush (.int (Int8.ofInt 48).toInt32) 21 := rfl
theorem i_Mo_whitesOf_21 : opAt m_Mo_whitesOf 21 = sIld 1 22 := rfl
theorem i_Mo_whitesOf_22 : opAt m_Mo_whitesOf 22 = sBI (fun x y => x * y) 23 := rfl
theorem i_Mo_whitesOf_23 : opAt m_Mo_whitesOf 23 = sIld 3 24 := rfl
theorem i_Mo_whitesOf_24 : opAt m_Mo_whitesOf 24 = sBI (fun x y => x + y) 25 := rfl
theorem i_Mo_whitesOf_25 : opAt m_Mo_whitesOf 25 = sIal 26 := rfl
theorem i_Mo_whitesOf_26 : opAt m_Mo_whitesOf 26 = sSta m_Mo_bitsOf 0 1 29 := rfl
theorem i_Mo_whitesOf_29 : opAt m_Mo_whitesOf 29 = sBI (fun x y => x + y) 30 := rfl
theorem i_Mo_whitesOf_30 : opAt m_Mo_whitesOf 30 = sIst 2 31 := rfl
theorem i_Mo_whitesOf_31 : opAt m_Mo_whitesOf 31 = sInc 3 1 34 := rfl
theorem i_Mo_whitesOf_34 : opAt m_Mo_whitesOf 34 = sGo 4 := rfl
theorem i_Mo_whitesOf_37 : opAt m_Mo_whitesOf 37 = sIld 2 38 := rfl
theorem i_Mo_whitesOf_38 : opAt m_Mo_whitesOf 38 = sIret .int := rfl
theorem i_Mo_pictureOf_0 : opAt m_Mo_pictureOf 0 = sPush (.int (Int32.ofInt 0)) 1 := rfl
theorem i_Mo_pictureOf_1 : opAt m_Mo_pictureOf 1 = sIst 3 2 := rfl
theorem i_Mo_pictureOf_2 : opAt m_Mo_pictureOf 2 = sIld 3 3 := rfl
theorem i_Mo_pictureOf_3 : opAt m_Mo_pictureOf 3 = sAld 0 4 := rfl
theorem i_Mo_pictureOf_4 : opAt m_Mo_pictureOf 4 = sGet [(11, 13)] 7 := rfl
theorem i_Mo_pictureOf_7 : opAt m_Mo_pictureOf 7 = sIld 1 8 := rfl
theorem i_Mo_pictureOf_8 : opAt m_Mo_pictureOf 8 = sIal 9 := rfl
theorem i_Mo_pictureOf_9 : opAt m_Mo_pictureOf 9 = sCm .ge 35 12 := rfl
theorem i_Mo_pictureOf_12 : opAt m_Mo_pictureOf 12 = sAld 0 13 := rfl
theorem i_Mo_pictureOf_13 : opAt m_Mo_pictureOf 13 = sGet [(11, 14)] 16 := rfl
theorem i_Mo_pictureOf_16 : opAt m_Mo_pictureOf 16 = sPush (.int (Int8.ofInt 48).toInt32) 18 := rfl
theorem i_Mo_pictureOf_18 : opAt m_Mo_pictureOf 18 = sIld 1 19 := rfl
theorem i_Mo_pictureOf_19 : opAt m_Mo_pictureOf 19 = sBI (fun x y => x * y) 20 := rfl
theorem i_Mo_pictureOf_20 : opAt m_Mo_pictureOf 20 = sIld 3 21 := rfl
theorem i_Mo_pictureOf_21 : opAt m_Mo_pictureOf 21 = sBI (fun x y => x + y) 22 := rfl
theorem i_Mo_pictureOf_22 : opAt m_Mo_pictureOf 22 = sIal 23 := rfl
theorem i_Mo_pictureOf_23 : opAt m_Mo_pictureOf 23 = sIld 2 24 := rfl
theorem i_Mo_pictureOf_24 : opAt m_Mo_pictureOf 24 = sCm .ne 29 27 := rfl
theorem i_Mo_pictureOf_27 : opAt m_Mo_pictureOf 27 = sIld 3 28 := rfl
theorem i_Mo_pictureOf_28 : opAt m_Mo_pictureOf 28 = sIret .int := rfl
theorem i_Mo_pictureOf_29 : opAt m_Mo_pictureOf 29 = sInc 3 1 32 := rfl
theorem i_Mo_pictureOf_32 : opAt m_Mo_pictureOf 32 = sGo 2 := rfl
theorem i_Mo_pictureOf_35 : opAt m_Mo_pictureOf 35 = sPush (.int (Int32.ofInt (-1))) 36 := rfl
theorem i_Mo_pictureOf_36 : opAt m_Mo_pictureOf 36 = sIret .int := rfl
theorem i_Mo_tree_0 : opAt m_Mo_tree 0 = sIld 1 1 := rfl
theorem i_Mo_tree_1 : opAt m_Mo_tree 1 = sIL 2 := rfl
theorem i_Mo_tree_2 : opAt m_Mo_tree 2 = sPush (.long (Int64.ofNat ((0 : Fin 2) : Nat))) 3 := rfl
theorem i_Mo_tree_3 : opAt m_Mo_tree 3 = sPush (.long (99)) 6 := rfl
theorem i_Mo_tree_6 : opAt m_Mo_tree 6 = sSta m_Mo_in 0 3 9 := rfl
theorem i_Mo_tree_9 : opAt m_Mo_tree 9 = sIf .eq 26 12 := rfl
theorem i_Mo_tree_12 : opAt m_Mo_tree 12 = sIld 2 13 := rfl
theorem i_Mo_tree_13 : opAt m_Mo_tree 13 = sIL 14 := rfl
theorem i_Mo_tree_14 : opAt m_Mo_tree 14 = sPush (.long (Int64.ofNat ((0 : Fin 2) : Nat))) 15 := rfl
theorem i_Mo_tree_15 : opAt m_Mo_tree 15 = sAld 0 16 := rfl
theorem i_Mo_tree_16 : opAt m_Mo_tree 16 = sGet [(11, 12)] 19 := rfl
theorem i_Mo_tree_19 : opAt m_Mo_tree 19 = sIL 20 := rfl
theorem i_Mo_tree_20 : opAt m_Mo_tree 20 = sSta m_Mo_in 0 3 23 := rfl
theorem i_Mo_tree_23 : opAt m_Mo_tree 23 = sIf .ne 29 26 := rfl
theorem i_Mo_tree_26 : opAt m_Mo_tree 26 = sPush (.int (Int8.ofInt (-102)).toInt32) 28 := rfl
theorem i_Mo_tree_28 : opAt m_Mo_tree 28 = sIret .int := rfl
theorem i_Mo_tree_29 : opAt m_Mo_tree 29 = sAld 0 30 := rfl
theorem i_Mo_tree_30 : opAt m_Mo_tree 30 = sGet [(11, 12)] 33 := rfl
theorem i_Mo_tree_33 : opAt m_Mo_tree 33 = sIf .eq 45 36 := rfl
theorem i_Mo_tree_36 : opAt m_Mo_tree 36 = sAld 0 37 := rfl
theorem i_Mo_tree_37 : opAt m_Mo_tree 37 = sGet [(11, 20)] 40 := rfl
theorem i_Mo_tree_40 : opAt m_Mo_tree 40 = sPush (.int (Int8.ofInt 12).toInt32) 42 := rfl
theorem i_Mo_tree_42 : opAt m_Mo_tree 42 = sCm .ne 48 45 := rfl
theorem i_Mo_tree_45 : opAt m_Mo_tree 45 = sPush (.int (Int8.ofInt (-103)).toInt32) 47 := rfl
theorem i_Mo_tree_47 : opAt m_Mo_tree 47 = sIret .int := rfl
theorem i_Mo_tree_48 : opAt m_Mo_tree 48 = sAld 0 49 := rfl
theorem i_Mo_tree_49 : opAt m_Mo_tree 49 = sDup 50 := rfl
theorem i_Mo_tree_50 : opAt m_Mo_tree 50 = sGet [(11, 20)] 53 := rfl
theorem i_Mo_tree_53 : opAt m_Mo_tree 53 = sPush (.int (Int32.ofInt 1)) 54 := rfl
theorem i_Mo_tree_54 : opAt m_Mo_tree 54 = sBI (fun x y => x + y) 55 := rfl
theorem i_Mo_tree_55 : opAt m_Mo_tree 55 = sPut [(11, 20)] (.int) 58 := rfl
theorem i_Mo_tree_58 : opAt m_Mo_tree 58 = sAld 0 59 := rfl
theorem i_Mo_tree_59 : opAt m_Mo_tree 59 = sIld 1 60 := rfl
theorem i_Mo_tree_60 : opAt m_Mo_tree 60 = sVir [(11, m_Mo_layTree)] 0 1 63 := rfl
theorem i_Mo_tree_63 : opAt m_Mo_tree 63 = sIst 3 64 := rfl
theorem i_Mo_tree_64 : opAt m_Mo_tree 64 = sIld 2 65 := rfl
theorem i_Mo_tree_65 : opAt m_Mo_tree 65 = sIf .ne 72 68 := rfl
theorem i_Mo_tree_68 : opAt m_Mo_tree 68 = sIld 3 69 := rfl
theorem i_Mo_tree_69 : opAt m_Mo_tree 69 = sGo 80 := rfl
theorem i_Mo_tree_72 : opAt m_Mo_tree 72 = sAld 0 73 := rfl
theorem i_Mo_tree_73 : opAt m_Mo_tree 73 = sGet [(11, 23)] 76 := rfl
theorem i_Mo_tree_76 : opAt m_Mo_tree 76 = sIld 2 77 := rfl
theorem i_Mo_tree_77 : opAt m_Mo_tree 77 = sPush (.int (Int32.ofInt 1)) 78 := rfl
theorem i_Mo_tree_78 : opAt m_Mo_tree 78 = sBI (fun x y => x - y) 79 := rfl
theorem i_Mo_tree_79 : opAt m_Mo_tree 79 = sIal 80 := rfl
theorem i_Mo_tree_80 : opAt m_Mo_tree 80 = sIret .int := rfl
