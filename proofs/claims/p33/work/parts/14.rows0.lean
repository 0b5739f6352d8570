/-! EACH INSTRUCTION AS A STEP -/
theorem i_Pa_init_0 : opAt m_Pa_init 0 = sAld 0 1 := rfl
theorem i_Pa_init_1 : opAt m_Pa_init 1 = sObj 4 := rfl
theorem i_Pa_init_4 : opAt m_Pa_init 4 = sAld 0 5 := rfl
theorem i_Pa_init_5 : opAt m_Pa_init 5 = sPush (.int (Int8.ofInt 40).toInt32) 7 := rfl
theorem i_Pa_init_7 : opAt m_Pa_init 7 = sNar 1 zI 9 := rfl
theorem i_Pa_init_9 : opAt m_Pa_init 9 = sPut [(4, 0)] (.array .char) 12 := rfl
theorem i_Pa_init_12 : opAt m_Pa_init 12 = sAld 0 13 := rfl
theorem i_Pa_init_13 : opAt m_Pa_init 13 = sPush (.int (Int32.ofInt 0)) 14 := rfl
theorem i_Pa_init_14 : opAt m_Pa_init 14 = sPut [(4, 1)] (.int) 17 := rfl
theorem i_Pa_init_17 : opAt m_Pa_init 17 = sAld 0 18 := rfl
theorem i_Pa_init_18 : opAt m_Pa_init 18 = sPush (.int (Int32.ofInt 4)) 19 := rfl
theorem i_Pa_init_19 : opAt m_Pa_init 19 = sNar 0 zI 21 := rfl
theorem i_Pa_init_21 : opAt m_Pa_init 21 = sPut [(4, 2)] (.array .int) 24 := rfl
theorem i_Pa_init_24 : opAt m_Pa_init 24 = sAld 0 25 := rfl
theorem i_Pa_init_25 : opAt m_Pa_init 25 = sPush (.int (Int32.ofInt 4)) 26 := rfl
theorem i_Pa_init_26 : opAt m_Pa_init 26 = sNar 0 zI 28 := rfl
theorem i_Pa_init_28 : opAt m_Pa_init 28 = sPut [(4, 3)] (.array .int) 31 := rfl
theorem i_Pa_init_31 : opAt m_Pa_init 31 = sAld 0 32 := rfl
theorem i_Pa_init_32 : opAt m_Pa_init 32 = sPush (.int (Int32.ofInt 4)) 33 := rfl
theorem i_Pa_init_33 : opAt m_Pa_init 33 = sNar 0 zI 35 := rfl
theorem i_Pa_init_35 : opAt m_Pa_init 35 = sPut [(4, 4)] (.array .int) 38 := rfl
theorem i_Pa_init_38 : opAt m_Pa_init 38 = sAld 0 39 := rfl
theorem i_Pa_init_39 : opAt m_Pa_init 39 = sPush (.int (Int32.ofInt 4)) 40 := rfl
theorem i_Pa_init_40 : opAt m_Pa_init 40 = sNar 0 zI 42 := rfl
theorem i_Pa_init_42 : opAt m_Pa_init 42 = sPut [(4, 5)] (.array .int) 45 := rfl
theorem i_Pa_init_45 : opAt m_Pa_init 45 = sAld 0 46 := rfl
theorem i_Pa_init_46 : opAt m_Pa_init 46 = sPush (.int (Int32.ofInt 0)) 47 := rfl
theorem i_Pa_init_47 : opAt m_Pa_init 47 = sPut [(4, 6)] (.int) 50 := rfl
theorem i_Pa_init_50 : opAt m_Pa_init 50 = sAld 0 51 := rfl
theorem i_Pa_init_51 : opAt m_Pa_init 51 = sPush (.int (Int32.ofInt 0)) 52 := rfl
theorem i_Pa_init_52 : opAt m_Pa_init 52 = sPut [(4, 7)] (.int) 55 := rfl
theorem i_Pa_init_55 : opAt m_Pa_init 55 = sVret := rfl
theorem i_Sh_init_0 : opAt m_Sh_init 0 = sAld 0 1 := rfl
theorem i_Sh_init_1 : opAt m_Sh_init 1 = sObj 4 := rfl
theorem i_Sh_init_4 : opAt m_Sh_init 4 = sAld 0 5 := rfl
theorem i_Sh_init_5 : opAt m_Sh_init 5 = sPush (.int (Int8.ofInt 6).toInt32) 7 := rfl
theorem i_Sh_init_7 : opAt m_Sh_init 7 = sNar 5 (.inr (.inr (.inr (.inr (fun _ => none))))) 10 := rfl
theorem i_Sh_init_10 : opAt m_Sh_init 10 = sPut [(7, 0)] (.array (.object "LinesDownFilm$Print")) 13 := rfl
theorem i_Sh_init_13 : opAt m_Sh_init 13 = sAld 0 14 := rfl
theorem i_Sh_init_14 : opAt m_Sh_init 14 = sPush (.int (Int32.ofInt 0)) 15 := rfl
theorem i_Sh_init_15 : opAt m_Sh_init 15 = sPut [(7, 1)] (.int) 18 := rfl
theorem i_Sh_init_18 : opAt m_Sh_init 18 = sAld 0 19 := rfl
theorem i_Sh_init_19 : opAt m_Sh_init 19 = sPush (.int (Int32.ofInt 4)) 20 := rfl
theorem i_Sh_init_20 : opAt m_Sh_init 20 = sNar 0 zI 22 := rfl
theorem i_Sh_init_22 : opAt m_Sh_init 22 = sPut [(7, 2)] (.array .int) 25 := rfl
theorem i_Sh_init_25 : opAt m_Sh_init 25 = sAld 0 26 := rfl
theorem i_Sh_init_26 : opAt m_Sh_init 26 = sPush (.int (Int32.ofInt 4)) 27 := rfl
theorem i_Sh_init_27 : opAt m_Sh_init 27 = sNar 0 zI 29 := rfl
theorem i_Sh_init_29 : opAt m_Sh_init 29 = sPut [(7, 3)] (.array .int) 32 := rfl
theorem i_Sh_init_32 : opAt m_Sh_init 32 = sAld 0 33 := rfl
theorem i_Sh_init_33 : opAt m_Sh_init 33 = sPush (.int (Int32.ofInt 0)) 34 := rfl
theorem i_Sh_init_34 : opAt m_Sh_init 34 = sPut [(7, 4)] (.int) 37 := rfl
theorem i_Sh_init_37 : opAt m_Sh_init 37 = sPush (.int (Int32.ofInt 0)) 38 := rfl
theorem i_Sh_init_38 : opAt m_Sh_init 38 = sIst 1 39 := rfl
theorem i_Sh_init_39 : opAt m_Sh_init 39 = sIld 1 40 := rfl
theorem i_Sh_init_40 : opAt m_Sh_init 40 = sPush (.int (Int8.ofInt 6).toInt32) 42 := rfl
theorem i_Sh_init_42 : opAt m_Sh_init 42 = sCm .ge 64 45 := rfl
theorem i_Sh_init_45 : opAt m_Sh_init 45 = sAld 0 46 := rfl
theorem i_Sh_init_46 : opAt m_Sh_init 46 = sGet [(7, 0)] 49 := rfl
theorem i_Sh_init_49 : opAt m_Sh_init 49 = sIld 1 50 := rfl
theorem i_Sh_init_50 : opAt m_Sh_init 50 = sNew 5 [.int 0, .null, .null, .null, .null] 53 := rfl
theorem i_Sh_init_53 : opAt m_Sh_init 53 = sDup 54 := rfl
theorem i_Sh_init_54 : opAt m_Sh_init 54 = sSpe m_Pr_init 4 0 57 := rfl
theorem i_Sh_init_57 : opAt m_Sh_init 57 = sAas 58 := rfl
theorem i_Sh_init_58 : opAt m_Sh_init 58 = sInc 1 1 61 := rfl
theorem i_Sh_init_61 : opAt m_Sh_init 61 = sGo 39 := rfl
theorem i_Sh_init_64 : opAt m_Sh_init 64 = sVret := rfl
theorem i_Pr_init_0 : opAt m_Pr_init 0 = sAld 0 1 := rfl
theorem i_Pr_init_1 : opAt m_Pr_init 1 = sObj 4 := rfl
theorem i_Pr_init_4 : opAt m_Pr_init 4 = sAld 0 5 := rfl
theorem i_Pr_init_5 : opAt m_Pr_init 5 = sPush (.int (Int32.ofInt 0)) 6 := rfl
theorem i_Pr_init_6 : opAt m_Pr_init 6 = sPut [(5, 0)] (.int) 9 := rfl
theorem i_Pr_init_9 : opAt m_Pr_init 9 = sAld 0 10 := rfl
theorem i_Pr_init_10 : opAt m_Pr_init 10 = sPush (.int (Int8.ofInt 48).toInt32) 12 := rfl
theorem i_Pr_init_12 : opAt m_Pr_init 12 = sNar 0 zI 14 := rfl
theorem i_Pr_init_14 : opAt m_Pr_init 14 = sPut [(5, 1)] (.array .int) 17 := rfl
theorem i_Pr_init_17 : opAt m_Pr_init 17 = sAld 0 18 := rfl
theorem i_Pr_init_18 : opAt m_Pr_init 18 = sPush (.int (Int8.ofInt 48).toInt32) 20 := rfl
theorem i_Pr_init_20 : opAt m_Pr_init 20 = sNar 0 zI 22 := rfl
theorem i_Pr_init_22 : opAt m_Pr_init 22 = sPut [(5, 2)] (.array .int) 25 := rfl
theorem i_Pr_init_25 : opAt m_Pr_init 25 = sAld 0 26 := rfl
theorem i_Pr_init_26 : opAt m_Pr_init 26 = sPush (.int (Int8.ofInt 48).toInt32) 28 := rfl
theorem i_Pr_init_28 : opAt m_Pr_init 28 = sNar 0 zI 30 := rfl
theorem i_Pr_init_30 : opAt m_Pr_init 30 = sPut [(5, 3)] (.array .int) 33 := rfl
theorem i_Pr_init_33 : opAt m_Pr_init 33 = sAld 0 34 := rfl
theorem i_Pr_init_34 : opAt m_Pr_init 34 = sPush (.int (Int8.ofInt 48).toInt32) 36 := rfl
theorem i_Pr_init_36 : opAt m_Pr_init 36 = sNar 0 zI 38 := rfl
theorem i_Pr_init_38 : opAt m_Pr_init 38 = sPut [(5, 4)] (.array .int) 41 := rfl
theorem i_Pr_init_41 : opAt m_Pr_init 41 = sVret := rfl
theorem i_De_init_0 : opAt m_De_init 0 = sAld 0 1 := rfl
theorem i_De_init_1 : opAt m_De_init 1 = sObj 4 := rfl
theorem i_De_init_4 : opAt m_De_init 4 = sAld 0 5 := rfl
theorem i_De_init_5 : opAt m_De_init 5 = sPush (.int (Int8.ofInt 6).toInt32) 7 := rfl
theorem i_De_init_7 : opAt m_De_init 7 = sPush (.int (Int8.ofInt 7).toInt32) 9 := rfl
theorem i_De_init_9 : opAt m_De_init 9 = sMna 13 := rfl
theorem i_De_init_13 : opAt m_De_init 13 = sPut [(0, 0)] (.array (.array .int)) 16 := rfl
theorem i_De_init_16 : opAt m_De_init 16 = sAld 0 17 := rfl
theorem i_De_init_17 : opAt m_De_init 17 = sPush (.int (Int8.ofInt 7).toInt32) 19 := rfl
theorem i_De_init_19 : opAt m_De_init 19 = sNar 0 zI 21 := rfl
theorem i_De_init_21 : opAt m_De_init 21 = sPut [(0, 1)] (.array .int) 24 := rfl
theorem i_De_init_24 : opAt m_De_init 24 = sAld 0 25 := rfl
theorem i_De_init_25 : opAt m_De_init 25 = sPush (.int (Int8.ofInt 6).toInt32) 27 := rfl
theorem i_De_init_27 : opAt m_De_init 27 = sNar 0 zI 29 := rfl
theorem i_De_init_29 : opAt m_De_init 29 = sPut [(0, 2)] (.array .int) 32 := rfl
theorem i_De_init_32 : opAt m_De_init 32 = sAld 0 33 := rfl
theorem i_De_init_33 : opAt m_De_init 33 = sPush (.int (Int8.ofInt 6).toInt32) 35 := rfl
theorem i_De_init_35 : opAt m_De_init 35 = sNar 0 zI 37 := rfl
theorem i_De_init_37 : opAt m_De_init 37 = sPut [(0, 3)] (.array .int) 40 := rfl
theorem i_De_init_40 : opAt m_De_init 40 = sAld 0 41 := rfl
theorem i_De_init_41 : opAt m_De_init 41 = sPush (.int (Int32.ofInt 0)) 42 := rfl
theorem i_De_init_42 : opAt m_De_init 42 = sPut [(0, 4)] (.int) 45 := rfl
theorem i_De_init_45 : opAt m_De_init 45 = sAld 0 46 := rfl
theorem i_De_init_46 : opAt m_De_init 46 = sPush (.int (Int32.ofInt 0)) 47 := rfl
theorem i_De_init_47 : opAt m_De_init 47 = sPut [(0, 5)] (.int) 50 := rfl
theorem i_De_init_50 : opAt m_De_init 50 = sVret := rfl
theorem i_Jo_init_0 : opAt m_Jo_init 0 = sAld 0 1 := rfl
theorem i_Jo_init_1 : opAt m_Jo_init 1 = sObj 4 := rfl
theorem i_Jo_init_4 : opAt m_Jo_init 4 = sAld 0 5 := rfl
theorem i_Jo_init_5 : opAt m_Jo_init 5 = sPush (.int (Int8.ofInt 48).toInt32) 7 := rfl
theorem i_Jo_init_7 : opAt m_Jo_init 7 = sPush (.int (Int8.ofInt 6).toInt32) 9 := rfl
theorem i_Jo_init_9 : opAt m_Jo_init 9 = sMna 13 := rfl
theorem i_Jo_init_13 : opAt m_Jo_init 13 = sPut [(2, 0)] (.array (.array .int)) 16 := rfl
theorem i_Jo_init_16 : opAt m_Jo_init 16 = sAld 0 17 := rfl
theorem i_Jo_init_17 : opAt m_Jo_init 17 = sPush (.int (Int8.ofInt 48).toInt32) 19 := rfl
theorem i_Jo_init_19 : opAt m_Jo_init 19 = sNar 0 zI 21 := rfl
theorem i_Jo_init_21 : opAt m_Jo_init 21 = sPut [(2, 1)] (.array .int) 24 := rfl
theorem i_Jo_init_24 : opAt m_Jo_init 24 = sAld 0 25 := rfl
theorem i_Jo_init_25 : opAt m_Jo_init 25 = sPush (.int (Int32.ofInt 0)) 26 := rfl
theorem i_Jo_init_26 : opAt m_Jo_init 26 = sPut [(2, 2)] (.int) 29 := rfl
theorem i_Jo_init_29 : opAt m_Jo_init 29 = sAld 0 30 := rfl
theorem i_Jo_init_30 : opAt m_Jo_init 30 = sPush (.int (Int32.ofInt 0)) 31 := rfl
theorem i_Jo_init_31 : opAt m_Jo_init 31 = sPut [(2, 3)] (.int) 34 := rfl
theorem i_Jo_init_34 : opAt m_Jo_init 34 = sAld 0 35 := rfl
theorem i_Jo_init_35 : opAt m_Jo_init 35 = sPush (.int (Int32.ofInt 0)) 36 := rfl
theorem i_Jo_init_36 : opAt m_Jo_init 36 = sPut [(2, 4)] (.int) 39 := rfl
theorem i_Jo_init_39 : opAt m_Jo_init 39 = sVret := rfl
theorem i_Pa_isMachine_0 : opAt m_Pa_isMachine 0 = sAld 0 1 := rfl
theorem i_Pa_isMachine_1 : opAt m_Pa_isMachine 1 = sVir [(4, m_Pa_fitting)] 0 0 4 := rfl
theorem i_Pa_isMachine_4 : opAt m_Pa_isMachine 4 = sAld 0 5 := rfl
theorem i_Pa_isMachine_5 : opAt m_Pa_isMachine 5 = sGet [(4, 1)] 8 := rfl
theorem i_Pa_isMachine_8 : opAt m_Pa_isMachine 8 = sCm .ne 33 11 := rfl
theorem i_Pa_isMachine_11 : opAt m_Pa_isMachine 11 = sAld 0 12 := rfl
theorem i_Pa_isMachine_12 : opAt m_Pa_isMachine 12 = sGet [(4, 7)] 15 := rfl
theorem i_Pa_isMachine_15 : opAt m_Pa_isMachine 15 = sPush (.int (Int8.ofInt 7).toInt32) 17 := rfl
theorem i_Pa_isMachine_17 : opAt m_Pa_isMachine 17 = sCm .eq 29 20 := rfl
theorem i_Pa_isMachine_20 : opAt m_Pa_isMachine 20 = sAld 0 21 := rfl
theorem i_Pa_isMachine_21 : opAt m_Pa_isMachine 21 = sGet [(4, 7)] 24 := rfl
theorem i_Pa_isMachine_24 : opAt m_Pa_isMachine 24 = sPush (.int (Int8.ofInt 8).toInt32) 26 := rfl
theorem i_Pa_isMachine_26 : opAt m_Pa_isMachine 26 = sCm .ne 33 29 := rfl
theorem i_Pa_isMachine_29 : opAt m_Pa_isMachine 29 = sPush (.int (Int32.ofInt 1)) 30 := rfl
theorem i_Pa_isMachine_30 : opAt m_Pa_isMachine 30 = sGo 34 := rfl
theorem i_Pa_isMachine_33 : opAt m_Pa_isMachine 33 = sPush (.int (Int32.ofInt 0)) 34 := rfl
theorem i_Pa_isMachine_34 : opAt m_Pa_isMachine 34 = sIret .boolean := rfl
theorem i_Pa_fitting_0 : opAt m_Pa_fitting 0 = sAld 0 1 := rfl
theorem i_Pa_fitting_1 : opAt m_Pa_fitting 1 = sPush (.int (Int32.ofInt 0)) 2 := rfl
theorem i_Pa_fitting_2 : opAt m_Pa_fitting 2 = sPut [(4, 6)] (.int) 5 := rfl
theorem i_Pa_fitting_5 : opAt m_Pa_fitting 5 = sAld 0 6 := rfl
theorem i_Pa_fitting_6 : opAt m_Pa_fitting 6 = sPush (.int (Int32.ofInt 0)) 7 := rfl
theorem i_Pa_fitting_7 : opAt m_Pa_fitting 7 = sPut [(4, 7)] (.int) 10 := rfl
theorem i_Pa_fitting_10 : opAt m_Pa_fitting 10 = sPush (.int (Int32.ofInt 0)) 11 := rfl
theorem i_Pa_fitting_11 : opAt m_Pa_fitting 11 = sIst 1 12 := rfl
theorem i_Pa_fitting_12 : opAt m_Pa_fitting 12 = sIld 1 13 := rfl
theorem i_Pa_fitting_13 : opAt m_Pa_fitting 13 = sAld 0 14 := rfl
theorem i_Pa_fitting_14 : opAt m_Pa_fitting 14 = sGet [(4, 1)] 17 := rfl
theorem i_Pa_fitting_17 : opAt m_Pa_fitting 17 = sCm .ge 39 20 := rfl
theorem i_Pa_fitting_20 : opAt m_Pa_fitting 20 = sAld 0 21 := rfl
theorem i_Pa_fitting_21 : opAt m_Pa_fitting 21 = sAld 0 22 := rfl
theorem i_Pa_fitting_22 : opAt m_Pa_fitting 22 = sGet [(4, 0)] 25 := rfl
theorem i_Pa_fitting_25 : opAt m_Pa_fitting 25 = sIld 1 26 := rfl
theorem i_Pa_fitting_26 : opAt m_Pa_fitting 26 = sCal 27 := rfl
theorem i_Pa_fitting_27 : opAt m_Pa_fitting 27 = sVir [(4, m_Pa_take)] 0 1 30 := rfl
theorem i_Pa_fitting_30 : opAt m_Pa_fitting 30 = sIf .eq 39 33 := rfl
theorem i_Pa_fitting_33 : opAt m_Pa_fitting 33 = sInc 1 1 36 := rfl
theorem i_Pa_fitting_36 : opAt m_Pa_fitting 36 = sGo 12 := rfl
theorem i_Pa_fitting_39 : opAt m_Pa_fitting 39 = sIld 1 40 := rfl
theorem i_Pa_fitting_40 : opAt m_Pa_fitting 40 = sIret .int := rfl
theorem i_Pa_take_0 : opAt m_Pa_take 0 = sAld 0 1 := rfl
theorem i_Pa_take_1 : opAt m_Pa_take 1 = sGet [(4, 7)] 4 := rfl
theorem i_Pa_take_4 : opAt m_Pa_take 4 = sSw [(0, 52), (1, 58), (2, 64), (3, 73), (4, 79), (5, 85), (6, 95), (7, 101)] 123 := rfl
theorem i_Pa_take_52 : opAt m_Pa_take 52 = sAld 0 53 := rfl
theorem i_Pa_take_53 : opAt m_Pa_take 53 = sIld 1 54 := rfl
theorem i_Pa_take_54 : opAt m_Pa_take 54 = sVir [(4, m_Pa_takeKind)] 0 1 57 := rfl
theorem i_Pa_take_57 : opAt m_Pa_take 57 = sIret .boolean := rfl
theorem i_Pa_take_58 : opAt m_Pa_take 58 = sAld 0 59 := rfl
theorem i_Pa_take_59 : opAt m_Pa_take 59 = sIld 1 60 := rfl
theorem i_Pa_take_60 : opAt m_Pa_take 60 = sVir [(4, m_Pa_takeSide)] 0 1 63 := rfl
theorem i_Pa_take_63 : opAt m_Pa_take 63 = sIret .boolean := rfl
theorem i_Pa_take_64 : opAt m_Pa_take 64 = sAld 0 65 := rfl
theorem i_Pa_take_65 : opAt m_Pa_take 65 = sIld 1 66 := rfl
theorem i_Pa_take_66 : opAt m_Pa_take 66 = sPush (.int (Int8.ofInt 111).toInt32) 68 := rfl
theorem i_Pa_take_68 : opAt m_Pa_take 68 = sPush (.int (Int32.ofInt 3)) 69 := rfl
theorem i_Pa_take_69 : opAt m_Pa_take 69 = sVir [(4, m_Pa_takeSign)] 0 3 72 := rfl
theorem i_Pa_take_72 : opAt m_Pa_take 72 = sIret .boolean := rfl
theorem i_Pa_take_73 : opAt m_Pa_take 73 = sAld 0 74 := rfl
theorem i_Pa_take_74 : opAt m_Pa_take 74 = sIld 1 75 := rfl
theorem i_Pa_take_75 : opAt m_Pa_take 75 = sVir [(4, m_Pa_takeTurn)] 0 1 78 := rfl
theorem i_Pa_take_78 : opAt m_Pa_take 78 = sIret .boolean := rfl
theorem i_Pa_take_79 : opAt m_Pa_take 79 = sAld 0 80 := rfl
theorem i_Pa_take_80 : opAt m_Pa_take 80 = sIld 1 81 := rfl
theorem i_Pa_take_81 : opAt m_Pa_take 81 = sVir [(4, m_Pa_takeRestOfTurn)] 0 1 84 := rfl
theorem i_Pa_take_84 : opAt m_Pa_take 84 = sIret .boolean := rfl
theorem i_Pa_take_85 : opAt m_Pa_take 85 = sAld 0 86 := rfl
theorem i_Pa_take_86 : opAt m_Pa_take 86 = sIld 1 87 := rfl
theorem i_Pa_take_87 : opAt m_Pa_take 87 = sPush (.int (Int8.ofInt 112).toInt32) 89 := rfl
theorem i_Pa_take_89 : opAt m_Pa_take 89 = sPush (.int (Int8.ofInt 6).toInt32) 91 := rfl
theorem i_Pa_take_91 : opAt m_Pa_take 91 = sVir [(4, m_Pa_takeSign)] 0 3 94 := rfl
theorem i_Pa_take_94 : opAt m_Pa_take 94 = sIret .boolean := rfl
theorem i_Pa_take_95 : opAt m_Pa_take 95 = sAld 0 96 := rfl
theorem i_Pa_take_96 : opAt m_Pa_take 96 = sIld 1 97 := rfl
theorem i_Pa_take_97 : opAt m_Pa_take 97 = sVir [(4, m_Pa_takeShift)] 0 1 100 := rfl
theorem i_Pa_take_100 : opAt m_Pa_take 100 = sIret .boolean := rfl
theorem i_Pa_take_101 : opAt m_Pa_take 101 = sAld 0 102 := rfl
theorem i_Pa_take_102 : opAt m_Pa_take 102 = sIld 1 103 := rfl
theorem i_Pa_take_103 : opAt m_Pa_take 103 = sVir [(4, m_Pa_takeRestOfShift)] 0 1 106 := rfl
theorem i_Pa_take_106 : opAt m_Pa_take 106 = sIf .ne 117 109 := rfl
theorem i_Pa_take_109 : opAt m_Pa_take 109 = sAld 0 110 := rfl
theorem i_Pa_take_110 : opAt m_Pa_take 110 = sIld 1 111 := rfl
theorem i_Pa_take_111 : opAt m_Pa_take 111 = sVir [(4, m_Pa_takeComma)] 0 1 114 := rfl
theorem i_Pa_take_114 : opAt m_Pa_take 114 = sIf .eq 121 117 := rfl
theorem i_Pa_take_117 : opAt m_Pa_take 117 = sPush (.int (Int32.ofInt 1)) 118 := rfl
theorem i_Pa_take_118 : opAt m_Pa_take 118 = sGo 122 := rfl
theorem i_Pa_take_121 : opAt m_Pa_take 121 = sPush (.int (Int32.ofInt 0)) 122 := rfl
theorem i_Pa_take_122 : opAt m_Pa_take 122 = sIret .boolean := rfl
theorem i_Pa_take_123 : opAt m_Pa_take 123 = sAld 0 124 := rfl
theorem i_Pa_take_124 : opAt m_Pa_take 124 = sIld 1 125 := rfl
theorem i_Pa_take_125 : opAt m_Pa_take 125 = sVir [(4, m_Pa_takeComma)] 0 1 128 := rfl
theorem i_Pa_take_128 : opAt m_Pa_take 128 = sIret .boolean := rfl
theorem i_Pa_takeKind_0 : opAt m_Pa_takeKind 0 = sIld 1 1 := rfl
theorem i_Pa_takeKind_1 : opAt m_Pa_takeKind 1 = sSta m_Pa_kindOf 0 1 4 := rfl
theorem i_Pa_takeKind_4 : opAt m_Pa_takeKind 4 = sIst 2 5 := rfl
theorem i_Pa_takeKind_5 : opAt m_Pa_takeKind 5 = sAld 0 6 := rfl
theorem i_Pa_takeKind_6 : opAt m_Pa_takeKind 6 = sGet [(4, 2)] 9 := rfl
theorem i_Pa_takeKind_9 : opAt m_Pa_takeKind 9 = sAld 0 10 := rfl
theorem i_Pa_takeKind_10 : opAt m_Pa_takeKind 10 = sGet [(4, 6)] 13 := rfl
theorem i_Pa_takeKind_13 : opAt m_Pa_takeKind 13 = sIld 2 14 := rfl
theorem i_Pa_takeKind_14 : opAt m_Pa_takeKind 14 = sIas 15 := rfl
theorem i_Pa_takeKind_15 : opAt m_Pa_takeKind 15 = sAld 0 16 := rfl
theorem i_Pa_takeKind_16 : opAt m_Pa_takeKind 16 = sPush (.int (Int32.ofInt 1)) 17 := rfl
theorem i_Pa_takeKind_17 : opAt m_Pa_takeKind 17 = sPut [(4, 7)] (.int) 20 := rfl
theorem i_Pa_takeKind_20 : opAt m_Pa_takeKind 20 = sIld 2 21 := rfl
theorem i_Pa_takeKind_21 : opAt m_Pa_takeKind 21 = sPush (.int (Int32.ofInt (-1))) 22 := rfl
theorem i_Pa_takeKind_22 : opAt m_Pa_takeKind 22 = sCm .eq 29 25 := rfl
theorem i_Pa_takeKind_25 : opAt m_Pa_takeKind 25 = sPush (.int (Int32.ofInt 1)) 26 := rfl
theorem i_Pa_takeKind_26 : opAt m_Pa_takeKind 26 = sGo 30 := rfl
theorem i_Pa_takeKind_29 : opAt m_Pa_takeKind 29 = sPush (.int (Int32.ofInt 0)) 30 := rfl
theorem i_Pa_takeKind_30 : opAt m_Pa_takeKind 30 = sIret .boolean := rfl
theorem i_Pa_kindOf_0 : opAt m_Pa_kindOf 0 = sIld 0 1 := rfl
theorem i_Pa_kindOf_1 : opAt m_Pa_kindOf 1 = sSw [(103, 44), (114, 46), (116, 48), (119, 50)] 52 := rfl
theorem i_Pa_kindOf_44 : opAt m_Pa_kindOf 44 = sPush (.int (Int32.ofInt 1)) 45 := rfl
theorem i_Pa_kindOf_45 : opAt m_Pa_kindOf 45 = sIret .int := rfl
theorem i_Pa_kindOf_46 : opAt m_Pa_kindOf 46 = sPush (.int (Int32.ofInt 2)) 47 := rfl
theorem i_Pa_kindOf_47 : opAt m_Pa_kindOf 47 = sIret .int := rfl
theorem i_Pa_kindOf_48 : opAt m_Pa_kindOf 48 = sPush (.int (Int32.ofInt 3)) 49 := rfl
theorem i_Pa_kindOf_49 : opAt m_Pa_kindOf 49 = sIret .int := rfl
theorem i_Pa_kindOf_50 : opAt m_Pa_kindOf 50 = sPush (.int (Int32.ofInt 4)) 51 := rfl
theorem i_Pa_kindOf_51 : opAt m_Pa_kindOf 51 = sIret .int := rfl
theorem i_Pa_kindOf_52 : opAt m_Pa_kindOf 52 = sPush (.int (Int32.ofInt (-1))) 53 := rfl
theorem i_Pa_kindOf_53 : opAt m_Pa_kindOf 53 = sIret .int := rfl
theorem i_Pa_takeSide_0 : opAt m_Pa_takeSide 0 = sIld 1 1 := rfl
theorem i_Pa_takeSide_1 : opAt m_Pa_takeSide 1 = sSta m_Pa_digitOf 0 1 4 := rfl
theorem i_Pa_takeSide_4 : opAt m_Pa_takeSide 4 = sIst 2 5 := rfl
theorem i_Pa_takeSide_5 : opAt m_Pa_takeSide 5 = sAld 0 6 := rfl
theorem i_Pa_takeSide_6 : opAt m_Pa_takeSide 6 = sGet [(4, 3)] 9 := rfl
theorem i_Pa_takeSide_9 : opAt m_Pa_takeSide 9 = sAld 0 10 := rfl
theorem i_Pa_takeSide_10 : opAt m_Pa_takeSide 10 = sGet [(4, 6)] 13 := rfl
theorem i_Pa_takeSide_13 : opAt m_Pa_takeSide 13 = sIld 2 14 := rfl
theorem i_Pa_takeSide_14 : opAt m_Pa_takeSide 14 = sIas 15 := rfl
theorem i_Pa_takeSide_15 : opAt m_Pa_takeSide 15 = sAld 0 16 := rfl
theorem i_Pa_takeSide_16 : opAt m_Pa_takeSide 16 = sAld 0 17 := rfl
theorem i_Pa_takeSide_17 : opAt m_Pa_takeSide 17 = sGet [(4, 2)] 20 := rfl
theorem i_Pa_takeSide_20 : opAt m_Pa_takeSide 20 = sAld 0 21 := rfl
theorem i_Pa_takeSide_21 : opAt m_Pa_takeSide 21 = sGet [(4, 6)] 24 := rfl
theorem i_Pa_takeSide_24 : opAt m_Pa_takeSide 24 = sIal 25 := rfl
theorem i_Pa_takeSide_25 : opAt m_Pa_takeSide 25 = sPush (.int (Int32.ofInt 1)) 26 := rfl
theorem i_Pa_takeSide_26 : opAt m_Pa_takeSide 26 = sCm .ne 34 29 := rfl
theorem i_Pa_takeSide_29 : opAt m_Pa_takeSide 29 = sPush (.int (Int8.ofInt 8).toInt32) 31 := rfl
theorem i_Pa_takeSide_31 : opAt m_Pa_takeSide 31 = sGo 35 := rfl
theorem i_Pa_takeSide_34 : opAt m_Pa_takeSide 34 = sPush (.int (Int32.ofInt 2)) 35 := rfl
theorem i_Pa_takeSide_35 : opAt m_Pa_takeSide 35 = sPut [(4, 7)] (.int) 38 := rfl
theorem i_Pa_takeSide_38 : opAt m_Pa_takeSide 38 = sIld 2 39 := rfl
theorem i_Pa_takeSide_39 : opAt m_Pa_takeSide 39 = sSta m_Fi_isSide 0 1 42 := rfl
theorem i_Pa_takeSide_42 : opAt m_Pa_takeSide 42 = sIret .boolean := rfl
theorem i_Pa_digitOf_0 : opAt m_Pa_digitOf 0 = sIld 0 1 := rfl
theorem i_Pa_digitOf_1 : opAt m_Pa_digitOf 1 = sPush (.int (Int8.ofInt 48).toInt32) 3 := rfl
theorem i_Pa_digitOf_3 : opAt m_Pa_digitOf 3 = sCm .lt 19 6 := rfl
theorem i_Pa_digitOf_6 : opAt m_Pa_digitOf 6 = sIld 0 7 := rfl
theorem i_Pa_digitOf_7 : opAt m_Pa_digitOf 7 = sPush (.int (Int8.ofInt 57).toInt32) 9 := rfl
theorem i_Pa_digitOf_9 : opAt m_Pa_digitOf 9 = sCm .gt 19 12 := rfl
theorem i_Pa_digitOf_12 : opAt m_Pa_digitOf 12 = sIld 0 13 := rfl
theorem i_Pa_digitOf_13 : opAt m_Pa_digitOf 13 = sPush (.int (Int8.ofInt 48).toInt32) 15 := rfl
theorem i_Pa_digitOf_15 : opAt m_Pa_digitOf 15 = sBI (fun x y => x - y) 16 := rfl
theorem i_Pa_digitOf_16 : opAt m_Pa_digitOf 16 = sGo 20 := rfl
theorem i_Pa_digitOf_19 : opAt m_Pa_digitOf 19 = sPush (.int (Int32.ofInt (-1))) 20 := rfl
theorem i_Pa_digitOf_20 : opAt m_Pa_digitOf 20 = sIret .int := rfl
theorem i_Pa_takeSign_0 : opAt m_Pa_takeSign 0 = sAld 0 1 := rfl
theorem i_Pa_takeSign_1 : opAt m_Pa_takeSign 1 = sIld 3 2 := rfl
theorem i_Pa_takeSign_2 : opAt m_Pa_takeSign 2 = sPut [(4, 7)] (.int) 5 := rfl
theorem i_Pa_takeSign_5 : opAt m_Pa_takeSign 5 = sIld 1 6 := rfl
theorem i_Pa_takeSign_6 : opAt m_Pa_takeSign 6 = sIld 2 7 := rfl
theorem i_Pa_takeSign_7 : opAt m_Pa_takeSign 7 = sCm .ne 14 10 := rfl
theorem i_Pa_takeSign_10 : opAt m_Pa_takeSign 10 = sPush (.int (Int32.ofInt 1)) 11 := rfl
theorem i_Pa_takeSign_11 : opAt m_Pa_takeSign 11 = sGo 15 := rfl
theorem i_Pa_takeSign_14 : opAt m_Pa_takeSign 14 = sPush (.int (Int32.ofInt 0)) 15 := rfl
theorem i_Pa_takeSign_15 : opAt m_Pa_takeSign 15 = sIret .boolean := rfl
theorem i_Pa_takeTurn_0 : opAt m_Pa_takeTurn 0 = sIld 1 1 := rfl
theorem i_Pa_takeTurn_1 : opAt m_Pa_takeTurn 1 = sSta m_Pa_digitOf 0 1 4 := rfl
theorem i_Pa_takeTurn_4 : opAt m_Pa_takeTurn 4 = sIst 2 5 := rfl
theorem i_Pa_takeTurn_5 : opAt m_Pa_takeTurn 5 = sAld 0 6 := rfl
theorem i_Pa_takeTurn_6 : opAt m_Pa_takeTurn 6 = sGet [(4, 4)] 9 := rfl
theorem i_Pa_takeTurn_9 : opAt m_Pa_takeTurn 9 = sAld 0 10 := rfl
theorem i_Pa_takeTurn_10 : opAt m_Pa_takeTurn 10 = sGet [(4, 6)] 13 := rfl
theorem i_Pa_takeTurn_13 : opAt m_Pa_takeTurn 13 = sIld 2 14 := rfl
theorem i_Pa_takeTurn_14 : opAt m_Pa_takeTurn 14 = sIas 15 := rfl
theorem i_Pa_takeTurn_15 : opAt m_Pa_takeTurn 15 = sAld 0 16 := rfl
theorem i_Pa_takeTurn_16 : opAt m_Pa_takeTurn 16 = sIld 2 17 := rfl
theorem i_Pa_takeTurn_17 : opAt m_Pa_takeTurn 17 = sPush (.int (Int32.ofInt 1)) 18 := rfl
theorem i_Pa_takeTurn_18 : opAt m_Pa_takeTurn 18 = sCm .ne 25 21 := rfl
theorem i_Pa_takeTurn_21 : opAt m_Pa_takeTurn 21 = sPush (.int (Int32.ofInt 4)) 22 := rfl
theorem i_Pa_takeTurn_22 : opAt m_Pa_takeTurn 22 = sGo 26 := rfl
theorem i_Pa_takeTurn_25 : opAt m_Pa_takeTurn 25 = sPush (.int (Int32.ofInt 5)) 26 := rfl
theorem i_Pa_takeTurn_26 : opAt m_Pa_takeTurn 26 = sPut [(4, 7)] (.int) 29 := rfl
theorem i_Pa_takeTurn_29 : opAt m_Pa_takeTurn 29 = sIld 2 30 := rfl
theorem i_Pa_takeTurn_30 : opAt m_Pa_takeTurn 30 = sIf .le 37 33 := rfl
theorem i_Pa_takeTurn_33 : opAt m_Pa_takeTurn 33 = sPush (.int (Int32.ofInt 1)) 34 := rfl
theorem i_Pa_takeTurn_34 : opAt m_Pa_takeTurn 34 = sGo 38 := rfl
theorem i_Pa_takeTurn_37 : opAt m_Pa_takeTurn 37 = sPush (.int (Int32.ofInt 0)) 38 := rfl
theorem i_Pa_takeTurn_38 : opAt m_Pa_takeTurn 38 = sIret .boolean := rfl
theorem i_Pa_takeRestOfTurn_0 : opAt m_Pa_takeRestOfTurn 0 = sIld 1 1 := rfl
theorem i_Pa_takeRestOfTurn_1 : opAt m_Pa_takeRestOfTurn 1 = sSta m_Pa_digitOf 0 1 4 := rfl
theorem i_Pa_takeRestOfTurn_4 : opAt m_Pa_takeRestOfTurn 4 = sIst 2 5 := rfl
theorem i_Pa_takeRestOfTurn_5 : opAt m_Pa_takeRestOfTurn 5 = sIld 2 6 := rfl
theorem i_Pa_takeRestOfTurn_6 : opAt m_Pa_takeRestOfTurn 6 = sPush (.int (Int32.ofInt (-1))) 7 := rfl
theorem i_Pa_takeRestOfTurn_7 : opAt m_Pa_takeRestOfTurn 7 = sCm .ne 41 10 := rfl
theorem i_Pa_takeRestOfTurn_10 : opAt m_Pa_takeRestOfTurn 10 = sAld 0 11 := rfl
theorem i_Pa_takeRestOfTurn_11 : opAt m_Pa_takeRestOfTurn 11 = sGet [(4, 2)] 14 := rfl
theorem i_Pa_takeRestOfTurn_14 : opAt m_Pa_takeRestOfTurn 14 = sAld 0 15 := rfl
theorem i_Pa_takeRestOfTurn_15 : opAt m_Pa_takeRestOfTurn 15 = sGet [(4, 6)] 18 := rfl
theorem i_Pa_takeRestOfTurn_18 : opAt m_Pa_takeRestOfTurn 18 = sIal 19 := rfl
theorem i_Pa_takeRestOfTurn_19 : opAt m_Pa_takeRestOfTurn 19 = sPush (.int (Int32.ofInt 4)) 20 := rfl
theorem i_Pa_takeRestOfTurn_20 : opAt m_Pa_takeRestOfTurn 20 = sCm .ne 39 23 := rfl
theorem i_Pa_takeRestOfTurn_23 : opAt m_Pa_takeRestOfTurn 23 = sAld 0 24 := rfl
theorem i_Pa_takeRestOfTurn_24 : opAt m_Pa_takeRestOfTurn 24 = sIld 1 25 := rfl
theorem i_Pa_takeRestOfTurn_25 : opAt m_Pa_takeRestOfTurn 25 = sPush (.int (Int8.ofInt 112).toInt32) 27 := rfl
theorem i_Pa_takeRestOfTurn_27 : opAt m_Pa_takeRestOfTurn 27 = sPush (.int (Int8.ofInt 6).toInt32) 29 := rfl
theorem i_Pa_takeRestOfTurn_29 : opAt m_Pa_takeRestOfTurn 29 = sVir [(4, m_Pa_takeSign)] 0 3 32 := rfl
theorem i_Pa_takeRestOfTurn_32 : opAt m_Pa_takeRestOfTurn 32 = sIf .eq 39 35 := rfl
theorem i_Pa_takeRestOfTurn_35 : opAt m_Pa_takeRestOfTurn 35 = sPush (.int (Int32.ofInt 1)) 36 := rfl
theorem i_Pa_takeRestOfTurn_36 : opAt m_Pa_takeRestOfTurn 36 = sGo 40 := rfl
theorem i_Pa_takeRestOfTurn_39 : opAt m_Pa_takeRestOfTurn 39 = sPush (.int (Int32.ofInt 0)) 40 := rfl
theorem i_Pa_takeRestOfTurn_40 : opAt m_Pa_takeRestOfTurn 40 = sIret .boolean := rfl
theorem i_Pa_takeRestOfTurn_41 : opAt m_Pa_takeRestOfTurn 41 = sAld 0 42 := rfl
theorem i_Pa_takeRestOfTurn_42 : opAt m_Pa_takeRestOfTurn 42 = sGet [(4, 4)] 45 := rfl
theorem i_Pa_takeRestOfTurn_45 : opAt m_Pa_takeRestOfTurn 45 = sAld 0 46 := rfl
theorem i_Pa_takeRestOfTurn_46 : opAt m_Pa_takeRestOfTurn 46 = sGet [(4, 6)] 49 := rfl
theorem i_Pa_takeRestOfTurn_49 : opAt m_Pa_takeRestOfTurn 49 = sPush (.int (Int8.ofInt 10).toInt32) 51 := rfl
theorem i_Pa_takeRestOfTurn_51 : opAt m_Pa_takeRestOfTurn 51 = sIld 2 52 := rfl
theorem i_Pa_takeRestOfTurn_52 : opAt m_Pa_takeRestOfTurn 52 = sBI (fun x y => x + y) 53 := rfl
theorem i_Pa_takeRestOfTurn_53 : opAt m_Pa_takeRestOfTurn 53 = sIas 54 := rfl
theorem i_Pa_takeRestOfTurn_54 : opAt m_Pa_takeRestOfTurn 54 = sAld 0 55 := rfl
theorem i_Pa_takeRestOfTurn_55 : opAt m_Pa_takeRestOfTurn 55 = sPush (.int (Int32.ofInt 5)) 56 := rfl
theorem i_Pa_takeRestOfTurn_56 : opAt m_Pa_takeRestOfTurn 56 = sPut [(4, 7)] (.int) 59 := rfl
theorem i_Pa_takeRestOfTurn_59 : opAt m_Pa_takeRestOfTurn 59 = sPush (.int (Int32.ofInt 1)) 60 := rfl
theorem i_Pa_takeRestOfTurn_60 : opAt m_Pa_takeRestOfTurn 60 = sIret .boolean := rfl
theorem i_Pa_takeShift_0 : opAt m_Pa_takeShift 0 = sIld 1 1 := rfl
theorem i_Pa_takeShift_1 : opAt m_Pa_takeShift 1 = sSta m_Pa_digitOf 0 1 4 := rfl
theorem i_Pa_takeShift_4 : opAt m_Pa_takeShift 4 = sIst 2 5 := rfl
theorem i_Pa_takeShift_5 : opAt m_Pa_takeShift 5 = sAld 0 6 := rfl
theorem i_Pa_takeShift_6 : opAt m_Pa_takeShift 6 = sGet [(4, 5)] 9 := rfl
theorem i_Pa_takeShift_9 : opAt m_Pa_takeShift 9 = sAld 0 10 := rfl
theorem i_Pa_takeShift_10 : opAt m_Pa_takeShift 10 = sGet [(4, 6)] 13 := rfl
theorem i_Pa_takeShift_13 : opAt m_Pa_takeShift 13 = sIld 2 14 := rfl
theorem i_Pa_takeShift_14 : opAt m_Pa_takeShift 14 = sIas 15 := rfl
theorem i_Pa_takeShift_15 : opAt m_Pa_takeShift 15 = sAld 0 16 := rfl
theorem i_Pa_takeShift_16 : opAt m_Pa_takeShift 16 = sIld 2 17 := rfl
theorem i_Pa_takeShift_17 : opAt m_Pa_takeShift 17 = sPush (.int (Int32.ofInt 1)) 18 := rfl
theorem i_Pa_takeShift_18 : opAt m_Pa_takeShift 18 = sCm .ne 35 21 := rfl
theorem i_Pa_takeShift_21 : opAt m_Pa_takeShift 21 = sAld 0 22 := rfl
theorem i_Pa_takeShift_22 : opAt m_Pa_takeShift 22 = sVir [(4, m_Pa_mostShift)] 0 0 25 := rfl
theorem i_Pa_takeShift_25 : opAt m_Pa_takeShift 25 = sPush (.int (Int8.ofInt 10).toInt32) 27 := rfl
theorem i_Pa_takeShift_27 : opAt m_Pa_takeShift 27 = sCm .lt 35 30 := rfl
theorem i_Pa_takeShift_30 : opAt m_Pa_takeShift 30 = sPush (.int (Int8.ofInt 7).toInt32) 32 := rfl
theorem i_Pa_takeShift_32 : opAt m_Pa_takeShift 32 = sGo 37 := rfl
theorem i_Pa_takeShift_35 : opAt m_Pa_takeShift 35 = sPush (.int (Int8.ofInt 8).toInt32) 37 := rfl
theorem i_Pa_takeShift_37 : opAt m_Pa_takeShift 37 = sPut [(4, 7)] (.int) 40 := rfl
theorem i_Pa_takeShift_40 : opAt m_Pa_takeShift 40 = sIld 2 41 := rfl
theorem i_Pa_takeShift_41 : opAt m_Pa_takeShift 41 = sPush (.int (Int32.ofInt (-1))) 42 := rfl
theorem i_Pa_takeShift_42 : opAt m_Pa_takeShift 42 = sCm .eq 57 45 := rfl
theorem i_Pa_takeShift_45 : opAt m_Pa_takeShift 45 = sIld 2 46 := rfl
theorem i_Pa_takeShift_46 : opAt m_Pa_takeShift 46 = sAld 0 47 := rfl
theorem i_Pa_takeShift_47 : opAt m_Pa_takeShift 47 = sVir [(4, m_Pa_mostShift)] 0 0 50 := rfl
theorem i_Pa_takeShift_50 : opAt m_Pa_takeShift 50 = sCm .gt 57 53 := rfl
theorem i_Pa_takeShift_53 : opAt m_Pa_takeShift 53 = sPush (.int (Int32.ofInt 1)) 54 := rfl
theorem i_Pa_takeShift_54 : opAt m_Pa_takeShift 54 = sGo 58 := rfl
theorem i_Pa_takeShift_57 : opAt m_Pa_takeShift 57 = sPush (.int (Int32.ofInt 0)) 58 := rfl
theorem i_Pa_takeShift_58 : opAt m_Pa_takeShift 58 = sIret .boolean := rfl
theorem i_Pa_mostShift_0 : opAt m_Pa_mostShift 0 = sAld 0 1 := rfl
theorem i_Pa_mostShift_1 : opAt m_Pa_mostShift 1 = sGet [(4, 2)] 4 := rfl
theorem i_Pa_mostShift_4 : opAt m_Pa_mostShift 4 = sAld 0 5 := rfl
theorem i_Pa_mostShift_5 : opAt m_Pa_mostShift 5 = sGet [(4, 6)] 8 := rfl
theorem i_Pa_mostShift_8 : opAt m_Pa_mostShift 8 = sIal 9 := rfl
theorem i_Pa_mostShift_9 : opAt m_Pa_mostShift 9 = sPush (.int (Int32.ofInt 4)) 10 := rfl
theorem i_Pa_mostShift_10 : opAt m_Pa_mostShift 10 = sCm .ne 18 13 := rfl
theorem i_Pa_mostShift_13 : opAt m_Pa_mostShift 13 = sPush (.int (Int8.ofInt 9).toInt32) 15 := rfl
theorem i_Pa_mostShift_15 : opAt m_Pa_mostShift 15 = sGo 29 := rfl
theorem i_Pa_mostShift_18 : opAt m_Pa_mostShift 18 = sAld 0 19 := rfl
theorem i_Pa_mostShift_19 : opAt m_Pa_mostShift 19 = sGet [(4, 4)] 22 := rfl
theorem i_Pa_mostShift_22 : opAt m_Pa_mostShift 22 = sAld 0 23 := rfl
theorem i_Pa_mostShift_23 : opAt m_Pa_mostShift 23 = sGet [(4, 6)] 26 := rfl
theorem i_Pa_mostShift_26 : opAt m_Pa_mostShift 26 = sIal 27 := rfl
theorem i_Pa_mostShift_27 : opAt m_Pa_mostShift 27 = sPush (.int (Int32.ofInt 1)) 28 := rfl
theorem i_Pa_mostShift_28 : opAt m_Pa_mostShift 28 = sBI (fun x y => x - y) 29 := rfl
theorem i_Pa_mostShift_29 : opAt m_Pa_mostShift 29 = sIret .int := rfl
theorem i_Pa_takeRestOfShift_0 : opAt m_Pa_takeRestOfShift 0 = sIld 1 1 := rfl
theorem i_Pa_takeRestOfShift_1 : opAt m_Pa_takeRestOfShift 1 = sSta m_Pa_digitOf 0 1 4 := rfl
theorem i_Pa_takeRestOfShift_4 : opAt m_Pa_takeRestOfShift 4 = sIst 2 5 := rfl
theorem i_Pa_takeRestOfShift_5 : opAt m_Pa_takeRestOfShift 5 = sIld 2 6 := rfl
theorem i_Pa_takeRestOfShift_6 : opAt m_Pa_takeRestOfShift 6 = sPush (.int (Int32.ofInt (-1))) 7 := rfl
theorem i_Pa_takeRestOfShift_7 : opAt m_Pa_takeRestOfShift 7 = sCm .eq 21 10 := rfl
theorem i_Pa_takeRestOfShift_10 : opAt m_Pa_takeRestOfShift 10 = sPush (.int (Int8.ofInt 10).toInt32) 12 := rfl
theorem i_Pa_takeRestOfShift_12 : opAt m_Pa_takeRestOfShift 12 = sIld 2 13 := rfl
theorem i_Pa_takeRestOfShift_13 : opAt m_Pa_takeRestOfShift 13 = sBI (fun x y => x + y) 14 := rfl
theorem i_Pa_takeRestOfShift_14 : opAt m_Pa_takeRestOfShift 14 = sAld 0 15 := rfl
theorem i_Pa_takeRestOfShift_15 : opAt m_Pa_takeRestOfShift 15 = sVir [(4, m_Pa_mostShift)] 0 0 18 := rfl
theorem i_Pa_takeRestOfShift_18 : opAt m_Pa_takeRestOfShift 18 = sCm .le 23 21 := rfl
theorem i_Pa_takeRestOfShift_21 : opAt m_Pa_takeRestOfShift 21 = sPush (.int (Int32.ofInt 0)) 22 := rfl
theorem i_Pa_takeRestOfShift_22 : opAt m_Pa_takeRestOfShift 22 = sIret .boolean := rfl
theorem i_Pa_takeRestOfShift_23 : opAt m_Pa_takeRestOfShift 23 = sAld 0 24 := rfl
theorem i_Pa_takeRestOfShift_24 : opAt m_Pa_takeRestOfShift 24 = sGet [(4, 5)] 27 := rfl
theorem i_Pa_takeRestOfShift_27 : opAt m_Pa_takeRestOfShift 27 = sAld 0 28 := rfl
theorem i_Pa_takeRestOfShift_28 : opAt m_Pa_takeRestOfShift 28 = sGet [(4, 6)] 31 := rfl
theorem i_Pa_takeRestOfShift_31 : opAt m_Pa_takeRestOfShift 31 = sPush (.int (Int8.ofInt 10).toInt32) 33 := rfl
theorem i_Pa_takeRestOfShift_33 : opAt m_Pa_takeRestOfShift 33 = sIld 2 34 := rfl
theorem i_Pa_takeRestOfShift_34 : opAt m_Pa_takeRestOfShift 34 = sBI (fun x y => x + y) 35 := rfl
theorem i_Pa_takeRestOfShift_35 : opAt m_Pa_takeRestOfShift 35 = sIas 36 := rfl
theorem i_Pa_takeRestOfShift_36 : opAt m_Pa_takeRestOfShift 36 = sAld 0 37 := rfl
theorem i_Pa_takeRestOfShift_37 : opAt m_Pa_takeRestOfShift 37 = sPush (.int (Int8.ofInt 8).toInt32) 39 := rfl
theorem i_Pa_takeRestOfShift_39 : opAt m_Pa_takeRestOfShift 39 = sPut [(4, 7)] (.int) 42 := rfl
theorem i_Pa_takeRestOfShift_42 : opAt m_Pa_takeRestOfShift 42 = sPush (.int (Int32.ofInt 1)) 43 := rfl
theorem i_Pa_takeRestOfShift_43 : opAt m_Pa_takeRestOfShift 43 = sIret .boolean := rfl
theorem i_Pa_takeComma_0 : opAt m_Pa_takeComma 0 = sIld 1 1 := rfl
theorem i_Pa_takeComma_1 : opAt m_Pa_takeComma 1 = sPush (.int (Int8.ofInt 44).toInt32) 3 := rfl
theorem i_Pa_takeComma_3 : opAt m_Pa_takeComma 3 = sCm .ne 16 6 := rfl
theorem i_Pa_takeComma_6 : opAt m_Pa_takeComma 6 = sAld 0 7 := rfl
theorem i_Pa_takeComma_7 : opAt m_Pa_takeComma 7 = sGet [(4, 6)] 10 := rfl
theorem i_Pa_takeComma_10 : opAt m_Pa_takeComma 10 = sPush (.int (Int32.ofInt 1)) 11 := rfl
theorem i_Pa_takeComma_11 : opAt m_Pa_takeComma 11 = sBI (fun x y => x + y) 12 := rfl
theorem i_Pa_takeComma_12 : opAt m_Pa_takeComma 12 = sPush (.int (Int32.ofInt 4)) 13 := rfl
theorem i_Pa_takeComma_13 : opAt m_Pa_takeComma 13 = sCm .lt 18 16 := rfl
theorem i_Pa_takeComma_16 : opAt m_Pa_takeComma 16 = sPush (.int (Int32.ofInt 0)) 17 := rfl
theorem i_Pa_takeComma_17 : opAt m_Pa_takeComma 17 = sIret .boolean := rfl
theorem i_Pa_takeComma_18 : opAt m_Pa_takeComma 18 = sAld 0 19 := rfl
theorem i_Pa_takeComma_19 : opAt m_Pa_takeComma 19 = sDup 20 := rfl
theorem i_Pa_takeComma_20 : opAt m_Pa_takeComma 20 = sGet [(4, 6)] 23 := rfl
theorem i_Pa_takeComma_23 : opAt m_Pa_takeComma 23 = sPush (.int (Int32.ofInt 1)) 24 := rfl
theorem i_Pa_takeComma_24 : opAt m_Pa_takeComma 24 = sBI (fun x y => x + y) 25 := rfl
theorem i_Pa_takeComma_25 : opAt m_Pa_takeComma 25 = sPut [(4, 6)] (.int) 28 := rfl
theorem i_Pa_takeComma_28 : opAt m_Pa_takeComma 28 = sAld 0 29 := rfl
theorem i_Pa_takeComma_29 : opAt m_Pa_takeComma 29 = sPush (.int (Int32.ofInt 0)) 30 := rfl
theorem i_Pa_takeComma_30 : opAt m_Pa_takeComma 30 = sPut [(4, 7)] (.int) 33 := rfl
theorem i_Pa_takeComma_33 : opAt m_Pa_takeComma 33 = sPush (.int (Int32.ofInt 1)) 34 := rfl
theorem i_Pa_takeComma_34 : opAt m_Pa_takeComma 34 = sIret .boolean := rfl
theorem i_Pa_machineRead_0 : opAt m_Pa_machineRead 0 = sAld 0 1 := rfl
theorem i_Pa_machineRead_1 : opAt m_Pa_machineRead 1 = sGet [(4, 6)] 4 := rfl
theorem i_Pa_machineRead_4 : opAt m_Pa_machineRead 4 = sPush (.int (Int32.ofInt 1)) 5 := rfl
theorem i_Pa_machineRead_5 : opAt m_Pa_machineRead 5 = sBI (fun x y => x + y) 6 := rfl
theorem i_Pa_machineRead_6 : opAt m_Pa_machineRead 6 = sNar 4 (.inr (.inr (.inr (.inr (fun _ => none))))) 9 := rfl
theorem i_Pa_machineRead_9 : opAt m_Pa_machineRead 9 = sAst 1 10 := rfl
theorem i_Pa_machineRead_10 : opAt m_Pa_machineRead 10 = sPush (.int (Int32.ofInt 0)) 11 := rfl
theorem i_Pa_machineRead_11 : opAt m_Pa_machineRead 11 = sIst 2 12 := rfl
theorem i_Pa_machineRead_12 : opAt m_Pa_machineRead 12 = sIld 2 13 := rfl
theorem i_Pa_machineRead_13 : opAt m_Pa_machineRead 13 = sAld 1 14 := rfl
theorem i_Pa_machineRead_14 : opAt m_Pa_machineRead 14 = sLen 15 := rfl
theorem i_Pa_machineRead_15 : opAt m_Pa_machineRead 15 = sCm .ge 32 18 := rfl
theorem i_Pa_machineRead_18 : opAt m_Pa_machineRead 18 = sAld 1 19 := rfl
theorem i_Pa_machineRead_19 : opAt m_Pa_machineRead 19 = sIld 2 20 := rfl
theorem i_Pa_machineRead_20 : opAt m_Pa_machineRead 20 = sAld 0 21 := rfl
theorem i_Pa_machineRead_21 : opAt m_Pa_machineRead 21 = sIld 2 22 := rfl
theorem i_Pa_machineRead_22 : opAt m_Pa_machineRead 22 = sVir [(4, m_Pa_partRead)] 1 1 25 := rfl
theorem i_Pa_machineRead_25 : opAt m_Pa_machineRead 25 = sAas 26 := rfl
theorem i_Pa_machineRead_26 : opAt m_Pa_machineRead 26 = sInc 2 1 29 := rfl
theorem i_Pa_machineRead_29 : opAt m_Pa_machineRead 29 = sGo 12 := rfl
theorem i_Pa_machineRead_32 : opAt m_Pa_machineRead 32 = sNew 3 [.null] 35 := rfl
theorem i_Pa_machineRead_35 : opAt m_Pa_machineRead 35 = sDup 36 := rfl
theorem i_Pa_machineRead_36 : opAt m_Pa_machineRead 36 = sAld 1 37 := rfl
theorem i_Pa_machineRead_37 : opAt m_Pa_machineRead 37 = sSpe m_Ma_init 0 1 40 := rfl
theorem i_Pa_machineRead_40 : opAt m_Pa_machineRead 40 = sAret := rfl
theorem i_Pa_partRead_0 : opAt m_Pa_partRead 0 = sAld 0 1 := rfl
theorem i_Pa_partRead_1 : opAt m_Pa_partRead 1 = sGet [(4, 2)] 4 := rfl
theorem i_Pa_partRead_4 : opAt m_Pa_partRead 4 = sIld 1 5 := rfl
theorem i_Pa_partRead_5 : opAt m_Pa_partRead 5 = sIal 6 := rfl
theorem i_Pa_partRead_6 : opAt m_Pa_partRead 6 = sSw [(1, 32), (2, 46), (3, 72)] 98 := rfl
theorem i_Pa_partRead_32 : opAt m_Pa_partRead 32 = sNew 1 [.int 0] 35 := rfl
theorem i_Pa_partRead_35 : opAt m_Pa_partRead 35 = sDup 36 := rfl
theorem i_Pa_partRead_36 : opAt m_Pa_partRead 36 = sAld 0 37 := rfl
theorem i_Pa_partRead_37 : opAt m_Pa_partRead 37 = sGet [(4, 3)] 40 := rfl
theorem i_Pa_partRead_40 : opAt m_Pa_partRead 40 = sIld 1 41 := rfl
theorem i_Pa_partRead_41 : opAt m_Pa_partRead 41 = sIal 42 := rfl
theorem i_Pa_partRead_42 : opAt m_Pa_partRead 42 = sSpe m_Ga_init 0 1 45 := rfl
theorem i_Pa_partRead_45 : opAt m_Pa_partRead 45 = sAret := rfl
theorem i_Pa_partRead_46 : opAt m_Pa_partRead 46 = sNew 6 [.int 0, .int 0, .int 0] 49 := rfl
theorem i_Pa_partRead_49 : opAt m_Pa_partRead 49 = sDup 50 := rfl
theorem i_Pa_partRead_50 : opAt m_Pa_partRead 50 = sAld 0 51 := rfl
theorem i_Pa_partRead_51 : opAt m_Pa_partRead 51 = sGet [(4, 3)] 54 := rfl
theorem i_Pa_partRead_54 : opAt m_Pa_partRead 54 = sIld 1 55 := rfl
theorem i_Pa_partRead_55 : opAt m_Pa_partRead 55 = sIal 56 := rfl
theorem i_Pa_partRead_56 : opAt m_Pa_partRead 56 = sAld 0 57 := rfl
theorem i_Pa_partRead_57 : opAt m_Pa_partRead 57 = sGet [(4, 4)] 60 := rfl
theorem i_Pa_partRead_60 : opAt m_Pa_partRead 60 = sIld 1 61 := rfl
theorem i_Pa_partRead_61 : opAt m_Pa_partRead 61 = sIal 62 := rfl
theorem i_Pa_partRead_62 : opAt m_Pa_partRead 62 = sAld 0 63 := rfl
theorem i_Pa_partRead_63 : opAt m_Pa_partRead 63 = sGet [(4, 5)] 66 := rfl
theorem i_Pa_partRead_66 : opAt m_Pa_partRead 66 = sIld 1 67 := rfl
theorem i_Pa_partRead_67 : opAt m_Pa_partRead 67 = sIal 68 := rfl
theorem i_Pa_partRead_68 : opAt m_Pa_partRead 68 = sSpe m_Ro_init 0 3 71 := rfl
theorem i_Pa_partRead_71 : opAt m_Pa_partRead 71 = sAret := rfl
theorem i_Pa_partRead_72 : opAt m_Pa_partRead 72 = sNew 8 [.int 0, .int 0, .int 0] 75 := rfl
theorem i_Pa_partRead_75 : opAt m_Pa_partRead 75 = sDup 76 := rfl
theorem i_Pa_partRead_76 : opAt m_Pa_partRead 76 = sAld 0 77 := rfl
theorem i_Pa_partRead_77 : opAt m_Pa_partRead 77 = sGet [(4, 3)] 80 := rfl
theorem i_Pa_partRead_80 : opAt m_Pa_partRead 80 = sIld 1 81 := rfl
theorem i_Pa_partRead_81 : opAt m_Pa_partRead 81 = sIal 82 := rfl
theorem i_Pa_partRead_82 : opAt m_Pa_partRead 82 = sAld 0 83 := rfl
theorem i_Pa_partRead_83 : opAt m_Pa_partRead 83 = sGet [(4, 4)] 86 := rfl
theorem i_Pa_partRead_86 : opAt m_Pa_partRead 86 = sIld 1 87 := rfl
theorem i_Pa_partRead_87 : opAt m_Pa_partRead 87 = sIal 88 := rfl
theorem i_Pa_partRead_88 : opAt m_Pa_partRead 88 = sAld 0 89 := rfl
theorem i_Pa_partRead_89 : opAt m_Pa_partRead 89 = sGet [(4, 5)] 92 := rfl
theorem i_Pa_partRead_92 : opAt m_Pa_partRead 92 = sIld 1 93 := rfl
theorem i_Pa_partRead_93 : opAt m_Pa_partRead 93 = sIal 94 := rfl
theorem i_Pa_partRead_94 : opAt m_Pa_partRead 94 = sSpe m_To_init 0 3 97 := rfl
theorem i_Pa_partRead_97 : opAt m_Pa_partRead 97 = sAret := rfl
theorem i_Pa_partRead_98 : opAt m_Pa_partRead 98 = sNew 9 [.int 0, .int 0, .int 0] 101 := rfl
theorem i_Pa_partRead_101 : opAt m_Pa_partRead 101 = sDup 102 := rfl
theorem i_Pa_partRead_102 : opAt m_Pa_partRead 102 = sAld 0 103 := rfl
theorem i_Pa_partRead_103 : opAt m_Pa_partRead 103 = sGet [(4, 3)] 106 := rfl
theorem i_Pa_partRead_106 : opAt m_Pa_partRead 106 = sIld 1 107 := rfl
theorem i_Pa_partRead_107 : opAt m_Pa_partRead 107 = sIal 108 := rfl
theorem i_Pa_partRead_108 : opAt m_Pa_partRead 108 = sAld 0 109 := rfl
theorem i_Pa_partRead_109 : opAt m_Pa_partRead 109 = sGet [(4, 4)] 112 := rfl
theorem i_Pa_partRead_112 : opAt m_Pa_partRead 112 = sIld 1 113 := rfl
theorem i_Pa_partRead_113 : opAt m_Pa_partRead 113 = sIal 114 := rfl
theorem i_Pa_partRead_114 : opAt m_Pa_partRead 114 = sAld 0 115 := rfl
theorem i_Pa_partRead_115 : opAt m_Pa_partRead 115 = sGet [(4, 5)] 118 := rfl
theorem i_Pa_partRead_118 : opAt m_Pa_partRead 118 = sIld 1 119 := rfl
theorem i_Pa_partRead_119 : opAt m_Pa_partRead 119 = sIal 120 := rfl
theorem i_Pa_partRead_120 : opAt m_Pa_partRead 120 = sSpe m_Wo_init 0 3 123 := rfl
theorem i_Pa_partRead_123 : opAt m_Pa_partRead 123 = sAret := rfl
theorem i_Ga_init_0 : opAt m_Ga_init 0 = sAld 0 1 := rfl
theorem i_Ga_init_1 : opAt m_Ga_init 1 = sIld 1 2 := rfl
theorem i_Ga_init_2 : opAt m_Ga_init 2 = sSpe m_Pt_init 0 1 5 := rfl
theorem i_Ga_init_5 : opAt m_Ga_init 5 = sVret := rfl
theorem i_Pt_init_0 : opAt m_Pt_init 0 = sAld 0 1 := rfl
theorem i_Pt_init_1 : opAt m_Pt_init 1 = sObj 4 := rfl
theorem i_Pt_init_4 : opAt m_Pt_init 4 = sAld 0 5 := rfl
theorem i_Pt_init_5 : opAt m_Pt_init 5 = sIld 1 6 := rfl
theorem i_Pt_init_6 : opAt m_Pt_init 6 = sPut [(1, 0), (6, 0), (8, 2), (9, 0)] (.int) 9 := rfl
theorem i_Pt_init_9 : opAt m_Pt_init 9 = sVret := rfl
theorem i_Ro_init_0 : opAt m_Ro_init 0 = sAld 0 1 := rfl
theorem i_Ro_init_1 : opAt m_Ro_init 1 = sIld 1 2 := rfl
theorem i_Ro_init_2 : opAt m_Ro_init 2 = sSpe m_Pt_init 0 1 5 := rfl
theorem i_Ro_init_5 : opAt m_Ro_init 5 = sAld 0 6 := rfl
theorem i_Ro_init_6 : opAt m_Ro_init 6 = sIld 2 7 := rfl
theorem i_Ro_init_7 : opAt m_Ro_init 7 = sPut [(6, 1), (8, 0)] (.int) 10 := rfl
theorem i_Ro_init_10 : opAt m_Ro_init 10 = sAld 0 11 := rfl
theorem i_Ro_init_11 : opAt m_Ro_init 11 = sIld 3 12 := rfl
theorem i_Ro_init_12 : opAt m_Ro_init 12 = sPut [(6, 2), (8, 1)] (.int) 15 := rfl
theorem i_Ro_init_15 : opAt m_Ro_init 15 = sVret := rfl
theorem i_To_init_0 : opAt m_To_init 0 = sAld 0 1 := rfl
theorem i_To_init_1 : opAt m_To_init 1 = sIld 1 2 := rfl
theorem i_To_init_2 : opAt m_To_init 2 = sIld 2 3 := rfl
theorem i_To_init_3 : opAt m_To_init 3 = sIld 3 4 := rfl
theorem i_To_init_4 : opAt m_To_init 4 = sSpe m_Ro_init 0 3 7 := rfl
theorem i_To_init_7 : opAt m_To_init 7 = sVret := rfl
theorem i_Wo_init_0 : opAt m_Wo_init 0 = sAld 0 1 := rfl
theorem i_Wo_init_1 : opAt m_Wo_init 1 = sIld 1 2 := rfl
theorem i_Wo_init_2 : opAt m_Wo_init 2 = sSpe m_Pt_init 0 1 5 := rfl
theorem i_Wo_init_5 : opAt m_Wo_init 5 = sAld 0 6 := rfl
theorem i_Wo_init_6 : opAt m_Wo_init 6 = sIld 2 7 := rfl
theorem i_Wo_init_7 : opAt m_Wo_init 7 = sPut [(9, 1)] (.int) 10 := rfl
theorem i_Wo_init_10 : opAt m_Wo_init 10 = sAld 0 11 := rfl
theorem i_Wo_init_11 : opAt m_Wo_init 11 = sIld 3 12 := rfl
theorem i_Wo_init_12 : opAt m_Wo_init 12 = sPut [(9, 2)] (.int) 15 := rfl
theorem i_Wo_init_15 : opAt m_Wo_init 15 = sVret := rfl
theorem i_Ma_init_0 : opAt m_Ma_init 0 = sAld 0 1 := rfl
theorem i_Ma_init_1 : opAt m_Ma_init 1 = sObj 4 := rfl
theorem i_Ma_init_4 : opAt m_Ma_init 4 = sAld 0 5 := rfl
theorem i_Ma_init_5 : opAt m_Ma_init 5 = sAld 1 6 := rfl
theorem i_Ma_init_6 : opAt m_Ma_init 6 = sPut [(3, 0)] (.array (.object "LinesDownFilm$Part")) 9 := rfl
theorem i_Ma_init_9 : opAt m_Ma_init 9 = sVret := rfl
theorem i_Pt_tell_0 : opAt m_Pt_tell 0 = sIld 1 1 := rfl
theorem i_Pt_tell_1 : opAt m_Pt_tell 1 = sSw [(0, 28), (1, 33), (2, 38)] 43 := rfl
theorem i_Pt_tell_28 : opAt m_Pt_tell 28 = sAld 0 29 := rfl
theorem i_Pt_tell_29 : opAt m_Pt_tell 29 = sVir [(1, m_Ga_kind), (6, m_Ro_kind), (8, m_To_kind), (9, m_Wo_kind)] 0 0 32 := rfl
theorem i_Pt_tell_32 : opAt m_Pt_tell 32 = sIret .int := rfl
theorem i_Pt_tell_33 : opAt m_Pt_tell 33 = sAld 0 34 := rfl
theorem i_Pt_tell_34 : opAt m_Pt_tell 34 = sGet [(1, 0), (6, 0), (8, 2), (9, 0)] 37 := rfl
theorem i_Pt_tell_37 : opAt m_Pt_tell 37 = sIret .int := rfl
theorem i_Pt_tell_38 : opAt m_Pt_tell 38 = sAld 0 39 := rfl
theorem i_Pt_tell_39 : opAt m_Pt_tell 39 = sVir [(1, m_Ga_turn), (6, m_Ro_turn), (8, m_Ro_turn), (9, m_Wo_turn)] 0 0 42 := rfl
theorem i_Pt_tell_42 : opAt m_Pt_tell 42 = sIret .int := rfl
theorem i_Pt_tell_43 : opAt m_Pt_tell 43 = sAld 0 44 := rfl
theorem i_Pt_tell_44 : opAt m_Pt_tell 44 = sVir [(1, m_Ga_shift), (6, m_Ro_shift), (8, m_Ro_shift), (9, m_Wo_shift)] 0 0 47 := rfl
theorem i_Pt_tell_47 : opAt m_Pt_tell 47 = sIret .int := rfl
theorem i_Ga_kind_0 : opAt m_Ga_kind 0 = sPush (.int (Int32.ofInt 1)) 1 := rfl
theorem i_Ga_kind_1 : opAt m_Ga_kind 1 = sIret .int := rfl
theorem i_Ro_kind_0 : opAt m_Ro_kind 0 = sPush (.int (Int32.ofInt 2)) 1 := rfl
theorem i_Ro_kind_1 : opAt m_Ro_kind 1 = sIret .int := rfl
theorem i_To_kind_0 : opAt m_To_kind 0 = sPush (.int (Int32.ofInt 3)) 1 := rfl
theorem i_To_kind_1 : opAt m_To_kind 1 = sIret .int := rfl
theorem i_Wo_kind_0 : opAt m_Wo_kind 0 = sPush (.int (Int32.ofInt 4)) 1 := rfl
theorem i_Wo_kind_1 : opAt m_Wo_kind 1 = sIret .int := rfl
theorem i_Ga_turn_0 : opAt m_Ga_turn 0 = sPush (.int (Int32.ofInt (-1))) 1 := rfl
theorem i_Ga_turn_1 : opAt m_Ga_turn 1 = sIret .int := rfl
theorem i_Ro_turn_0 : opAt m_Ro_turn 0 = sAld 0 1 := rfl
theorem i_Ro_turn_1 : opAt m_Ro_turn 1 = sGet [(6, 1), (8, 0)] 4 := rfl
theorem i_Ro_turn_4 : opAt m_Ro_turn 4 = sIret .int := rfl
theorem i_Wo_turn_0 : opAt m_Wo_turn 0 = sAld 0 1 := rfl
theorem i_Wo_turn_1 : opAt m_Wo_turn 1 = sGet [(9, 1)] 4 := rfl
theorem i_Wo_turn_4 : opAt m_Wo_turn 4 = sIret .int := rfl
theorem i_Ga_shift_0 : opAt m_Ga_shift 0 = sPush (.int (Int32.ofInt (-1))) 1 := rfl
theorem i_Ga_shift_1 : opAt m_Ga_shift 1 = sIret .int := rfl
theorem i_Ro_shift_0 : opAt m_Ro_shift 0 = sAld 0 1 := rfl
theorem i_Ro_shift_1 : opAt m_Ro_shift 1 = sGet [(6, 2), (8, 1)] 4 := rfl
theorem i_Ro_shift_4 : opAt m_Ro_shift 4 = sIret .int := rfl
theorem i_Wo_shift_0 : opAt m_Wo_shift 0 = sAld 0 1 := rfl
theorem i_Wo_shift_1 : opAt m_Wo_shift 1 = sGet [(9, 2)] 4 := rfl
theorem i_Wo_shift_4 : opAt m_Wo_shift 4 = sIret .int := rfl
theorem i_Sh_next_0 : opAt m_Sh_next 0 = sAld 0 1 := rfl
theorem i_Sh_next_1 : opAt m_Sh_next 1 = sGet [(7, 1)] 4 := rfl
theorem i_Sh_next_4 : opAt m_Sh_next 4 = sPush (.int (Int8.ofInt 6).toInt32) 6 := rfl
theorem i_Sh_next_6 : opAt m_Sh_next 6 = sCm .lt 11 9 := rfl
theorem i_Sh_next_9 : opAt m_Sh_next 9 = sPush .null 10 := rfl
theorem i_Sh_next_10 : opAt m_Sh_next 10 = sAret := rfl
theorem i_Sh_next_11 : opAt m_Sh_next 11 = sAld 0 12 := rfl
theorem i_Sh_next_12 : opAt m_Sh_next 12 = sDup 13 := rfl
theorem i_Sh_next_13 : opAt m_Sh_next 13 = sGet [(7, 1)] 16 := rfl
theorem i_Sh_next_16 : opAt m_Sh_next 16 = sPush (.int (Int32.ofInt 1)) 17 := rfl
theorem i_Sh_next_17 : opAt m_Sh_next 17 = sBI (fun x y => x + y) 18 := rfl
theorem i_Sh_next_18 : opAt m_Sh_next 18 = sPut [(7, 1)] (.int) 21 := rfl
theorem i_Sh_next_21 : opAt m_Sh_next 21 = sAld 0 22 := rfl
theorem i_Sh_next_22 : opAt m_Sh_next 22 = sGet [(7, 0)] 25 := rfl
theorem i_Sh_next_25 : opAt m_Sh_next 25 = sAld 0 26 := rfl
theorem i_Sh_next_26 : opAt m_Sh_next 26 = sGet [(7, 1)] 29 := rfl
theorem i_Sh_next_29 : opAt m_Sh_next 29 = sPush (.int (Int32.ofInt 1)) 30 := rfl
theorem i_Sh_next_30 : opAt m_Sh_next 30 = sBI (fun x y => x - y) 31 := rfl
theorem i_Sh_next_31 : opAt m_Sh_next 31 = sAal 32 := rfl
theorem i_Sh_next_32 : opAt m_Sh_next 32 = sAret := rfl
theorem i_Pr_begin_0 : opAt m_Pr_begin 0 = sAld 0 1 := rfl
theorem i_Pr_begin_1 : opAt m_Pr_begin 1 = sIld 1 2 := rfl
theorem i_Pr_begin_2 : opAt m_Pr_begin 2 = sPush (.int (Int8.ofInt 48).toInt32) 4 := rfl
theorem i_Pr_begin_4 : opAt m_Pr_begin 4 = sMin 7 := rfl
theorem i_Pr_begin_7 : opAt m_Pr_begin 7 = sPut [(5, 0)] (.int) 10 := rfl
theorem i_Pr_begin_10 : opAt m_Pr_begin 10 = sPush (.int (Int32.ofInt 0)) 11 := rfl
theorem i_Pr_begin_11 : opAt m_Pr_begin 11 = sIst 2 12 := rfl
theorem i_Pr_begin_12 : opAt m_Pr_begin 12 = sIld 2 13 := rfl
theorem i_Pr_begin_13 : opAt m_Pr_begin 13 = sAld 0 14 := rfl
theorem i_Pr_begin_14 : opAt m_Pr_begin 14 = sGet [(5, 0)] 17 := rfl
theorem i_Pr_begin_17 : opAt m_Pr_begin 17 = sCm .ge 47 20 := rfl
theorem i_Pr_begin_20 : opAt m_Pr_begin 20 = sAld 0 21 := rfl
theorem i_Pr_begin_21 : opAt m_Pr_begin 21 = sGet [(5, 1)] 24 := rfl
theorem i_Pr_begin_24 : opAt m_Pr_begin 24 = sIld 2 25 := rfl
theorem i_Pr_begin_25 : opAt m_Pr_begin 25 = sIld 2 26 := rfl
theorem i_Pr_begin_26 : opAt m_Pr_begin 26 = sIas 27 := rfl
theorem i_Pr_begin_27 : opAt m_Pr_begin 27 = sAld 0 28 := rfl
theorem i_Pr_begin_28 : opAt m_Pr_begin 28 = sGet [(5, 2)] 31 := rfl
theorem i_Pr_begin_31 : opAt m_Pr_begin 31 = sIld 2 32 := rfl
theorem i_Pr_begin_32 : opAt m_Pr_begin 32 = sPush (.int (Int32.ofInt 0)) 33 := rfl
theorem i_Pr_begin_33 : opAt m_Pr_begin 33 = sIas 34 := rfl
theorem i_Pr_begin_34 : opAt m_Pr_begin 34 = sAld 0 35 := rfl
theorem i_Pr_begin_35 : opAt m_Pr_begin 35 = sGet [(5, 3)] 38 := rfl
theorem i_Pr_begin_38 : opAt m_Pr_begin 38 = sIld 2 39 := rfl
theorem i_Pr_begin_39 : opAt m_Pr_begin 39 = sPush (.int (Int32.ofInt 0)) 40 := rfl
theorem i_Pr_begin_40 : opAt m_Pr_begin 40 = sIas 41 := rfl
theorem i_Pr_begin_41 : opAt m_Pr_begin 41 = sInc 2 1 44 := rfl
theorem i_Pr_begin_44 : opAt m_Pr_begin 44 = sGo 12 := rfl
theorem i_Pr_begin_47 : opAt m_Pr_begin 47 = sAld 0 48 := rfl
theorem i_Pr_begin_48 : opAt m_Pr_begin 48 = sVir [(5, m_Pr_findPlaces)] 0 0 51 := rfl
theorem i_Pr_begin_51 : opAt m_Pr_begin 51 = sVret := rfl
theorem i_Pr_findPlaces_0 : opAt m_Pr_findPlaces 0 = sPush (.int (Int32.ofInt 0)) 1 := rfl
theorem i_Pr_findPlaces_1 : opAt m_Pr_findPlaces 1 = sIst 1 2 := rfl
theorem i_Pr_findPlaces_2 : opAt m_Pr_findPlaces 2 = sIld 1 3 := rfl
theorem i_Pr_findPlaces_3 : opAt m_Pr_findPlaces 3 = sPush (.int (Int8.ofInt 48).toInt32) 5 := rfl
theorem i_Pr_findPlaces_5 : opAt m_Pr_findPlaces 5 = sCm .ge 21 8 := rfl
theorem i_Pr_findPlaces_8 : opAt m_Pr_findPlaces 8 = sAld 0 9 := rfl
theorem i_Pr_findPlaces_9 : opAt m_Pr_findPlaces 9 = sGet [(5, 4)] 12 := rfl
theorem i_Pr_findPlaces_12 : opAt m_Pr_findPlaces 12 = sIld 1 13 := rfl
theorem i_Pr_findPlaces_13 : opAt m_Pr_findPlaces 13 = sPush (.int (Int32.ofInt (-1))) 14 := rfl
theorem i_Pr_findPlaces_14 : opAt m_Pr_findPlaces 14 = sIas 15 := rfl
theorem i_Pr_findPlaces_15 : opAt m_Pr_findPlaces 15 = sInc 1 1 18 := rfl
theorem i_Pr_findPlaces_18 : opAt m_Pr_findPlaces 18 = sGo 2 := rfl
theorem i_Pr_findPlaces_21 : opAt m_Pr_findPlaces 21 = sAld 0 22 := rfl
theorem i_Pr_findPlaces_22 : opAt m_Pr_findPlaces 22 = sGet [(5, 0)] 25 := rfl
theorem i_Pr_findPlaces_25 : opAt m_Pr_findPlaces 25 = sPush (.int (Int32.ofInt 1)) 26 := rfl
theorem i_Pr_findPlaces_26 : opAt m_Pr_findPlaces 26 = sBI (fun x y => x - y) 27 := rfl
theorem i_Pr_findPlaces_27 : opAt m_Pr_findPlaces 27 = sIst 1 28 := rfl
theorem i_Pr_findPlaces_28 : opAt m_Pr_findPlaces 28 = sIld 1 29 := rfl
theorem i_Pr_findPlaces_29 : opAt m_Pr_findPlaces 29 = sIf .lt 50 32 := rfl
theorem i_Pr_findPlaces_32 : opAt m_Pr_findPlaces 32 = sAld 0 33 := rfl
theorem i_Pr_findPlaces_33 : opAt m_Pr_findPlaces 33 = sGet [(5, 4)] 36 := rfl
theorem i_Pr_findPlaces_36 : opAt m_Pr_findPlaces 36 = sAld 0 37 := rfl
theorem i_Pr_findPlaces_37 : opAt m_Pr_findPlaces 37 = sGet [(5, 1)] 40 := rfl
theorem i_Pr_findPlaces_40 : opAt m_Pr_findPlaces 40 = sIld 1 41 := rfl
theorem i_Pr_findPlaces_41 : opAt m_Pr_findPlaces 41 = sIal 42 := rfl
theorem i_Pr_findPlaces_42 : opAt m_Pr_findPlaces 42 = sIld 1 43 := rfl
theorem i_Pr_findPlaces_43 : opAt m_Pr_findPlaces 43 = sIas 44 := rfl
theorem i_Pr_findPlaces_44 : opAt m_Pr_findPlaces 44 = sInc 1 (-1) 47 := rfl
theorem i_Pr_findPlaces_47 : opAt m_Pr_findPlaces 47 = sGo 28 := rfl
theorem i_Pr_findPlaces_50 : opAt m_Pr_findPlaces 50 = sVret := rfl
theorem i_Sh_printAt_0 : opAt m_Sh_printAt 0 = sIld 1 1 := rfl
theorem i_Sh_printAt_1 : opAt m_Sh_printAt 1 = sPush (.int (Int32.ofInt 0)) 2 := rfl
theorem i_Sh_printAt_2 : opAt m_Sh_printAt 2 = sAld 0 3 := rfl
theorem i_Sh_printAt_3 : opAt m_Sh_printAt 3 = sGet [(7, 1)] 6 := rfl
theorem i_Sh_printAt_6 : opAt m_Sh_printAt 6 = sPush (.int (Int32.ofInt 1)) 7 := rfl
theorem i_Sh_printAt_7 : opAt m_Sh_printAt 7 = sBI (fun x y => x - y) 8 := rfl
theorem i_Sh_printAt_8 : opAt m_Sh_printAt 8 = sSta m_Fi_isWithin 0 3 11 := rfl
theorem i_Sh_printAt_11 : opAt m_Sh_printAt 11 = sIf .eq 23 14 := rfl
theorem i_Sh_printAt_14 : opAt m_Sh_printAt 14 = sAld 0 15 := rfl
theorem i_Sh_printAt_15 : opAt m_Sh_printAt 15 = sGet [(7, 0)] 18 := rfl
theorem i_Sh_printAt_18 : opAt m_Sh_printAt 18 = sIld 1 19 := rfl
theorem i_Sh_printAt_19 : opAt m_Sh_printAt 19 = sAal 20 := rfl
theorem i_Sh_printAt_20 : opAt m_Sh_printAt 20 = sGo 24 := rfl
theorem i_Sh_printAt_23 : opAt m_Sh_printAt 23 = sPush .null 24 := rfl
theorem i_Sh_printAt_24 : opAt m_Sh_printAt 24 = sAret := rfl
theorem i_Pr_leave_0 : opAt m_Pr_leave 0 = sAld 1 1 := rfl
theorem i_Pr_leave_1 : opAt m_Pr_leave 1 = sAld 0 2 := rfl
theorem i_Pr_leave_2 : opAt m_Pr_leave 2 = sGet [(5, 0)] 5 := rfl
theorem i_Pr_leave_5 : opAt m_Pr_leave 5 = sVir [(1, m_Ga_touched), (6, m_Ro_touched), (8, m_To_touched), (9, m_Wo_touched)] 0 1 8 := rfl
theorem i_Pr_leave_8 : opAt m_Pr_leave 8 = sLst 3 9 := rfl
theorem i_Pr_leave_9 : opAt m_Pr_leave 9 = sIld 2 10 := rfl
theorem i_Pr_leave_10 : opAt m_Pr_leave 10 = sIf .eq 24 13 := rfl
theorem i_Pr_leave_13 : opAt m_Pr_leave 13 = sLld 3 14 := rfl
theorem i_Pr_leave_14 : opAt m_Pr_leave 14 = sAld 0 15 := rfl
theorem i_Pr_leave_15 : opAt m_Pr_leave 15 = sGet [(5, 0)] 18 := rfl
theorem i_Pr_leave_18 : opAt m_Pr_leave 18 = sSta m_Fi_turned 0 2 21 := rfl
theorem i_Pr_leave_21 : opAt m_Pr_leave 21 = sGo 25 := rfl
theorem i_Pr_leave_24 : opAt m_Pr_leave 24 = sLld 3 25 := rfl
theorem i_Pr_leave_25 : opAt m_Pr_leave 25 = sLst 5 27 := rfl
theorem i_Pr_leave_27 : opAt m_Pr_leave 27 = sPush (.int (Int32.ofInt 0)) 28 := rfl
theorem i_Pr_leave_28 : opAt m_Pr_leave 28 = sIst 7 30 := rfl
theorem i_Pr_leave_30 : opAt m_Pr_leave 30 = sPush (.int (Int32.ofInt 0)) 31 := rfl
theorem i_Pr_leave_31 : opAt m_Pr_leave 31 = sIst 8 33 := rfl
theorem i_Pr_leave_33 : opAt m_Pr_leave 33 = sIld 8 35 := rfl
theorem i_Pr_leave_35 : opAt m_Pr_leave 35 = sAld 0 36 := rfl
theorem i_Pr_leave_36 : opAt m_Pr_leave 36 = sGet [(5, 0)] 39 := rfl
theorem i_Pr_leave_39 : opAt m_Pr_leave 39 = sCm .ge 76 42 := rfl
theorem i_Pr_leave_42 : opAt m_Pr_leave 42 = sLld 5 44 := rfl
theorem i_Pr_leave_44 : opAt m_Pr_leave 44 = sIld 8 46 := rfl
theorem i_Pr_leave_46 : opAt m_Pr_leave 46 = sSta m_Fi_isIn 0 2 49 := rfl
theorem i_Pr_leave_49 : opAt m_Pr_leave 49 = sIf .eq 70 52 := rfl
theorem i_Pr_leave_52 : opAt m_Pr_leave 52 = sAld 0 53 := rfl
theorem i_Pr_leave_53 : opAt m_Pr_leave 53 = sIld 8 55 := rfl
theorem i_Pr_leave_55 : opAt m_Pr_leave 55 = sAld 1 56 := rfl
theorem i_Pr_leave_56 : opAt m_Pr_leave 56 = sGet [(1, 0), (6, 0), (8, 2), (9, 0)] 59 := rfl
theorem i_Pr_leave_59 : opAt m_Pr_leave 59 = sPush (.int (Int32.ofInt 0)) 60 := rfl
theorem i_Pr_leave_60 : opAt m_Pr_leave 60 = sPush (.int (Int32.ofInt 1)) 61 := rfl
theorem i_Pr_leave_61 : opAt m_Pr_leave 61 = sVir [(5, m_Pr_put)] 0 4 64 := rfl
theorem i_Pr_leave_64 : opAt m_Pr_leave 64 = sIf .eq 70 67 := rfl
theorem i_Pr_leave_67 : opAt m_Pr_leave 67 = sInc 7 1 70 := rfl
theorem i_Pr_leave_70 : opAt m_Pr_leave 70 = sInc 8 1 73 := rfl
theorem i_Pr_leave_73 : opAt m_Pr_leave 73 = sGo 33 := rfl
theorem i_Pr_leave_76 : opAt m_Pr_leave 76 = sIld 7 78 := rfl
theorem i_Pr_leave_78 : opAt m_Pr_leave 78 = sIret .int := rfl
theorem i_Ga_touched_0 : opAt m_Ga_touched 0 = sIld 1 1 := rfl
theorem i_Ga_touched_1 : opAt m_Ga_touched 1 = sPush (.int (Int32.ofInt 0)) 2 := rfl
theorem i_Ga_touched_2 : opAt m_Ga_touched 2 = sPush (.int (Int32.ofInt 1)) 3 := rfl
theorem i_Ga_touched_3 : opAt m_Ga_touched 3 = sSta m_Fi_everyOf 0 3 6 := rfl
theorem i_Ga_touched_6 : opAt m_Ga_touched 6 = sLret := rfl
theorem i_Ro_touched_0 : opAt m_Ro_touched 0 = sIld 1 1 := rfl
theorem i_Ro_touched_1 : opAt m_Ro_touched 1 = sAld 0 2 := rfl
theorem i_Ro_touched_2 : opAt m_Ro_touched 2 = sGet [(6, 2), (8, 1)] 5 := rfl
theorem i_Ro_touched_5 : opAt m_Ro_touched 5 = sAld 0 6 := rfl
theorem i_Ro_touched_6 : opAt m_Ro_touched 6 = sGet [(6, 1), (8, 0)] 9 := rfl
theorem i_Ro_touched_9 : opAt m_Ro_touched 9 = sSta m_Fi_everyOf 0 3 12 := rfl
theorem i_Ro_touched_12 : opAt m_Ro_touched 12 = sLret := rfl
theorem i_To_touched_0 : opAt m_To_touched 0 = sIld 1 1 := rfl
theorem i_To_touched_1 : opAt m_To_touched 1 = sAld 0 2 := rfl
theorem i_To_touched_2 : opAt m_To_touched 2 = sGet [(8, 1)] 5 := rfl
theorem i_To_touched_5 : opAt m_To_touched 5 = sPush (.int (Int32.ofInt 2)) 6 := rfl
theorem i_To_touched_6 : opAt m_To_touched 6 = sAld 0 7 := rfl
theorem i_To_touched_7 : opAt m_To_touched 7 = sGet [(8, 0)] 10 := rfl
theorem i_To_touched_10 : opAt m_To_touched 10 = sBI (fun x y => x * y) 11 := rfl
theorem i_To_touched_11 : opAt m_To_touched 11 = sSta m_Fi_everyOf 0 3 14 := rfl
theorem i_To_touched_14 : opAt m_To_touched 14 = sLret := rfl
theorem i_Wo_touched_0 : opAt m_Wo_touched 0 = sIld 1 1 := rfl
theorem i_Wo_touched_1 : opAt m_Wo_touched 1 = sAld 0 2 := rfl
theorem i_Wo_touched_2 : opAt m_Wo_touched 2 = sGet [(9, 1)] 5 := rfl
theorem i_Wo_touched_5 : opAt m_Wo_touched 5 = sAld 0 6 := rfl
theorem i_Wo_touched_6 : opAt m_Wo_touched 6 = sGet [(9, 2)] 9 := rfl
theorem i_Wo_touched_9 : opAt m_Wo_touched 9 = sSta m_Fi_spooled 0 3 12 := rfl
theorem i_Wo_touched_12 : opAt m_Wo_touched 12 = sLret := rfl
theorem i_Pr_put_0 : opAt m_Pr_put 0 = sIld 3 1 := rfl
theorem i_Pr_put_1 : opAt m_Pr_put 1 = sIf .ne 11 4 := rfl
theorem i_Pr_put_4 : opAt m_Pr_put 4 = sAld 0 5 := rfl
theorem i_Pr_put_5 : opAt m_Pr_put 5 = sGet [(5, 2)] 8 := rfl
theorem i_Pr_put_8 : opAt m_Pr_put 8 = sGo 15 := rfl
theorem i_Pr_put_11 : opAt m_Pr_put 11 = sAld 0 12 := rfl
theorem i_Pr_put_12 : opAt m_Pr_put 12 = sGet [(5, 3)] 15 := rfl
theorem i_Pr_put_15 : opAt m_Pr_put 15 = sAst 5 17 := rfl
theorem i_Pr_put_17 : opAt m_Pr_put 17 = sPush (.int (Int32.ofInt 1)) 18 := rfl
theorem i_Pr_put_18 : opAt m_Pr_put 18 = sIld 2 19 := rfl
theorem i_Pr_put_19 : opAt m_Pr_put 19 = sBI (fun x y => x <<< (y &&& 31)) 20 := rfl
theorem i_Pr_put_20 : opAt m_Pr_put 20 = sIst 6 22 := rfl
theorem i_Pr_put_22 : opAt m_Pr_put 22 = sAld 5 24 := rfl
theorem i_Pr_put_24 : opAt m_Pr_put 24 = sIld 1 25 := rfl
theorem i_Pr_put_25 : opAt m_Pr_put 25 = sIal 26 := rfl
theorem i_Pr_put_26 : opAt m_Pr_put 26 = sIld 6 28 := rfl
theorem i_Pr_put_28 : opAt m_Pr_put 28 = sBI (fun x y => x &&& y) 29 := rfl
theorem i_Pr_put_29 : opAt m_Pr_put 29 = sIf .eq 36 32 := rfl
theorem i_Pr_put_32 : opAt m_Pr_put 32 = sPush (.int (Int32.ofInt 1)) 33 := rfl
theorem i_Pr_put_33 : opAt m_Pr_put 33 = sGo 37 := rfl
theorem i_Pr_put_36 : opAt m_Pr_put 36 = sPush (.int (Int32.ofInt 0)) 37 := rfl
theorem i_Pr_put_37 : opAt m_Pr_put 37 = sIst 7 39 := rfl
theorem i_Pr_put_39 : opAt m_Pr_put 39 = sAld 5 41 := rfl
theorem i_Pr_put_41 : opAt m_Pr_put 41 = sIld 1 42 := rfl
theorem i_Pr_put_42 : opAt m_Pr_put 42 = sIld 4 44 := rfl
theorem i_Pr_put_44 : opAt m_Pr_put 44 = sIf .eq 57 47 := rfl
theorem i_Pr_put_47 : opAt m_Pr_put 47 = sAld 5 49 := rfl
theorem i_Pr_put_49 : opAt m_Pr_put 49 = sIld 1 50 := rfl
theorem i_Pr_put_50 : opAt m_Pr_put 50 = sIal 51 := rfl
theorem i_Pr_put_51 : opAt m_Pr_put 51 = sIld 6 53 := rfl
theorem i_Pr_put_53 : opAt m_Pr_put 53 = sBI (fun x y => x ||| y) 54 := rfl
theorem i_Pr_put_54 : opAt m_Pr_put 54 = sGo 66 := rfl
theorem i_Pr_put_57 : opAt m_Pr_put 57 = sAld 5 59 := rfl
theorem i_Pr_put_59 : opAt m_Pr_put 59 = sIld 1 60 := rfl
theorem i_Pr_put_60 : opAt m_Pr_put 60 = sIal 61 := rfl
theorem i_Pr_put_61 : opAt m_Pr_put 61 = sIld 6 63 := rfl
theorem i_Pr_put_63 : opAt m_Pr_put 63 = sPush (.int (Int32.ofInt (-1))) 64 := rfl
theorem i_Pr_put_64 : opAt m_Pr_put 64 = sBI (fun x y => x ^^^ y) 65 := rfl
theorem i_Pr_put_65 : opAt m_Pr_put 65 = sBI (fun x y => x &&& y) 66 := rfl
theorem i_Pr_put_66 : opAt m_Pr_put 66 = sIas 67 := rfl
theorem i_Pr_put_67 : opAt m_Pr_put 67 = sIld 7 69 := rfl
theorem i_Pr_put_69 : opAt m_Pr_put 69 = sIld 4 71 := rfl
theorem i_Pr_put_71 : opAt m_Pr_put 71 = sCm .eq 78 74 := rfl
theorem i_Pr_put_74 : opAt m_Pr_put 74 = sPush (.int (Int32.ofInt 1)) 75 := rfl
theorem i_Pr_put_75 : opAt m_Pr_put 75 = sGo 79 := rfl
theorem i_Pr_put_78 : opAt m_Pr_put 78 = sPush (.int (Int32.ofInt 0)) 79 := rfl
theorem i_Pr_put_79 : opAt m_Pr_put 79 = sIret .boolean := rfl
theorem i_Pr_takeOut_0 : opAt m_Pr_takeOut 0 = sIld 2 1 := rfl
theorem i_Pr_takeOut_1 : opAt m_Pr_takeOut 1 = sIld 1 2 := rfl
theorem i_Pr_takeOut_2 : opAt m_Pr_takeOut 2 = sBI (fun x y => x - y) 3 := rfl
theorem i_Pr_takeOut_3 : opAt m_Pr_takeOut 3 = sPush (.int (Int32.ofInt 1)) 4 := rfl
theorem i_Pr_takeOut_4 : opAt m_Pr_takeOut 4 = sBI (fun x y => x + y) 5 := rfl
theorem i_Pr_takeOut_5 : opAt m_Pr_takeOut 5 = sIst 3 6 := rfl
theorem i_Pr_takeOut_6 : opAt m_Pr_takeOut 6 = sIld 2 7 := rfl
theorem i_Pr_takeOut_7 : opAt m_Pr_takeOut 7 = sPush (.int (Int32.ofInt 1)) 8 := rfl
theorem i_Pr_takeOut_8 : opAt m_Pr_takeOut 8 = sBI (fun x y => x + y) 9 := rfl
theorem i_Pr_takeOut_9 : opAt m_Pr_takeOut 9 = sIst 4 11 := rfl
theorem i_Pr_takeOut_11 : opAt m_Pr_takeOut 11 = sIld 4 13 := rfl
theorem i_Pr_takeOut_13 : opAt m_Pr_takeOut 13 = sAld 0 14 := rfl
theorem i_Pr_takeOut_14 : opAt m_Pr_takeOut 14 = sGet [(5, 0)] 17 := rfl
theorem i_Pr_takeOut_17 : opAt m_Pr_takeOut 17 = sCm .ge 74 20 := rfl
theorem i_Pr_takeOut_20 : opAt m_Pr_takeOut 20 = sAld 0 21 := rfl
theorem i_Pr_takeOut_21 : opAt m_Pr_takeOut 21 = sGet [(5, 1)] 24 := rfl
theorem i_Pr_takeOut_24 : opAt m_Pr_takeOut 24 = sIld 4 26 := rfl
theorem i_Pr_takeOut_26 : opAt m_Pr_takeOut 26 = sIld 3 27 := rfl
theorem i_Pr_takeOut_27 : opAt m_Pr_takeOut 27 = sBI (fun x y => x - y) 28 := rfl
theorem i_Pr_takeOut_28 : opAt m_Pr_takeOut 28 = sAld 0 29 := rfl
theorem i_Pr_takeOut_29 : opAt m_Pr_takeOut 29 = sGet [(5, 1)] 32 := rfl
theorem i_Pr_takeOut_32 : opAt m_Pr_takeOut 32 = sIld 4 34 := rfl
theorem i_Pr_takeOut_34 : opAt m_Pr_takeOut 34 = sIal 35 := rfl
theorem i_Pr_takeOut_35 : opAt m_Pr_takeOut 35 = sIas 36 := rfl
theorem i_Pr_takeOut_36 : opAt m_Pr_takeOut 36 = sAld 0 37 := rfl
theorem i_Pr_takeOut_37 : opAt m_Pr_takeOut 37 = sGet [(5, 2)] 40 := rfl
theorem i_Pr_takeOut_40 : opAt m_Pr_takeOut 40 = sIld 4 42 := rfl
theorem i_Pr_takeOut_42 : opAt m_Pr_takeOut 42 = sIld 3 43 := rfl
theorem i_Pr_takeOut_43 : opAt m_Pr_takeOut 43 = sBI (fun x y => x - y) 44 := rfl
theorem i_Pr_takeOut_44 : opAt m_Pr_takeOut 44 = sAld 0 45 := rfl
theorem i_Pr_takeOut_45 : opAt m_Pr_takeOut 45 = sGet [(5, 2)] 48 := rfl
theorem i_Pr_takeOut_48 : opAt m_Pr_takeOut 48 = sIld 4 50 := rfl
theorem i_Pr_takeOut_50 : opAt m_Pr_takeOut 50 = sIal 51 := rfl
theorem i_Pr_takeOut_51 : opAt m_Pr_takeOut 51 = sIas 52 := rfl
theorem i_Pr_takeOut_52 : opAt m_Pr_takeOut 52 = sAld 0 53 := rfl
theorem i_Pr_takeOut_53 : opAt m_Pr_takeOut 53 = sGet [(5, 3)] 56 := rfl
theorem i_Pr_takeOut_56 : opAt m_Pr_takeOut 56 = sIld 4 58 := rfl
theorem i_Pr_takeOut_58 : opAt m_Pr_takeOut 58 = sIld 3 59 := rfl
theorem i_Pr_takeOut_59 : opAt m_Pr_takeOut 59 = sBI (fun x y => x - y) 60 := rfl
theorem i_Pr_takeOut_60 : opAt m_Pr_takeOut 60 = sAld 0 61 := rfl
theorem i_Pr_takeOut_61 : opAt m_Pr_takeOut 61 = sGet [(5, 3)] 64 := rfl
theorem i_Pr_takeOut_64 : opAt m_Pr_takeOut 64 = sIld 4 66 := rfl
theorem i_Pr_takeOut_66 : opAt m_Pr_takeOut 66 = sIal 67 := rfl
theorem i_Pr_takeOut_67 : opAt m_Pr_takeOut 67 = sIas 68 := rfl
theorem i_Pr_takeOut_68 : opAt m_Pr_takeOut 68 = sInc 4 1 71 := rfl
theorem i_Pr_takeOut_71 : opAt m_Pr_takeOut 71 = sGo 11 := rfl
theorem i_Pr_takeOut_74 : opAt m_Pr_takeOut 74 = sAld 0 75 := rfl
theorem i_Pr_takeOut_75 : opAt m_Pr_takeOut 75 = sDup 76 := rfl
theorem i_Pr_takeOut_76 : opAt m_Pr_takeOut 76 = sGet [(5, 0)] 79 := rfl
theorem i_Pr_takeOut_79 : opAt m_Pr_takeOut 79 = sIld 3 80 := rfl
theorem i_Pr_takeOut_80 : opAt m_Pr_takeOut 80 = sBI (fun x y => x - y) 81 := rfl
theorem i_Pr_takeOut_81 : opAt m_Pr_takeOut 81 = sPut [(5, 0)] (.int) 84 := rfl
theorem i_Pr_takeOut_84 : opAt m_Pr_takeOut 84 = sAld 0 85 := rfl
theorem i_Pr_takeOut_85 : opAt m_Pr_takeOut 85 = sVir [(5, m_Pr_findPlaces)] 0 0 88 := rfl
theorem i_Pr_takeOut_88 : opAt m_Pr_takeOut 88 = sVret := rfl
theorem i_Pr_takeFrom_0 : opAt m_Pr_takeFrom 0 = sAld 0 1 := rfl
theorem i_Pr_takeFrom_1 : opAt m_Pr_takeFrom 1 = sAld 1 2 := rfl
theorem i_Pr_takeFrom_2 : opAt m_Pr_takeFrom 2 = sGet [(5, 0)] 5 := rfl
theorem i_Pr_takeFrom_5 : opAt m_Pr_takeFrom 5 = sPut [(5, 0)] (.int) 8 := rfl
theorem i_Pr_takeFrom_8 : opAt m_Pr_takeFrom 8 = sPush (.int (Int32.ofInt 0)) 9 := rfl
theorem i_Pr_takeFrom_9 : opAt m_Pr_takeFrom 9 = sIst 2 10 := rfl
theorem i_Pr_takeFrom_10 : opAt m_Pr_takeFrom 10 = sIld 2 11 := rfl
theorem i_Pr_takeFrom_11 : opAt m_Pr_takeFrom 11 = sAld 0 12 := rfl
theorem i_Pr_takeFrom_12 : opAt m_Pr_takeFrom 12 = sGet [(5, 0)] 15 := rfl
theorem i_Pr_takeFrom_15 : opAt m_Pr_takeFrom 15 = sCm .ge 60 18 := rfl
theorem i_Pr_takeFrom_18 : opAt m_Pr_takeFrom 18 = sAld 0 19 := rfl
theorem i_Pr_takeFrom_19 : opAt m_Pr_takeFrom 19 = sGet [(5, 1)] 22 := rfl
theorem i_Pr_takeFrom_22 : opAt m_Pr_takeFrom 22 = sIld 2 23 := rfl
theorem i_Pr_takeFrom_23 : opAt m_Pr_takeFrom 23 = sAld 1 24 := rfl
theorem i_Pr_takeFrom_24 : opAt m_Pr_takeFrom 24 = sGet [(5, 1)] 27 := rfl
theorem i_Pr_takeFrom_27 : opAt m_Pr_takeFrom 27 = sIld 2 28 := rfl
theorem i_Pr_takeFrom_28 : opAt m_Pr_takeFrom 28 = sIal 29 := rfl
theorem i_Pr_takeFrom_29 : opAt m_Pr_takeFrom 29 = sIas 30 := rfl
theorem i_Pr_takeFrom_30 : opAt m_Pr_takeFrom 30 = sAld 0 31 := rfl
theorem i_Pr_takeFrom_31 : opAt m_Pr_takeFrom 31 = sGet [(5, 2)] 34 := rfl
theorem i_Pr_takeFrom_34 : opAt m_Pr_takeFrom 34 = sIld 2 35 := rfl
theorem i_Pr_takeFrom_35 : opAt m_Pr_takeFrom 35 = sAld 1 36 := rfl
theorem i_Pr_takeFrom_36 : opAt m_Pr_takeFrom 36 = sGet [(5, 2)] 39 := rfl
theorem i_Pr_takeFrom_39 : opAt m_Pr_takeFrom 39 = sIld 2 40 := rfl
theorem i_Pr_takeFrom_40 : opAt m_Pr_takeFrom 40 = sIal 41 := rfl
theorem i_Pr_takeFrom_41 : opAt m_Pr_takeFrom 41 = sIas 42 := rfl
theorem i_Pr_takeFrom_42 : opAt m_Pr_takeFrom 42 = sAld 0 43 := rfl
theorem i_Pr_takeFrom_43 : opAt m_Pr_takeFrom 43 = sGet [(5, 3)] 46 := rfl
theorem i_Pr_takeFrom_46 : opAt m_Pr_takeFrom 46 = sIld 2 47 := rfl
theorem i_Pr_takeFrom_47 : opAt m_Pr_takeFrom 47 = sAld 1 48 := rfl
theorem i_Pr_takeFrom_48 : opAt m_Pr_takeFrom 48 = sGet [(5, 3)] 51 := rfl
theorem i_Pr_takeFrom_51 : opAt m_Pr_takeFrom 51 = sIld 2 52 := rfl
theorem i_Pr_takeFrom_52 : opAt m_Pr_takeFrom 52 = sIal 53 := rfl
theorem i_Pr_takeFrom_53 : opAt m_Pr_takeFrom 53 = sIas 54 := rfl
theorem i_Pr_takeFrom_54 : opAt m_Pr_takeFrom 54 = sInc 2 1 57 := rfl
theorem i_Pr_takeFrom_57 : opAt m_Pr_takeFrom 57 = sGo 10 := rfl
theorem i_Pr_takeFrom_60 : opAt m_Pr_takeFrom 60 = sAld 0 61 := rfl
theorem i_Pr_takeFrom_61 : opAt m_Pr_takeFrom 61 = sVir [(5, m_Pr_findPlaces)] 0 0 64 := rfl
theorem i_Pr_takeFrom_64 : opAt m_Pr_takeFrom 64 = sVret := rfl
theorem i_Pr_whiten_0 : opAt m_Pr_whiten 0 = sPush (.int (Int32.ofInt 0)) 1 := rfl
theorem i_Pr_whiten_1 : opAt m_Pr_whiten 1 = sIst 1 2 := rfl
theorem i_Pr_whiten_2 : opAt m_Pr_whiten 2 = sIld 1 3 := rfl
theorem i_Pr_whiten_3 : opAt m_Pr_whiten 3 = sAld 0 4 := rfl
theorem i_Pr_whiten_4 : opAt m_Pr_whiten 4 = sGet [(5, 0)] 7 := rfl
theorem i_Pr_whiten_7 : opAt m_Pr_whiten 7 = sCm .ge 38 10 := rfl
theorem i_Pr_whiten_10 : opAt m_Pr_whiten 10 = sAld 0 11 := rfl
theorem i_Pr_whiten_11 : opAt m_Pr_whiten 11 = sGet [(5, 3)] 14 := rfl
theorem i_Pr_whiten_14 : opAt m_Pr_whiten 14 = sIld 1 15 := rfl
theorem i_Pr_whiten_15 : opAt m_Pr_whiten 15 = sDup2 16 := rfl
theorem i_Pr_whiten_16 : opAt m_Pr_whiten 16 = sIal 17 := rfl
theorem i_Pr_whiten_17 : opAt m_Pr_whiten 17 = sAld 0 18 := rfl
theorem i_Pr_whiten_18 : opAt m_Pr_whiten 18 = sGet [(5, 2)] 21 := rfl
theorem i_Pr_whiten_21 : opAt m_Pr_whiten 21 = sIld 1 22 := rfl
theorem i_Pr_whiten_22 : opAt m_Pr_whiten 22 = sIal 23 := rfl
theorem i_Pr_whiten_23 : opAt m_Pr_whiten 23 = sBI (fun x y => x ||| y) 24 := rfl
theorem i_Pr_whiten_24 : opAt m_Pr_whiten 24 = sIas 25 := rfl
theorem i_Pr_whiten_25 : opAt m_Pr_whiten 25 = sAld 0 26 := rfl
theorem i_Pr_whiten_26 : opAt m_Pr_whiten 26 = sGet [(5, 2)] 29 := rfl
theorem i_Pr_whiten_29 : opAt m_Pr_whiten 29 = sIld 1 30 := rfl
theorem i_Pr_whiten_30 : opAt m_Pr_whiten 30 = sPush (.int (Int32.ofInt 0)) 31 := rfl
theorem i_Pr_whiten_31 : opAt m_Pr_whiten 31 = sIas 32 := rfl
theorem i_Pr_whiten_32 : opAt m_Pr_whiten 32 = sInc 1 1 35 := rfl
theorem i_Pr_whiten_35 : opAt m_Pr_whiten 35 = sGo 2 := rfl
theorem i_Pr_whiten_38 : opAt m_Pr_whiten 38 = sVret := rfl
theorem i_Pr_tell_0 : opAt m_Pr_tell 0 = sIld 2 1 := rfl
theorem i_Pr_tell_1 : opAt m_Pr_tell 1 = sSw [(0, 28), (1, 35)] 42 := rfl
theorem i_Pr_tell_28 : opAt m_Pr_tell 28 = sAld 0 29 := rfl
theorem i_Pr_tell_29 : opAt m_Pr_tell 29 = sGet [(5, 1)] 32 := rfl
theorem i_Pr_tell_32 : opAt m_Pr_tell 32 = sIld 1 33 := rfl
theorem i_Pr_tell_33 : opAt m_Pr_tell 33 = sIal 34 := rfl
theorem i_Pr_tell_34 : opAt m_Pr_tell 34 = sIret .int := rfl
theorem i_Pr_tell_35 : opAt m_Pr_tell 35 = sAld 0 36 := rfl
theorem i_Pr_tell_36 : opAt m_Pr_tell 36 = sGet [(5, 2)] 39 := rfl
theorem i_Pr_tell_39 : opAt m_Pr_tell 39 = sIld 1 40 := rfl
theorem i_Pr_tell_40 : opAt m_Pr_tell 40 = sIal 41 := rfl
theorem i_Pr_tell_41 : opAt m_Pr_tell 41 = sIret .int := rfl
theorem i_Pr_tell_42 : opAt m_Pr_tell 42 = sAld 0 43 := rfl
theorem i_Pr_tell_43 : opAt m_Pr_tell 43 = sGet [(5, 3)] 46 := rfl
theorem i_Pr_tell_46 : opAt m_Pr_tell 46 = sIld 1 47 := rfl
theorem i_Pr_tell_47 : opAt m_Pr_tell 47 = sIal 48 := rfl
theorem i_Pr_tell_48 : opAt m_Pr_tell 48 = sIret .int := rfl
theorem i_Ma_mayHaveMarked_0 : opAt m_Ma_mayHaveMarked 0 = sPush (.int (Int32.ofInt 0)) 1 := rfl
theorem i_Ma_mayHaveMarked_1 : opAt m_Ma_mayHaveMarked 1 = sIst 2 2 := rfl
theorem i_Ma_mayHaveMarked_2 : opAt m_Ma_mayHaveMarked 2 = sIld 2 3 := rfl
theorem i_Ma_mayHaveMarked_3 : opAt m_Ma_mayHaveMarked 3 = sAld 0 4 := rfl
theorem i_Ma_mayHaveMarked_4 : opAt m_Ma_mayHaveMarked 4 = sGet [(3, 0)] 7 := rfl
theorem i_Ma_mayHaveMarked_7 : opAt m_Ma_mayHaveMarked 7 = sLen 8 := rfl
theorem i_Ma_mayHaveMarked_8 : opAt m_Ma_mayHaveMarked 8 = sCm .ge 52 11 := rfl
theorem i_Ma_mayHaveMarked_11 : opAt m_Ma_mayHaveMarked 11 = sAld 0 12 := rfl
theorem i_Ma_mayHaveMarked_12 : opAt m_Ma_mayHaveMarked 12 = sGet [(3, 0)] 15 := rfl
theorem i_Ma_mayHaveMarked_15 : opAt m_Ma_mayHaveMarked 15 = sIld 2 16 := rfl
theorem i_Ma_mayHaveMarked_16 : opAt m_Ma_mayHaveMarked 16 = sAal 17 := rfl
theorem i_Ma_mayHaveMarked_17 : opAt m_Ma_mayHaveMarked 17 = sAld 1 18 := rfl
theorem i_Ma_mayHaveMarked_18 : opAt m_Ma_mayHaveMarked 18 = sGet [(5, 0)] 21 := rfl
theorem i_Ma_mayHaveMarked_21 : opAt m_Ma_mayHaveMarked 21 = sVir [(1, m_Ga_touched), (6, m_Ro_touched), (8, m_To_touched), (9, m_Wo_touched)] 0 1 24 := rfl
theorem i_Ma_mayHaveMarked_24 : opAt m_Ma_mayHaveMarked 24 = sAld 1 25 := rfl
theorem i_Ma_mayHaveMarked_25 : opAt m_Ma_mayHaveMarked 25 = sAld 0 26 := rfl
theorem i_Ma_mayHaveMarked_26 : opAt m_Ma_mayHaveMarked 26 = sGet [(3, 0)] 29 := rfl
theorem i_Ma_mayHaveMarked_29 : opAt m_Ma_mayHaveMarked 29 = sIld 2 30 := rfl
theorem i_Ma_mayHaveMarked_30 : opAt m_Ma_mayHaveMarked 30 = sAal 31 := rfl
theorem i_Ma_mayHaveMarked_31 : opAt m_Ma_mayHaveMarked 31 = sGet [(1, 0), (6, 0), (8, 2), (9, 0)] 34 := rfl
theorem i_Ma_mayHaveMarked_34 : opAt m_Ma_mayHaveMarked 34 = sPush (.int (Int32.ofInt 0)) 35 := rfl
theorem i_Ma_mayHaveMarked_35 : opAt m_Ma_mayHaveMarked 35 = sVir [(5, m_Pr_marked)] 0 2 38 := rfl
theorem i_Ma_mayHaveMarked_38 : opAt m_Ma_mayHaveMarked 38 = sSta m_Fi_isAmong 0 2 41 := rfl
theorem i_Ma_mayHaveMarked_41 : opAt m_Ma_mayHaveMarked 41 = sIf .ne 46 44 := rfl
theorem i_Ma_mayHaveMarked_44 : opAt m_Ma_mayHaveMarked 44 = sPush (.int (Int32.ofInt 0)) 45 := rfl
theorem i_Ma_mayHaveMarked_45 : opAt m_Ma_mayHaveMarked 45 = sIret .boolean := rfl
theorem i_Ma_mayHaveMarked_46 : opAt m_Ma_mayHaveMarked 46 = sInc 2 1 49 := rfl
theorem i_Ma_mayHaveMarked_49 : opAt m_Ma_mayHaveMarked 49 = sGo 2 := rfl
theorem i_Ma_mayHaveMarked_52 : opAt m_Ma_mayHaveMarked 52 = sPush (.int (Int32.ofInt 1)) 53 := rfl
theorem i_Ma_mayHaveMarked_53 : opAt m_Ma_mayHaveMarked 53 = sIret .boolean := rfl
theorem i_Pr_marked_0 : opAt m_Pr_marked 0 = sPush (.long (Int64.ofNat ((0 : Fin 2) : Nat))) 1 := rfl
theorem i_Pr_marked_1 : opAt m_Pr_marked 1 = sLst 3 2 := rfl
theorem i_Pr_marked_2 : opAt m_Pr_marked 2 = sPush (.int (Int32.ofInt 0)) 3 := rfl
theorem i_Pr_marked_3 : opAt m_Pr_marked 3 = sIst 5 5 := rfl
theorem i_Pr_marked_5 : opAt m_Pr_marked 5 = sIld 5 7 := rfl
theorem i_Pr_marked_7 : opAt m_Pr_marked 7 = sAld 0 8 := rfl
theorem i_Pr_marked_8 : opAt m_Pr_marked 8 = sGet [(5, 0)] 11 := rfl
theorem i_Pr_marked_11 : opAt m_Pr_marked 11 = sCm .ge 42 14 := rfl
theorem i_Pr_marked_14 : opAt m_Pr_marked 14 = sAld 0 15 := rfl
theorem i_Pr_marked_15 : opAt m_Pr_marked 15 = sIld 5 17 := rfl
theorem i_Pr_marked_17 : opAt m_Pr_marked 17 = sIld 2 18 := rfl
theorem i_Pr_marked_18 : opAt m_Pr_marked 18 = sVir [(5, m_Pr_sidesMarked)] 0 2 21 := rfl
theorem i_Pr_marked_21 : opAt m_Pr_marked 21 = sIL 22 := rfl
theorem i_Pr_marked_22 : opAt m_Pr_marked 22 = sIld 1 23 := rfl
theorem i_Pr_marked_23 : opAt m_Pr_marked 23 = sSta m_Fi_isIn 0 2 26 := rfl
theorem i_Pr_marked_26 : opAt m_Pr_marked 26 = sIf .eq 36 29 := rfl
theorem i_Pr_marked_29 : opAt m_Pr_marked 29 = sLld 3 30 := rfl
theorem i_Pr_marked_30 : opAt m_Pr_marked 30 = sPush (.long (Int64.ofNat ((1 : Fin 2) : Nat))) 31 := rfl
theorem i_Pr_marked_31 : opAt m_Pr_marked 31 = sIld 5 33 := rfl
theorem i_Pr_marked_33 : opAt m_Pr_marked 33 = sSL (fun x y => x <<< (y.toInt64 &&& 63)) 34 := rfl
theorem i_Pr_marked_34 : opAt m_Pr_marked 34 = sBL (fun x y => x ||| y) 35 := rfl
theorem i_Pr_marked_35 : opAt m_Pr_marked 35 = sLst 3 36 := rfl
theorem i_Pr_marked_36 : opAt m_Pr_marked 36 = sInc 5 1 39 := rfl
theorem i_Pr_marked_39 : opAt m_Pr_marked 39 = sGo 5 := rfl
theorem i_Pr_marked_42 : opAt m_Pr_marked 42 = sLld 3 43 := rfl
theorem i_Pr_marked_43 : opAt m_Pr_marked 43 = sLret := rfl
theorem i_Pr_sidesMarked_0 : opAt m_Pr_sidesMarked 0 = sPush (.int (Int32.ofInt 0)) 1 := rfl
theorem i_Pr_sidesMarked_1 : opAt m_Pr_sidesMarked 1 = sIst 3 2 := rfl
theorem i_Pr_sidesMarked_2 : opAt m_Pr_sidesMarked 2 = sIld 2 3 := rfl
theorem i_Pr_sidesMarked_3 : opAt m_Pr_sidesMarked 3 = sPush (.int (Int32.ofInt 1)) 4 := rfl
theorem i_Pr_sidesMarked_4 : opAt m_Pr_sidesMarked 4 = sCm .eq 16 7 := rfl
theorem i_Pr_sidesMarked_7 : opAt m_Pr_sidesMarked 7 = sIld 3 8 := rfl
theorem i_Pr_sidesMarked_8 : opAt m_Pr_sidesMarked 8 = sAld 0 9 := rfl
theorem i_Pr_sidesMarked_9 : opAt m_Pr_sidesMarked 9 = sGet [(5, 2)] 12 := rfl
theorem i_Pr_sidesMarked_12 : opAt m_Pr_sidesMarked 12 = sIld 1 13 := rfl
theorem i_Pr_sidesMarked_13 : opAt m_Pr_sidesMarked 13 = sIal 14 := rfl
theorem i_Pr_sidesMarked_14 : opAt m_Pr_sidesMarked 14 = sBI (fun x y => x ||| y) 15 := rfl
theorem i_Pr_sidesMarked_15 : opAt m_Pr_sidesMarked 15 = sIst 3 16 := rfl
theorem i_Pr_sidesMarked_16 : opAt m_Pr_sidesMarked 16 = sIld 2 17 := rfl
theorem i_Pr_sidesMarked_17 : opAt m_Pr_sidesMarked 17 = sIf .eq 29 20 := rfl
theorem i_Pr_sidesMarked_20 : opAt m_Pr_sidesMarked 20 = sIld 3 21 := rfl
theorem i_Pr_sidesMarked_21 : opAt m_Pr_sidesMarked 21 = sAld 0 22 := rfl
theorem i_Pr_sidesMarked_22 : opAt m_Pr_sidesMarked 22 = sGet [(5, 3)] 25 := rfl
theorem i_Pr_sidesMarked_25 : opAt m_Pr_sidesMarked 25 = sIld 1 26 := rfl
theorem i_Pr_sidesMarked_26 : opAt m_Pr_sidesMarked 26 = sIal 27 := rfl
theorem i_Pr_sidesMarked_27 : opAt m_Pr_sidesMarked 27 = sBI (fun x y => x ||| y) 28 := rfl
theorem i_Pr_sidesMarked_28 : opAt m_Pr_sidesMarked 28 = sIst 3 29 := rfl
theorem i_Pr_sidesMarked_29 : opAt m_Pr_sidesMarked 29 = sIld 3 30 := rfl
theorem i_Pr_sidesMarked_30 : opAt m_Pr_sidesMarked 30 = sIret .int := rfl
theorem i_Pa_append_0 : opAt m_Pa_append 0 = sAld 0 1 := rfl
theorem i_Pa_append_1 : opAt m_Pa_append 1 = sGet [(4, 1)] 4 := rfl
theorem i_Pa_append_4 : opAt m_Pa_append 4 = sPush (.int (Int8.ofInt 40).toInt32) 6 := rfl
theorem i_Pa_append_6 : opAt m_Pa_append 6 = sCm .ge 29 9 := rfl
theorem i_Pa_append_9 : opAt m_Pa_append 9 = sAld 0 10 := rfl
theorem i_Pa_append_10 : opAt m_Pa_append 10 = sGet [(4, 0)] 13 := rfl
theorem i_Pa_append_13 : opAt m_Pa_append 13 = sAld 0 14 := rfl
theorem i_Pa_append_14 : opAt m_Pa_append 14 = sGet [(4, 1)] 17 := rfl
theorem i_Pa_append_17 : opAt m_Pa_append 17 = sIld 1 18 := rfl
theorem i_Pa_append_18 : opAt m_Pa_append 18 = sCas 19 := rfl
theorem i_Pa_append_19 : opAt m_Pa_append 19 = sAld 0 20 := rfl
theorem i_Pa_append_20 : opAt m_Pa_append 20 = sDup 21 := rfl
theorem i_Pa_append_21 : opAt m_Pa_append 21 = sGet [(4, 1)] 24 := rfl
theorem i_Pa_append_24 : opAt m_Pa_append 24 = sPush (.int (Int32.ofInt 1)) 25 := rfl
theorem i_Pa_append_25 : opAt m_Pa_append 25 = sBI (fun x y => x + y) 26 := rfl
theorem i_Pa_append_26 : opAt m_Pa_append 26 = sPut [(4, 1)] (.int) 29 := rfl
theorem i_Pa_append_29 : opAt m_Pa_append 29 = sVret := rfl
theorem i_Jlong_bitCount_0 : opAt m_Jlong_bitCount 0 = sLld 0 1 := rfl
theorem i_Jlong_bitCount_1 : opAt m_Jlong_bitCount 1 = sLld 0 2 := rfl
theorem i_Jlong_bitCount_2 : opAt m_Jlong_bitCount 2 = sPush (.int (Int32.ofInt 1)) 3 := rfl
theorem i_Jlong_bitCount_3 : opAt m_Jlong_bitCount 3 = sSL (fun x y => (x.toUInt64 >>> (y.toInt64.toUInt64 &&& Int64.toUInt64 63)).toInt64) 4 := rfl
theorem i_Jlong_bitCount_4 : opAt m_Jlong_bitCount 4 = sPush (.long (6148914691236517205)) 7 := rfl
theorem i_Jlong_bitCount_7 : opAt m_Jlong_bitCount 7 = sBL (fun x y => x &&& y) 8 := rfl
theorem i_Jlong_bitCount_8 : opAt m_Jlong_bitCount 8 = sBL (fun x y => x - y) 9 := rfl
theorem i_Jlong_bitCount_9 : opAt m_Jlong_bitCount 9 = sLst 0 10 := rfl
theorem i_Jlong_bitCount_10 : opAt m_Jlong_bitCount 10 = sLld 0 11 := rfl
theorem i_Jlong_bitCount_11 : opAt m_Jlong_bitCount 11 = sPush (.long (3689348814741910323)) 14 := rfl
theorem i_Jlong_bitCount_14 : opAt m_Jlong_bitCount 14 = sBL (fun x y => x &&& y) 15 := rfl
theorem i_Jlong_bitCount_15 : opAt m_Jlong_bitCount 15 = sLld 0 16 := rfl
theorem i_Jlong_bitCount_16 : opAt m_Jlong_bitCount 16 = sPush (.int (Int32.ofInt 2)) 17 := rfl
theorem i_Jlong_bitCount_17 : opAt m_Jlong_bitCount 17 = sSL (fun x y => (x.toUInt64 >>> (y.toInt64.toUInt64 &&& Int64.toUInt64 63)).toInt64) 18 := rfl
theorem i_Jlong_bitCount_18 : opAt m_Jlong_bitCount 18 = sPush (.long (3689348814741910323)) 21 := rfl
theorem i_Jlong_bitCount_21 : opAt m_Jlong_bitCount 21 = sBL (fun x y => x &&& y) 22 := rfl
theorem i_Jlong_bitCount_22 : opAt m_Jlong_bitCount 22 = sBL (fun x y => x + y) 23 := rfl
theorem i_Jlong_bitCount_23 : opAt m_Jlong_bitCount 23 = sLst 0 24 := rfl
theorem i_Jlong_bitCount_24 : opAt m_Jlong_bitCount 24 = sLld 0 25 := rfl
theorem i_Jlong_bitCount_25 : opAt m_Jlong_bitCount 25 = sLld 0 26 := rfl
theorem i_Jlong_bitCount_26 : opAt m_Jlong_bitCount 26 = sPush (.int (Int32.ofInt 4)) 27 := rfl
theorem i_Jlong_bitCount_27 : opAt m_Jlong_bitCount 27 = sSL (fun x y => (x.toUInt64 >>> (y.toInt64.toUInt64 &&& Int64.toUInt64 63)).toInt64) 28 := rfl
theorem i_Jlong_bitCount_28 : opAt m_Jlong_bitCount 28 = sBL (fun x y => x + y) 29 := rfl
theorem i_Jlong_bitCount_29 : opAt m_Jlong_bitCount 29 = sPush (.long (1085102592571150095)) 32 := rfl
theorem i_Jlong_bitCount_32 : opAt m_Jlong_bitCount 32 = sBL (fun x y => x &&& y) 33 := rfl
theorem i_Jlong_bitCount_33 : opAt m_Jlong_bitCount 33 = sLst 0 34 := rfl
theorem i_Jlong_bitCount_34 : opAt m_Jlong_bitCount 34 = sLld 0 35 := rfl
theorem i_Jlong_bitCount_35 : opAt m_Jlong_bitCount 35 = sLld 0 36 := rfl
theorem i_Jlong_bitCount_36 : opAt m_Jlong_bitCount 36 = sPush (.int (Int8.ofInt 8).toInt32) 38 := rfl
theorem i_Jlong_bitCount_38 : opAt m_Jlong_bitCount 38 = sSL (fun x y => (x.toUInt64 >>> (y.toInt64.toUInt64 &&& Int64.toUInt64 63)).toInt64) 39 := rfl
theorem i_Jlong_bitCount_39 : opAt m_Jlong_bitCount 39 = sBL (fun x y => x + y) 40 := rfl
theorem i_Jlong_bitCount_40 : opAt m_Jlong_bitCount 40 = sLst 0 41 := rfl
theorem i_Jlong_bitCount_41 : opAt m_Jlong_bitCount 41 = sLld 0 42 := rfl
theorem i_Jlong_bitCount_42 : opAt m_Jlong_bitCount 42 = sLld 0 43 := rfl
theorem i_Jlong_bitCount_43 : opAt m_Jlong_bitCount 43 = sPush (.int (Int8.ofInt 16).toInt32) 45 := rfl
theorem i_Jlong_bitCount_45 : opAt m_Jlong_bitCount 45 = sSL (fun x y => (x.toUInt64 >>> (y.toInt64.toUInt64 &&& Int64.toUInt64 63)).toInt64) 46 := rfl
theorem i_Jlong_bitCount_46 : opAt m_Jlong_bitCount 46 = sBL (fun x y => x + y) 47 := rfl
theorem i_Jlong_bitCount_47 : opAt m_Jlong_bitCount 47 = sLst 0 48 := rfl
theorem i_Jlong_bitCount_48 : opAt m_Jlong_bitCount 48 = sLld 0 49 := rfl
theorem i_Jlong_bitCount_49 : opAt m_Jlong_bitCount 49 = sLld 0 50 := rfl
theorem i_Jlong_bitCount_50 : opAt m_Jlong_bitCount 50 = sPush (.int (Int8.ofInt 32).toInt32) 52 := rfl
theorem i_Jlong_bitCount_52 : opAt m_Jlong_bitCount 52 = sSL (fun x y => (x.toUInt64 >>> (y.toInt64.toUInt64 &&& Int64.toUInt64 63)).toInt64) 53 := rfl
theorem i_Jlong_bitCount_53 : opAt m_Jlong_bitCount 53 = sBL (fun x y => x + y) 54 := rfl
theorem i_Jlong_bitCount_54 : opAt m_Jlong_bitCount 54 = sLst 0 55 := rfl
theorem i_Jlong_bitCount_55 : opAt m_Jlong_bitCount 55 = sLld 0 56 := rfl
theorem i_Jlong_bitCount_56 : opAt m_Jlong_bitCount 56 = sLI 57 := rfl
theorem i_Jlong_bitCount_57 : opAt m_Jlong_bitCount 57 = sPush (.int (Int8.ofInt 127).toInt32) 59 := rfl
theorem i_Jlong_bitCount_59 : opAt m_Jlong_bitCount 59 = sBI (fun x y => x &&& y) 60 := rfl
theorem i_Jlong_bitCount_60 : opAt m_Jlong_bitCount 60 = sIret .int := rfl
theorem i_Sh_addTrace_0 : opAt m_Sh_addTrace 0 = sAld 0 1 := rfl
theorem i_Sh_addTrace_1 : opAt m_Sh_addTrace 1 = sGet [(7, 4)] 4 := rfl
theorem i_Sh_addTrace_4 : opAt m_Sh_addTrace 4 = sPush (.int (Int32.ofInt 4)) 5 := rfl
theorem i_Sh_addTrace_5 : opAt m_Sh_addTrace 5 = sCm .lt 10 8 := rfl
theorem i_Sh_addTrace_8 : opAt m_Sh_addTrace 8 = sPush (.int (Int32.ofInt 0)) 9 := rfl
theorem i_Sh_addTrace_9 : opAt m_Sh_addTrace 9 = sIret .boolean := rfl
theorem i_Sh_addTrace_10 : opAt m_Sh_addTrace 10 = sAld 0 11 := rfl
theorem i_Sh_addTrace_11 : opAt m_Sh_addTrace 11 = sGet [(7, 2)] 14 := rfl
theorem i_Sh_addTrace_14 : opAt m_Sh_addTrace 14 = sAld 0 15 := rfl
theorem i_Sh_addTrace_15 : opAt m_Sh_addTrace 15 = sGet [(7, 4)] 18 := rfl
theorem i_Sh_addTrace_18 : opAt m_Sh_addTrace 18 = sIld 1 19 := rfl
theorem i_Sh_addTrace_19 : opAt m_Sh_addTrace 19 = sIas 20 := rfl
theorem i_Sh_addTrace_20 : opAt m_Sh_addTrace 20 = sAld 0 21 := rfl
theorem i_Sh_addTrace_21 : opAt m_Sh_addTrace 21 = sGet [(7, 3)] 24 := rfl
theorem i_Sh_addTrace_24 : opAt m_Sh_addTrace 24 = sAld 0 25 := rfl
theorem i_Sh_addTrace_25 : opAt m_Sh_addTrace 25 = sGet [(7, 4)] 28 := rfl
theorem i_Sh_addTrace_28 : opAt m_Sh_addTrace 28 = sIld 2 29 := rfl
theorem i_Sh_addTrace_29 : opAt m_Sh_addTrace 29 = sIas 30 := rfl
theorem i_Sh_addTrace_30 : opAt m_Sh_addTrace 30 = sAld 0 31 := rfl
theorem i_Sh_addTrace_31 : opAt m_Sh_addTrace 31 = sDup 32 := rfl
theorem i_Sh_addTrace_32 : opAt m_Sh_addTrace 32 = sGet [(7, 4)] 35 := rfl
theorem i_Sh_addTrace_35 : opAt m_Sh_addTrace 35 = sPush (.int (Int32.ofInt 1)) 36 := rfl
theorem i_Sh_addTrace_36 : opAt m_Sh_addTrace 36 = sBI (fun x y => x + y) 37 := rfl
theorem i_Sh_addTrace_37 : opAt m_Sh_addTrace 37 = sPut [(7, 4)] (.int) 40 := rfl
theorem i_Sh_addTrace_40 : opAt m_Sh_addTrace 40 = sPush (.int (Int32.ofInt 1)) 41 := rfl
theorem i_Sh_addTrace_41 : opAt m_Sh_addTrace 41 = sIret .boolean := rfl
theorem i_Sh_tracesAllow_0 : opAt m_Sh_tracesAllow 0 = sPush (.int (Int32.ofInt 0)) 1 := rfl
theorem i_Sh_tracesAllow_1 : opAt m_Sh_tracesAllow 1 = sIst 4 3 := rfl
theorem i_Sh_tracesAllow_3 : opAt m_Sh_tracesAllow 3 = sIld 4 5 := rfl
theorem i_Sh_tracesAllow_5 : opAt m_Sh_tracesAllow 5 = sAld 0 6 := rfl
theorem i_Sh_tracesAllow_6 : opAt m_Sh_tracesAllow 6 = sGet [(7, 4)] 9 := rfl
theorem i_Sh_tracesAllow_9 : opAt m_Sh_tracesAllow 9 = sCm .ge 89 12 := rfl
theorem i_Sh_tracesAllow_12 : opAt m_Sh_tracesAllow 12 = sAld 1 13 := rfl
theorem i_Sh_tracesAllow_13 : opAt m_Sh_tracesAllow 13 = sIld 2 14 := rfl
theorem i_Sh_tracesAllow_14 : opAt m_Sh_tracesAllow 14 = sAld 0 15 := rfl
theorem i_Sh_tracesAllow_15 : opAt m_Sh_tracesAllow 15 = sGet [(7, 2)] 18 := rfl
theorem i_Sh_tracesAllow_18 : opAt m_Sh_tracesAllow 18 = sIld 4 20 := rfl
theorem i_Sh_tracesAllow_20 : opAt m_Sh_tracesAllow 20 = sIal 21 := rfl
theorem i_Sh_tracesAllow_21 : opAt m_Sh_tracesAllow 21 = sVir [(5, m_Pr_lastAhead)] 0 2 24 := rfl
theorem i_Sh_tracesAllow_24 : opAt m_Sh_tracesAllow 24 = sIst 5 26 := rfl
theorem i_Sh_tracesAllow_26 : opAt m_Sh_tracesAllow 26 = sAld 1 27 := rfl
theorem i_Sh_tracesAllow_27 : opAt m_Sh_tracesAllow 27 = sIld 2 28 := rfl
theorem i_Sh_tracesAllow_28 : opAt m_Sh_tracesAllow 28 = sAld 0 29 := rfl
theorem i_Sh_tracesAllow_29 : opAt m_Sh_tracesAllow 29 = sGet [(7, 2)] 32 := rfl
theorem i_Sh_tracesAllow_32 : opAt m_Sh_tracesAllow 32 = sIld 4 34 := rfl
theorem i_Sh_tracesAllow_34 : opAt m_Sh_tracesAllow 34 = sIal 35 := rfl
theorem i_Sh_tracesAllow_35 : opAt m_Sh_tracesAllow 35 = sVir [(5, m_Pr_firstFrom)] 0 2 38 := rfl
theorem i_Sh_tracesAllow_38 : opAt m_Sh_tracesAllow 38 = sIst 6 40 := rfl
theorem i_Sh_tracesAllow_40 : opAt m_Sh_tracesAllow 40 = sAld 0 41 := rfl
theorem i_Sh_tracesAllow_41 : opAt m_Sh_tracesAllow 41 = sGet [(7, 3)] 44 := rfl
theorem i_Sh_tracesAllow_44 : opAt m_Sh_tracesAllow 44 = sIld 4 46 := rfl
theorem i_Sh_tracesAllow_46 : opAt m_Sh_tracesAllow 46 = sIal 47 := rfl
theorem i_Sh_tracesAllow_47 : opAt m_Sh_tracesAllow 47 = sIst 7 49 := rfl
theorem i_Sh_tracesAllow_49 : opAt m_Sh_tracesAllow 49 = sIld 5 51 := rfl
theorem i_Sh_tracesAllow_51 : opAt m_Sh_tracesAllow 51 = sPush (.int (Int32.ofInt (-1))) 52 := rfl
theorem i_Sh_tracesAllow_52 : opAt m_Sh_tracesAllow 52 = sCm .eq 83 55 := rfl
theorem i_Sh_tracesAllow_55 : opAt m_Sh_tracesAllow 55 = sIld 6 57 := rfl
theorem i_Sh_tracesAllow_57 : opAt m_Sh_tracesAllow 57 = sPush (.int (Int32.ofInt (-1))) 58 := rfl
theorem i_Sh_tracesAllow_58 : opAt m_Sh_tracesAllow 58 = sCm .eq 83 61 := rfl
theorem i_Sh_tracesAllow_61 : opAt m_Sh_tracesAllow 61 = sIld 7 63 := rfl
theorem i_Sh_tracesAllow_63 : opAt m_Sh_tracesAllow 63 = sIf .le 83 66 := rfl
theorem i_Sh_tracesAllow_66 : opAt m_Sh_tracesAllow 66 = sIld 5 68 := rfl
theorem i_Sh_tracesAllow_68 : opAt m_Sh_tracesAllow 68 = sIld 7 70 := rfl
theorem i_Sh_tracesAllow_70 : opAt m_Sh_tracesAllow 70 = sDI (fun x y => x - x / y * y) 71 := rfl
theorem i_Sh_tracesAllow_71 : opAt m_Sh_tracesAllow 71 = sIld 6 73 := rfl
theorem i_Sh_tracesAllow_73 : opAt m_Sh_tracesAllow 73 = sIld 3 74 := rfl
theorem i_Sh_tracesAllow_74 : opAt m_Sh_tracesAllow 74 = sBI (fun x y => x + y) 75 := rfl
theorem i_Sh_tracesAllow_75 : opAt m_Sh_tracesAllow 75 = sIld 7 77 := rfl
theorem i_Sh_tracesAllow_77 : opAt m_Sh_tracesAllow 77 = sDI (fun x y => x - x / y * y) 78 := rfl
theorem i_Sh_tracesAllow_78 : opAt m_Sh_tracesAllow 78 = sCm .eq 83 81 := rfl
theorem i_Sh_tracesAllow_81 : opAt m_Sh_tracesAllow 81 = sPush (.int (Int32.ofInt 0)) 82 := rfl
theorem i_Sh_tracesAllow_82 : opAt m_Sh_tracesAllow 82 = sIret .boolean := rfl
theorem i_Sh_tracesAllow_83 : opAt m_Sh_tracesAllow 83 = sInc 4 1 86 := rfl
theorem i_Sh_tracesAllow_86 : opAt m_Sh_tracesAllow 86 = sGo 3 := rfl
theorem i_Sh_tracesAllow_89 : opAt m_Sh_tracesAllow 89 = sPush (.int (Int32.ofInt 1)) 90 := rfl
theorem i_Sh_tracesAllow_90 : opAt m_Sh_tracesAllow 90 = sIret .boolean := rfl
theorem i_Pr_lastAhead_0 : opAt m_Pr_lastAhead 0 = sIld 1 1 := rfl
theorem i_Pr_lastAhead_1 : opAt m_Pr_lastAhead 1 = sAld 0 2 := rfl
theorem i_Pr_lastAhead_2 : opAt m_Pr_lastAhead 2 = sGet [(5, 0)] 5 := rfl
theorem i_Pr_lastAhead_5 : opAt m_Pr_lastAhead 5 = sMin 8 := rfl
theorem i_Pr_lastAhead_8 : opAt m_Pr_lastAhead 8 = sPush (.int (Int32.ofInt 1)) 9 := rfl
theorem i_Pr_lastAhead_9 : opAt m_Pr_lastAhead 9 = sBI (fun x y => x - y) 10 := rfl
theorem i_Pr_lastAhead_10 : opAt m_Pr_lastAhead 10 = sIst 3 11 := rfl
theorem i_Pr_lastAhead_11 : opAt m_Pr_lastAhead 11 = sIld 3 12 := rfl
theorem i_Pr_lastAhead_12 : opAt m_Pr_lastAhead 12 = sIf .lt 37 15 := rfl
theorem i_Pr_lastAhead_15 : opAt m_Pr_lastAhead 15 = sAld 0 16 := rfl
theorem i_Pr_lastAhead_16 : opAt m_Pr_lastAhead 16 = sGet [(5, 2)] 19 := rfl
theorem i_Pr_lastAhead_19 : opAt m_Pr_lastAhead 19 = sIld 3 20 := rfl
theorem i_Pr_lastAhead_20 : opAt m_Pr_lastAhead 20 = sIal 21 := rfl
theorem i_Pr_lastAhead_21 : opAt m_Pr_lastAhead 21 = sIL 22 := rfl
theorem i_Pr_lastAhead_22 : opAt m_Pr_lastAhead 22 = sIld 2 23 := rfl
theorem i_Pr_lastAhead_23 : opAt m_Pr_lastAhead 23 = sSta m_Fi_isIn 0 2 26 := rfl
theorem i_Pr_lastAhead_26 : opAt m_Pr_lastAhead 26 = sIf .eq 31 29 := rfl
theorem i_Pr_lastAhead_29 : opAt m_Pr_lastAhead 29 = sIld 3 30 := rfl
theorem i_Pr_lastAhead_30 : opAt m_Pr_lastAhead 30 = sIret .int := rfl
theorem i_Pr_lastAhead_31 : opAt m_Pr_lastAhead 31 = sInc 3 (-1) 34 := rfl
theorem i_Pr_lastAhead_34 : opAt m_Pr_lastAhead 34 = sGo 11 := rfl
theorem i_Pr_lastAhead_37 : opAt m_Pr_lastAhead 37 = sPush (.int (Int32.ofInt (-1))) 38 := rfl
theorem i_Pr_lastAhead_38 : opAt m_Pr_lastAhead 38 = sIret .int := rfl
theorem i_Pr_firstFrom_0 : opAt m_Pr_firstFrom 0 = sIld 1 1 := rfl
theorem i_Pr_firstFrom_1 : opAt m_Pr_firstFrom 1 = sPush (.int (Int32.ofInt 0)) 2 := rfl
theorem i_Pr_firstFrom_2 : opAt m_Pr_firstFrom 2 = sMax 5 := rfl
theorem i_Pr_firstFrom_5 : opAt m_Pr_firstFrom 5 = sIst 3 6 := rfl
theorem i_Pr_firstFrom_6 : opAt m_Pr_firstFrom 6 = sIld 3 7 := rfl
theorem i_Pr_firstFrom_7 : opAt m_Pr_firstFrom 7 = sAld 0 8 := rfl
theorem i_Pr_firstFrom_8 : opAt m_Pr_firstFrom 8 = sGet [(5, 0)] 11 := rfl
theorem i_Pr_firstFrom_11 : opAt m_Pr_firstFrom 11 = sCm .ge 36 14 := rfl
theorem i_Pr_firstFrom_14 : opAt m_Pr_firstFrom 14 = sAld 0 15 := rfl
theorem i_Pr_firstFrom_15 : opAt m_Pr_firstFrom 15 = sGet [(5, 2)] 18 := rfl
theorem i_Pr_firstFrom_18 : opAt m_Pr_firstFrom 18 = sIld 3 19 := rfl
theorem i_Pr_firstFrom_19 : opAt m_Pr_firstFrom 19 = sIal 20 := rfl
theorem i_Pr_firstFrom_20 : opAt m_Pr_firstFrom 20 = sIL 21 := rfl
theorem i_Pr_firstFrom_21 : opAt m_Pr_firstFrom 21 = sIld 2 22 := rfl
theorem i_Pr_firstFrom_22 : opAt m_Pr_firstFrom 22 = sSta m_Fi_isIn 0 2 25 := rfl
theorem i_Pr_firstFrom_25 : opAt m_Pr_firstFrom 25 = sIf .eq 30 28 := rfl
theorem i_Pr_firstFrom_28 : opAt m_Pr_firstFrom 28 = sIld 3 29 := rfl
theorem i_Pr_firstFrom_29 : opAt m_Pr_firstFrom 29 = sIret .int := rfl
theorem i_Pr_firstFrom_30 : opAt m_Pr_firstFrom 30 = sInc 3 1 33 := rfl
theorem i_Pr_firstFrom_33 : opAt m_Pr_firstFrom 33 = sGo 6 := rfl
theorem i_Pr_firstFrom_36 : opAt m_Pr_firstFrom 36 = sPush (.int (Int32.ofInt (-1))) 37 := rfl
theorem i_Pr_firstFrom_37 : opAt m_Pr_firstFrom 37 = sIret .int := rfl
theorem i_Sh_pictures_0 : opAt m_Sh_pictures 0 = sPush (.int (Int32.ofInt 0)) 1 := rfl
theorem i_Sh_pictures_1 : opAt m_Sh_pictures 1 = sIst 1 2 := rfl
theorem i_Sh_pictures_2 : opAt m_Sh_pictures 2 = sPush (.int (Int32.ofInt 0)) 3 := rfl
theorem i_Sh_pictures_3 : opAt m_Sh_pictures 3 = sIst 2 4 := rfl
theorem i_Sh_pictures_4 : opAt m_Sh_pictures 4 = sIld 2 5 := rfl
theorem i_Sh_pictures_5 : opAt m_Sh_pictures 5 = sAld 0 6 := rfl
theorem i_Sh_pictures_6 : opAt m_Sh_pictures 6 = sGet [(7, 1)] 9 := rfl
theorem i_Sh_pictures_9 : opAt m_Sh_pictures 9 = sCm .ge 30 12 := rfl
theorem i_Sh_pictures_12 : opAt m_Sh_pictures 12 = sIld 1 13 := rfl
theorem i_Sh_pictures_13 : opAt m_Sh_pictures 13 = sAld 0 14 := rfl
theorem i_Sh_pictures_14 : opAt m_Sh_pictures 14 = sGet [(7, 0)] 17 := rfl
theorem i_Sh_pictures_17 : opAt m_Sh_pictures 17 = sIld 2 18 := rfl
theorem i_Sh_pictures_18 : opAt m_Sh_pictures 18 = sAal 19 := rfl
theorem i_Sh_pictures_19 : opAt m_Sh_pictures 19 = sGet [(5, 0)] 22 := rfl
theorem i_Sh_pictures_22 : opAt m_Sh_pictures 22 = sBI (fun x y => x + y) 23 := rfl
theorem i_Sh_pictures_23 : opAt m_Sh_pictures 23 = sIst 1 24 := rfl
theorem i_Sh_pictures_24 : opAt m_Sh_pictures 24 = sInc 2 1 27 := rfl
theorem i_Sh_pictures_27 : opAt m_Sh_pictures 27 = sGo 4 := rfl
theorem i_Sh_pictures_30 : opAt m_Sh_pictures 30 = sIld 1 31 := rfl
theorem i_Sh_pictures_31 : opAt m_Sh_pictures 31 = sIret .int := rfl
theorem i_Sh_marks_0 : opAt m_Sh_marks 0 = sPush (.int (Int32.ofInt 0)) 1 := rfl
theorem i_Sh_marks_1 : opAt m_Sh_marks 1 = sIst 1 2 := rfl
theorem i_Sh_marks_2 : opAt m_Sh_marks 2 = sPush (.int (Int32.ofInt 0)) 3 := rfl
theorem i_Sh_marks_3 : opAt m_Sh_marks 3 = sIst 2 4 := rfl
theorem i_Sh_marks_4 : opAt m_Sh_marks 4 = sIld 2 5 := rfl
theorem i_Sh_marks_5 : opAt m_Sh_marks 5 = sAld 0 6 := rfl
theorem i_Sh_marks_6 : opAt m_Sh_marks 6 = sGet [(7, 1)] 9 := rfl
theorem i_Sh_marks_9 : opAt m_Sh_marks 9 = sCm .ge 52 12 := rfl
theorem i_Sh_marks_12 : opAt m_Sh_marks 12 = sPush (.int (Int32.ofInt 0)) 13 := rfl
theorem i_Sh_marks_13 : opAt m_Sh_marks 13 = sIst 3 14 := rfl
theorem i_Sh_marks_14 : opAt m_Sh_marks 14 = sIld 3 15 := rfl
theorem i_Sh_marks_15 : opAt m_Sh_marks 15 = sAld 0 16 := rfl
theorem i_Sh_marks_16 : opAt m_Sh_marks 16 = sGet [(7, 0)] 19 := rfl
theorem i_Sh_marks_19 : opAt m_Sh_marks 19 = sIld 2 20 := rfl
theorem i_Sh_marks_20 : opAt m_Sh_marks 20 = sAal 21 := rfl
theorem i_Sh_marks_21 : opAt m_Sh_marks 21 = sGet [(5, 0)] 24 := rfl
theorem i_Sh_marks_24 : opAt m_Sh_marks 24 = sCm .ge 46 27 := rfl
theorem i_Sh_marks_27 : opAt m_Sh_marks 27 = sIld 1 28 := rfl
theorem i_Sh_marks_28 : opAt m_Sh_marks 28 = sAld 0 29 := rfl
theorem i_Sh_marks_29 : opAt m_Sh_marks 29 = sGet [(7, 0)] 32 := rfl
theorem i_Sh_marks_32 : opAt m_Sh_marks 32 = sIld 2 33 := rfl
theorem i_Sh_marks_33 : opAt m_Sh_marks 33 = sAal 34 := rfl
theorem i_Sh_marks_34 : opAt m_Sh_marks 34 = sIld 3 35 := rfl
theorem i_Sh_marks_35 : opAt m_Sh_marks 35 = sVir [(5, m_Pr_marksOn)] 0 1 38 := rfl
theorem i_Sh_marks_38 : opAt m_Sh_marks 38 = sBI (fun x y => x + y) 39 := rfl
theorem i_Sh_marks_39 : opAt m_Sh_marks 39 = sIst 1 40 := rfl
theorem i_Sh_marks_40 : opAt m_Sh_marks 40 = sInc 3 1 43 := rfl
theorem i_Sh_marks_43 : opAt m_Sh_marks 43 = sGo 14 := rfl
theorem i_Sh_marks_46 : opAt m_Sh_marks 46 = sInc 2 1 49 := rfl
theorem i_Sh_marks_49 : opAt m_Sh_marks 49 = sGo 4 := rfl
theorem i_Sh_marks_52 : opAt m_Sh_marks 52 = sIld 1 53 := rfl
theorem i_Sh_marks_53 : opAt m_Sh_marks 53 = sIret .int := rfl
theorem i_Pr_marksOn_0 : opAt m_Pr_marksOn 0 = sAld 0 1 := rfl
theorem i_Pr_marksOn_1 : opAt m_Pr_marksOn 1 = sGet [(5, 2)] 4 := rfl
theorem i_Pr_marksOn_4 : opAt m_Pr_marksOn 4 = sIld 1 5 := rfl
theorem i_Pr_marksOn_5 : opAt m_Pr_marksOn 5 = sIal 6 := rfl
theorem i_Pr_marksOn_6 : opAt m_Pr_marksOn 6 = sSta m_Jint_bitCount 0 1 9 := rfl
theorem i_Pr_marksOn_9 : opAt m_Pr_marksOn 9 = sAld 0 10 := rfl
theorem i_Pr_marksOn_10 : opAt m_Pr_marksOn 10 = sGet [(5, 3)] 13 := rfl
theorem i_Pr_marksOn_13 : opAt m_Pr_marksOn 13 = sIld 1 14 := rfl
theorem i_Pr_marksOn_14 : opAt m_Pr_marksOn 14 = sIal 15 := rfl
theorem i_Pr_marksOn_15 : opAt m_Pr_marksOn 15 = sSta m_Jint_bitCount 0 1 18 := rfl
theorem i_Pr_marksOn_18 : opAt m_Pr_marksOn 18 = sBI (fun x y => x + y) 19 := rfl
theorem i_Pr_marksOn_19 : opAt m_Pr_marksOn 19 = sIret .int := rfl
theorem i_Jint_bitCount_0 : opAt m_Jint_bitCount 0 = sIld 0 1 := rfl
theorem i_Jint_bitCount_1 : opAt m_Jint_bitCount 1 = sIld 0 2 := rfl
theorem i_Jint_bitCount_2 : opAt m_Jint_bitCount 2 = sPush (.int (Int32.ofInt 1)) 3 := rfl
theorem i_Jint_bitCount_3 : opAt m_Jint_bitCount 3 = sBI (fun x y => (x.toUInt32 >>> (y.toUInt32 &&& Int32.toUInt32 31)).toInt32) 4 := rfl
theorem i_Jint_bitCount_4 : opAt m_Jint_bitCount 4 = sPush (.int (1431655765)) 7 := rfl
theorem i_Jint_bitCount_7 : opAt m_Jint_bitCount 7 = sBI (fun x y => x &&& y) 8 := rfl
theorem i_Jint_bitCount_8 : opAt m_Jint_bitCount 8 = sBI (fun x y => x - y) 9 := rfl
theorem i_Jint_bitCount_9 : opAt m_Jint_bitCount 9 = sIst 0 10 := rfl
theorem i_Jint_bitCount_10 : opAt m_Jint_bitCount 10 = sIld 0 11 := rfl
theorem i_Jint_bitCount_11 : opAt m_Jint_bitCount 11 = sPush (.int (858993459)) 14 := rfl
theorem i_Jint_bitCount_14 : opAt m_Jint_bitCount 14 = sBI (fun x y => x &&& y) 15 := rfl
theorem i_Jint_bitCount_15 : opAt m_Jint_bitCount 15 = sIld 0 16 := rfl
theorem i_Jint_bitCount_16 : opAt m_Jint_bitCount 16 = sPush (.int (Int32.ofInt 2)) 17 := rfl
theorem i_Jint_bitCount_17 : opAt m_Jint_bitCount 17 = sBI (fun x y => (x.toUInt32 >>> (y.toUInt32 &&& Int32.toUInt32 31)).toInt32) 18 := rfl
theorem i_Jint_bitCount_18 : opAt m_Jint_bitCount 18 = sPush (.int (858993459)) 21 := rfl
theorem i_Jint_bitCount_21 : opAt m_Jint_bitCount 21 = sBI (fun x y => x &&& y) 22 := rfl
theorem i_Jint_bitCount_22 : opAt m_Jint_bitCount 22 = sBI (fun x y => x + y) 23 := rfl
theorem i_Jint_bitCount_23 : opAt m_Jint_bitCount 23 = sIst 0 24 := rfl
theorem i_Jint_bitCount_24 : opAt m_Jint_bitCount 24 = sIld 0 25 := rfl
theorem i_Jint_bitCount_25 : opAt m_Jint_bitCount 25 = sIld 0 26 := rfl
theorem i_Jint_bitCount_26 : opAt m_Jint_bitCount 26 = sPush (.int (Int32.ofInt 4)) 27 := rfl
theorem i_Jint_bitCount_27 : opAt m_Jint_bitCount 27 = sBI (fun x y => (x.toUInt32 >>> (y.toUInt32 &&& Int32.toUInt32 31)).toInt32) 28 := rfl
theorem i_Jint_bitCount_28 : opAt m_Jint_bitCount 28 = sBI (fun x y => x + y) 29 := rfl
theorem i_Jint_bitCount_29 : opAt m_Jint_bitCount 29 = sPush (.int (252645135)) 32 := rfl
theorem i_Jint_bitCount_32 : opAt m_Jint_bitCount 32 = sBI (fun x y => x &&& y) 33 := rfl
theorem i_Jint_bitCount_33 : opAt m_Jint_bitCount 33 = sIst 0 34 := rfl
theorem i_Jint_bitCount_34 : opAt m_Jint_bitCount 34 = sIld 0 35 := rfl
theorem i_Jint_bitCount_35 : opAt m_Jint_bitCount 35 = sIld 0 36 := rfl
theorem i_Jint_bitCount_36 : opAt m_Jint_bitCount 36 = sPush (.int (Int8.ofInt 8).toInt32) 38 := rfl
theorem i_Jint_bitCount_38 : opAt m_Jint_bitCount 38 = sBI (fun x y => (x.toUInt32 >>> (y.toUInt32 &&& Int32.toUInt32 31)).toInt32) 39 := rfl
theorem i_Jint_bitCount_39 : opAt m_Jint_bitCount 39 = sBI (fun x y => x + y) 40 := rfl
theorem i_Jint_bitCount_40 : opAt m_Jint_bitCount 40 = sIst 0 41 := rfl
theorem i_Jint_bitCount_41 : opAt m_Jint_bitCount 41 = sIld 0 42 := rfl
theorem i_Jint_bitCount_42 : opAt m_Jint_bitCount 42 = sIld 0 43 := rfl
theorem i_Jint_bitCount_43 : opAt m_Jint_bitCount 43 = sPush (.int (Int8.ofInt 16).toInt32) 45 := rfl
theorem i_Jint_bitCount_45 : opAt m_Jint_bitCount 45 = sBI (fun x y => (x.toUInt32 >>> (y.toUInt32 &&& Int32.toUInt32 31)).toInt32) 46 := rfl
theorem i_Jint_bitCount_46 : opAt m_Jint_bitCount 46 = sBI (fun x y => x + y) 47 := rfl
theorem i_Jint_bitCount_47 : opAt m_Jint_bitCount 47 = sIst 0 48 := rfl
theorem i_Jint_bitCount_48 : opAt m_Jint_bitCount 48 = sIld 0 49 := rfl
theorem i_Jint_bitCount_49 : opAt m_Jint_bitCount 49 = sPush (.int (Int8.ofInt 63).toInt32) 51 := rfl
theorem i_Jint_bitCount_51 : opAt m_Jint_bitCount 51 = sBI (fun x y => x &&& y) 52 := rfl
theorem i_Jint_bitCount_52 : opAt m_Jint_bitCount 52 = sIret .int := rfl
