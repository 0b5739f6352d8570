/-! EACH INSTRUCTION AS A STEP -/
theorem i_Fi_init_0 : opAt m_Fi_init 0 = sAld 0 1 := rfl
theorem i_Fi_init_1 : opAt m_Fi_init 1 = sObj 4 := rfl
theorem i_Fi_init_4 : opAt m_Fi_init 4 = sAld 0 5 := rfl
theorem i_Fi_init_5 : opAt m_Fi_init 5 = sNew 4 [.null, .int 0, .null, .null, .null, .null, .int 0, .int 0] 8 := rfl
theorem i_Fi_init_8 : opAt m_Fi_init 8 = sDup 9 := rfl
theorem i_Fi_init_9 : opAt m_Fi_init 9 = sSpe m_Pa_init 5 0 12 := rfl
theorem i_Fi_init_12 : opAt m_Fi_init 12 = sPut [(10, 0)] (.object "LinesDownFilm$Page") 15 := rfl
theorem i_Fi_init_15 : opAt m_Fi_init 15 = sAld 0 16 := rfl
theorem i_Fi_init_16 : opAt m_Fi_init 16 = sPush (.int (Int8.ofInt 6).toInt32) 18 := rfl
theorem i_Fi_init_18 : opAt m_Fi_init 18 = sNar 3 (.inr (.inr (.inr (.inr (fun _ => none))))) 21 := rfl
theorem i_Fi_init_21 : opAt m_Fi_init 21 = sPut [(10, 1)] (.array (.object "LinesDownFilm$Machine")) 24 := rfl
theorem i_Fi_init_24 : opAt m_Fi_init 24 = sAld 0 25 := rfl
theorem i_Fi_init_25 : opAt m_Fi_init 25 = sPush (.int (Int32.ofInt 0)) 26 := rfl
theorem i_Fi_init_26 : opAt m_Fi_init 26 = sPut [(10, 2)] (.int) 29 := rfl
theorem i_Fi_init_29 : opAt m_Fi_init 29 = sAld 0 30 := rfl
theorem i_Fi_init_30 : opAt m_Fi_init 30 = sNew 7 [.null, .int 0, .null, .null, .int 0] 33 := rfl
theorem i_Fi_init_33 : opAt m_Fi_init 33 = sDup 34 := rfl
theorem i_Fi_init_34 : opAt m_Fi_init 34 = sSpe m_Sh_init 33 0 37 := rfl
theorem i_Fi_init_37 : opAt m_Fi_init 37 = sPut [(10, 3)] (.object "LinesDownFilm$Shelf") 40 := rfl
theorem i_Fi_init_40 : opAt m_Fi_init 40 = sAld 0 41 := rfl
theorem i_Fi_init_41 : opAt m_Fi_init 41 = sNew 7 [.null, .int 0, .null, .null, .int 0] 44 := rfl
theorem i_Fi_init_44 : opAt m_Fi_init 44 = sDup 45 := rfl
theorem i_Fi_init_45 : opAt m_Fi_init 45 = sSpe m_Sh_init 33 0 48 := rfl
theorem i_Fi_init_48 : opAt m_Fi_init 48 = sPut [(10, 4)] (.object "LinesDownFilm$Shelf") 51 := rfl
theorem i_Fi_init_51 : opAt m_Fi_init 51 = sAld 0 52 := rfl
theorem i_Fi_init_52 : opAt m_Fi_init 52 = sPush (.int (Int32.ofInt 0)) 53 := rfl
theorem i_Fi_init_53 : opAt m_Fi_init 53 = sPut [(10, 5)] (.boolean) 56 := rfl
theorem i_Fi_init_56 : opAt m_Fi_init 56 = sAld 0 57 := rfl
theorem i_Fi_init_57 : opAt m_Fi_init 57 = sNew 0 [.null, .null, .null, .null, .int 0, .int 0] 60 := rfl
theorem i_Fi_init_60 : opAt m_Fi_init 60 = sDup 61 := rfl
theorem i_Fi_init_61 : opAt m_Fi_init 61 = sSpe m_De_init 10 0 64 := rfl
theorem i_Fi_init_64 : opAt m_Fi_init 64 = sPut [(10, 6)] (.object "LinesDownFilm$Descent") 67 := rfl
theorem i_Fi_init_67 : opAt m_Fi_init 67 = sAld 0 68 := rfl
theorem i_Fi_init_68 : opAt m_Fi_init 68 = sNew 2 [.null, .null, .int 0, .int 0, .int 0] 71 := rfl
theorem i_Fi_init_71 : opAt m_Fi_init 71 = sDup 72 := rfl
theorem i_Fi_init_72 : opAt m_Fi_init 72 = sSpe m_Jo_init 50 0 75 := rfl
theorem i_Fi_init_75 : opAt m_Fi_init 75 = sPut [(10, 7)] (.object "LinesDownFilm$Joining") 78 := rfl
theorem i_Fi_init_78 : opAt m_Fi_init 78 = sAld 0 79 := rfl
theorem i_Fi_init_79 : opAt m_Fi_init 79 = sPush (.int (Int32.ofInt 0)) 80 := rfl
theorem i_Fi_init_80 : opAt m_Fi_init 80 = sPut [(10, 8)] (.int) 83 := rfl
theorem i_Fi_init_83 : opAt m_Fi_init 83 = sVret := rfl
theorem i_Fi_machine_0 : opAt m_Fi_machine 0 = sAld 0 1 := rfl
theorem i_Fi_machine_1 : opAt m_Fi_machine 1 = sGet [(10, 0)] 4 := rfl
theorem i_Fi_machine_4 : opAt m_Fi_machine 4 = sVir [(4, m_Pa_isMachine)] 0 0 7 := rfl
theorem i_Fi_machine_7 : opAt m_Fi_machine 7 = sIf .ne 13 10 := rfl
theorem i_Fi_machine_10 : opAt m_Fi_machine 10 = sPush (.int (Int8.ofInt (-103)).toInt32) 12 := rfl
theorem i_Fi_machine_12 : opAt m_Fi_machine 12 = sIret .int := rfl
theorem i_Fi_machine_13 : opAt m_Fi_machine 13 = sAld 0 14 := rfl
theorem i_Fi_machine_14 : opAt m_Fi_machine 14 = sGet [(10, 2)] 17 := rfl
theorem i_Fi_machine_17 : opAt m_Fi_machine 17 = sPush (.int (Int8.ofInt 6).toInt32) 19 := rfl
theorem i_Fi_machine_19 : opAt m_Fi_machine 19 = sCm .lt 25 22 := rfl
theorem i_Fi_machine_22 : opAt m_Fi_machine 22 = sPush (.int (Int8.ofInt (-104)).toInt32) 24 := rfl
theorem i_Fi_machine_24 : opAt m_Fi_machine 24 = sIret .int := rfl
theorem i_Fi_machine_25 : opAt m_Fi_machine 25 = sAld 0 26 := rfl
theorem i_Fi_machine_26 : opAt m_Fi_machine 26 = sGet [(10, 1)] 29 := rfl
theorem i_Fi_machine_29 : opAt m_Fi_machine 29 = sAld 0 30 := rfl
theorem i_Fi_machine_30 : opAt m_Fi_machine 30 = sGet [(10, 2)] 33 := rfl
theorem i_Fi_machine_33 : opAt m_Fi_machine 33 = sAld 0 34 := rfl
theorem i_Fi_machine_34 : opAt m_Fi_machine 34 = sGet [(10, 0)] 37 := rfl
theorem i_Fi_machine_37 : opAt m_Fi_machine 37 = sVir [(4, m_Pa_machineRead)] 6 0 40 := rfl
theorem i_Fi_machine_40 : opAt m_Fi_machine 40 = sAas 41 := rfl
theorem i_Fi_machine_41 : opAt m_Fi_machine 41 = sAld 0 42 := rfl
theorem i_Fi_machine_42 : opAt m_Fi_machine 42 = sDup 43 := rfl
theorem i_Fi_machine_43 : opAt m_Fi_machine 43 = sGet [(10, 2)] 46 := rfl
theorem i_Fi_machine_46 : opAt m_Fi_machine 46 = sPush (.int (Int32.ofInt 1)) 47 := rfl
theorem i_Fi_machine_47 : opAt m_Fi_machine 47 = sBI (fun x y => x + y) 48 := rfl
theorem i_Fi_machine_48 : opAt m_Fi_machine 48 = sPut [(10, 2)] (.int) 51 := rfl
theorem i_Fi_machine_51 : opAt m_Fi_machine 51 = sAld 0 52 := rfl
theorem i_Fi_machine_52 : opAt m_Fi_machine 52 = sGet [(10, 0)] 55 := rfl
theorem i_Fi_machine_55 : opAt m_Fi_machine 55 = sPush (.int (Int32.ofInt 0)) 56 := rfl
theorem i_Fi_machine_56 : opAt m_Fi_machine 56 = sPut [(4, 1)] (.int) 59 := rfl
theorem i_Fi_machine_59 : opAt m_Fi_machine 59 = sAld 0 60 := rfl
theorem i_Fi_machine_60 : opAt m_Fi_machine 60 = sGet [(10, 2)] 63 := rfl
theorem i_Fi_machine_63 : opAt m_Fi_machine 63 = sPush (.int (Int32.ofInt 1)) 64 := rfl
theorem i_Fi_machine_64 : opAt m_Fi_machine 64 = sBI (fun x y => x - y) 65 := rfl
theorem i_Fi_machine_65 : opAt m_Fi_machine 65 = sIret .int := rfl
theorem i_Fi_isSide_0 : opAt m_Fi_isSide 0 = sIld 0 1 := rfl
theorem i_Fi_isSide_1 : opAt m_Fi_isSide 1 = sPush (.int (Int32.ofInt 0)) 2 := rfl
theorem i_Fi_isSide_2 : opAt m_Fi_isSide 2 = sPush (.int (Int8.ofInt 7).toInt32) 4 := rfl
theorem i_Fi_isSide_4 : opAt m_Fi_isSide 4 = sSta m_Fi_isWithin 0 3 7 := rfl
theorem i_Fi_isSide_7 : opAt m_Fi_isSide 7 = sIret .boolean := rfl
theorem i_Fi_isWithin_0 : opAt m_Fi_isWithin 0 = sIld 0 1 := rfl
theorem i_Fi_isWithin_1 : opAt m_Fi_isWithin 1 = sIld 1 2 := rfl
theorem i_Fi_isWithin_2 : opAt m_Fi_isWithin 2 = sCm .lt 14 5 := rfl
theorem i_Fi_isWithin_5 : opAt m_Fi_isWithin 5 = sIld 0 6 := rfl
theorem i_Fi_isWithin_6 : opAt m_Fi_isWithin 6 = sIld 2 7 := rfl
theorem i_Fi_isWithin_7 : opAt m_Fi_isWithin 7 = sCm .gt 14 10 := rfl
theorem i_Fi_isWithin_10 : opAt m_Fi_isWithin 10 = sPush (.int (Int32.ofInt 1)) 11 := rfl
theorem i_Fi_isWithin_11 : opAt m_Fi_isWithin 11 = sGo 15 := rfl
theorem i_Fi_isWithin_14 : opAt m_Fi_isWithin 14 = sPush (.int (Int32.ofInt 0)) 15 := rfl
theorem i_Fi_isWithin_15 : opAt m_Fi_isWithin 15 = sIret .boolean := rfl
theorem i_Fi_part_0 : opAt m_Fi_part 0 = sAld 0 1 := rfl
theorem i_Fi_part_1 : opAt m_Fi_part 1 = sIld 1 2 := rfl
theorem i_Fi_part_2 : opAt m_Fi_part 2 = sIld 2 3 := rfl
theorem i_Fi_part_3 : opAt m_Fi_part 3 = sVir [(10, m_Fi_partAt)] 0 2 6 := rfl
theorem i_Fi_part_6 : opAt m_Fi_part 6 = sAst 4 8 := rfl
theorem i_Fi_part_8 : opAt m_Fi_part 8 = sAld 4 10 := rfl
theorem i_Fi_part_10 : opAt m_Fi_part 10 = sNul 13 16 := rfl
theorem i_Fi_part_13 : opAt m_Fi_part 13 = sPush (.int (Int8.ofInt (-101)).toInt32) 15 := rfl
theorem i_Fi_part_15 : opAt m_Fi_part 15 = sIret .int := rfl
theorem i_Fi_part_16 : opAt m_Fi_part 16 = sIld 3 17 := rfl
theorem i_Fi_part_17 : opAt m_Fi_part 17 = sPush (.int (Int32.ofInt 0)) 18 := rfl
theorem i_Fi_part_18 : opAt m_Fi_part 18 = sPush (.int (Int32.ofInt 3)) 19 := rfl
theorem i_Fi_part_19 : opAt m_Fi_part 19 = sSta m_Fi_isWithin 0 3 22 := rfl
theorem i_Fi_part_22 : opAt m_Fi_part 22 = sIf .ne 28 25 := rfl
theorem i_Fi_part_25 : opAt m_Fi_part 25 = sPush (.int (Int8.ofInt (-102)).toInt32) 27 := rfl
theorem i_Fi_part_27 : opAt m_Fi_part 27 = sIret .int := rfl
theorem i_Fi_part_28 : opAt m_Fi_part 28 = sAld 4 30 := rfl
theorem i_Fi_part_30 : opAt m_Fi_part 30 = sIld 3 31 := rfl
theorem i_Fi_part_31 : opAt m_Fi_part 31 = sVir [(1, m_Pt_tell), (6, m_Pt_tell), (8, m_Pt_tell), (9, m_Pt_tell)] 0 1 34 := rfl
theorem i_Fi_part_34 : opAt m_Fi_part 34 = sIret .int := rfl
theorem i_Fi_partAt_0 : opAt m_Fi_partAt 0 = sAld 0 1 := rfl
theorem i_Fi_partAt_1 : opAt m_Fi_partAt 1 = sIld 1 2 := rfl
theorem i_Fi_partAt_2 : opAt m_Fi_partAt 2 = sVir [(10, m_Fi_machineAt)] 0 1 5 := rfl
theorem i_Fi_partAt_5 : opAt m_Fi_partAt 5 = sAst 3 6 := rfl
theorem i_Fi_partAt_6 : opAt m_Fi_partAt 6 = sAld 3 7 := rfl
theorem i_Fi_partAt_7 : opAt m_Fi_partAt 7 = sNul 25 10 := rfl
theorem i_Fi_partAt_10 : opAt m_Fi_partAt 10 = sIld 2 11 := rfl
theorem i_Fi_partAt_11 : opAt m_Fi_partAt 11 = sPush (.int (Int32.ofInt 0)) 12 := rfl
theorem i_Fi_partAt_12 : opAt m_Fi_partAt 12 = sAld 3 13 := rfl
theorem i_Fi_partAt_13 : opAt m_Fi_partAt 13 = sGet [(3, 0)] 16 := rfl
theorem i_Fi_partAt_16 : opAt m_Fi_partAt 16 = sLen 17 := rfl
theorem i_Fi_partAt_17 : opAt m_Fi_partAt 17 = sPush (.int (Int32.ofInt 1)) 18 := rfl
theorem i_Fi_partAt_18 : opAt m_Fi_partAt 18 = sBI (fun x y => x - y) 19 := rfl
theorem i_Fi_partAt_19 : opAt m_Fi_partAt 19 = sSta m_Fi_isWithin 0 3 22 := rfl
theorem i_Fi_partAt_22 : opAt m_Fi_partAt 22 = sIf .ne 27 25 := rfl
theorem i_Fi_partAt_25 : opAt m_Fi_partAt 25 = sPush .null 26 := rfl
theorem i_Fi_partAt_26 : opAt m_Fi_partAt 26 = sAret := rfl
theorem i_Fi_partAt_27 : opAt m_Fi_partAt 27 = sAld 3 28 := rfl
theorem i_Fi_partAt_28 : opAt m_Fi_partAt 28 = sGet [(3, 0)] 31 := rfl
theorem i_Fi_partAt_31 : opAt m_Fi_partAt 31 = sIld 2 32 := rfl
theorem i_Fi_partAt_32 : opAt m_Fi_partAt 32 = sAal 33 := rfl
theorem i_Fi_partAt_33 : opAt m_Fi_partAt 33 = sAret := rfl
theorem i_Fi_machineAt_0 : opAt m_Fi_machineAt 0 = sIld 1 1 := rfl
theorem i_Fi_machineAt_1 : opAt m_Fi_machineAt 1 = sPush (.int (Int32.ofInt 0)) 2 := rfl
theorem i_Fi_machineAt_2 : opAt m_Fi_machineAt 2 = sAld 0 3 := rfl
theorem i_Fi_machineAt_3 : opAt m_Fi_machineAt 3 = sGet [(10, 2)] 6 := rfl
theorem i_Fi_machineAt_6 : opAt m_Fi_machineAt 6 = sPush (.int (Int32.ofInt 1)) 7 := rfl
theorem i_Fi_machineAt_7 : opAt m_Fi_machineAt 7 = sBI (fun x y => x - y) 8 := rfl
theorem i_Fi_machineAt_8 : opAt m_Fi_machineAt 8 = sSta m_Fi_isWithin 0 3 11 := rfl
theorem i_Fi_machineAt_11 : opAt m_Fi_machineAt 11 = sIf .eq 23 14 := rfl
theorem i_Fi_machineAt_14 : opAt m_Fi_machineAt 14 = sAld 0 15 := rfl
theorem i_Fi_machineAt_15 : opAt m_Fi_machineAt 15 = sGet [(10, 1)] 18 := rfl
theorem i_Fi_machineAt_18 : opAt m_Fi_machineAt 18 = sIld 1 19 := rfl
theorem i_Fi_machineAt_19 : opAt m_Fi_machineAt 19 = sAal 20 := rfl
theorem i_Fi_machineAt_20 : opAt m_Fi_machineAt 20 = sGo 24 := rfl
theorem i_Fi_machineAt_23 : opAt m_Fi_machineAt 23 = sPush .null 24 := rfl
theorem i_Fi_machineAt_24 : opAt m_Fi_machineAt 24 = sAret := rfl
theorem i_Fi_as_0 : opAt m_Fi_as 0 = sAld 0 1 := rfl
theorem i_Fi_as_1 : opAt m_Fi_as 1 = sIld 1 2 := rfl
theorem i_Fi_as_2 : opAt m_Fi_as 2 = sIld 2 3 := rfl
theorem i_Fi_as_3 : opAt m_Fi_as 3 = sVir [(10, m_Fi_partAt)] 0 2 6 := rfl
theorem i_Fi_as_6 : opAt m_Fi_as 6 = sAst 4 8 := rfl
theorem i_Fi_as_8 : opAt m_Fi_as 8 = sAld 4 10 := rfl
theorem i_Fi_as_10 : opAt m_Fi_as 10 = sNul 13 16 := rfl
theorem i_Fi_as_13 : opAt m_Fi_as 13 = sPush (.int (Int8.ofInt (-101)).toInt32) 15 := rfl
theorem i_Fi_as_15 : opAt m_Fi_as 15 = sIret .int := rfl
theorem i_Fi_as_16 : opAt m_Fi_as 16 = sIld 3 17 := rfl
theorem i_Fi_as_17 : opAt m_Fi_as 17 = sPush (.int (Int32.ofInt 0)) 18 := rfl
theorem i_Fi_as_18 : opAt m_Fi_as 18 = sPush (.int (Int32.ofInt 4)) 19 := rfl
theorem i_Fi_as_19 : opAt m_Fi_as 19 = sSta m_Fi_isWithin 0 3 22 := rfl
theorem i_Fi_as_22 : opAt m_Fi_as 22 = sIf .ne 28 25 := rfl
theorem i_Fi_as_25 : opAt m_Fi_as 25 = sPush (.int (Int8.ofInt (-102)).toInt32) 27 := rfl
theorem i_Fi_as_27 : opAt m_Fi_as 27 = sIret .int := rfl
theorem i_Fi_as_28 : opAt m_Fi_as 28 = sAld 4 30 := rfl
theorem i_Fi_as_30 : opAt m_Fi_as 30 = sIld 3 31 := rfl
theorem i_Fi_as_31 : opAt m_Fi_as 31 = sSta m_Fi_isOfKind 0 2 34 := rfl
theorem i_Fi_as_34 : opAt m_Fi_as 34 = sIf .eq 41 37 := rfl
theorem i_Fi_as_37 : opAt m_Fi_as 37 = sIld 2 38 := rfl
theorem i_Fi_as_38 : opAt m_Fi_as 38 = sGo 42 := rfl
theorem i_Fi_as_41 : opAt m_Fi_as 41 = sPush (.int (Int32.ofInt (-1))) 42 := rfl
theorem i_Fi_as_42 : opAt m_Fi_as 42 = sIret .int := rfl
theorem i_Fi_isOfKind_0 : opAt m_Fi_isOfKind 0 = sIld 1 1 := rfl
theorem i_Fi_isOfKind_1 : opAt m_Fi_isOfKind 1 = sSw [(0, 36), (1, 38), (2, 43), (3, 48), (4, 53)] 58 := rfl
theorem i_Fi_isOfKind_36 : opAt m_Fi_isOfKind 36 = sPush (.int (Int32.ofInt 1)) 37 := rfl
theorem i_Fi_isOfKind_37 : opAt m_Fi_isOfKind 37 = sIret .boolean := rfl
theorem i_Fi_isOfKind_38 : opAt m_Fi_isOfKind 38 = sAld 0 39 := rfl
theorem i_Fi_isOfKind_39 : opAt m_Fi_isOfKind 39 = sIns [1] [6, 8, 9] 42 := rfl
theorem i_Fi_isOfKind_42 : opAt m_Fi_isOfKind 42 = sIret .boolean := rfl
theorem i_Fi_isOfKind_43 : opAt m_Fi_isOfKind 43 = sAld 0 44 := rfl
theorem i_Fi_isOfKind_44 : opAt m_Fi_isOfKind 44 = sIns [6, 8] [1, 9] 47 := rfl
theorem i_Fi_isOfKind_47 : opAt m_Fi_isOfKind 47 = sIret .boolean := rfl
theorem i_Fi_isOfKind_48 : opAt m_Fi_isOfKind 48 = sAld 0 49 := rfl
theorem i_Fi_isOfKind_49 : opAt m_Fi_isOfKind 49 = sIns [8] [1, 6, 9] 52 := rfl
theorem i_Fi_isOfKind_52 : opAt m_Fi_isOfKind 52 = sIret .boolean := rfl
theorem i_Fi_isOfKind_53 : opAt m_Fi_isOfKind 53 = sAld 0 54 := rfl
theorem i_Fi_isOfKind_54 : opAt m_Fi_isOfKind 54 = sIns [9] [1, 6, 8] 57 := rfl
theorem i_Fi_isOfKind_57 : opAt m_Fi_isOfKind 57 = sIret .boolean := rfl
theorem i_Fi_isOfKind_58 : opAt m_Fi_isOfKind 58 = sPush (.int (Int32.ofInt 0)) 59 := rfl
theorem i_Fi_isOfKind_59 : opAt m_Fi_isOfKind 59 = sIret .boolean := rfl
theorem i_Fi_print_0 : opAt m_Fi_print 0 = sIld 1 1 := rfl
theorem i_Fi_print_1 : opAt m_Fi_print 1 = sPush (.int (Int32.ofInt 1)) 2 := rfl
theorem i_Fi_print_2 : opAt m_Fi_print 2 = sPush (.int (Int8.ofInt 48).toInt32) 4 := rfl
theorem i_Fi_print_4 : opAt m_Fi_print 4 = sSta m_Fi_isWithin 0 3 7 := rfl
theorem i_Fi_print_7 : opAt m_Fi_print 7 = sIf .ne 13 10 := rfl
theorem i_Fi_print_10 : opAt m_Fi_print 10 = sPush (.int (Int8.ofInt (-102)).toInt32) 12 := rfl
theorem i_Fi_print_12 : opAt m_Fi_print 12 = sIret .int := rfl
theorem i_Fi_print_13 : opAt m_Fi_print 13 = sAld 0 14 := rfl
theorem i_Fi_print_14 : opAt m_Fi_print 14 = sGet [(10, 3)] 17 := rfl
theorem i_Fi_print_17 : opAt m_Fi_print 17 = sVir [(7, m_Sh_next)] 0 0 20 := rfl
theorem i_Fi_print_20 : opAt m_Fi_print 20 = sAst 2 21 := rfl
theorem i_Fi_print_21 : opAt m_Fi_print 21 = sAld 2 22 := rfl
theorem i_Fi_print_22 : opAt m_Fi_print 22 = sNul 25 28 := rfl
theorem i_Fi_print_25 : opAt m_Fi_print 25 = sPush (.int (Int8.ofInt (-104)).toInt32) 27 := rfl
theorem i_Fi_print_27 : opAt m_Fi_print 27 = sIret .int := rfl
theorem i_Fi_print_28 : opAt m_Fi_print 28 = sAld 2 29 := rfl
theorem i_Fi_print_29 : opAt m_Fi_print 29 = sIld 1 30 := rfl
theorem i_Fi_print_30 : opAt m_Fi_print 30 = sVir [(5, m_Pr_begin)] 0 1 33 := rfl
theorem i_Fi_print_33 : opAt m_Fi_print 33 = sAld 0 34 := rfl
theorem i_Fi_print_34 : opAt m_Fi_print 34 = sGet [(10, 3)] 37 := rfl
theorem i_Fi_print_37 : opAt m_Fi_print 37 = sGet [(7, 1)] 40 := rfl
theorem i_Fi_print_40 : opAt m_Fi_print 40 = sPush (.int (Int32.ofInt 1)) 41 := rfl
theorem i_Fi_print_41 : opAt m_Fi_print 41 = sBI (fun x y => x - y) 42 := rfl
theorem i_Fi_print_42 : opAt m_Fi_print 42 = sIret .int := rfl
theorem i_Fi_run_0 : opAt m_Fi_run 0 = sAld 0 1 := rfl
theorem i_Fi_run_1 : opAt m_Fi_run 1 = sGet [(10, 3)] 4 := rfl
theorem i_Fi_run_4 : opAt m_Fi_run 4 = sIld 1 5 := rfl
theorem i_Fi_run_5 : opAt m_Fi_run 5 = sVir [(7, m_Sh_printAt)] 0 1 8 := rfl
theorem i_Fi_run_8 : opAt m_Fi_run 8 = sAst 4 10 := rfl
theorem i_Fi_run_10 : opAt m_Fi_run 10 = sAld 0 11 := rfl
theorem i_Fi_run_11 : opAt m_Fi_run 11 = sIld 2 12 := rfl
theorem i_Fi_run_12 : opAt m_Fi_run 12 = sVir [(10, m_Fi_machineAt)] 0 1 15 := rfl
theorem i_Fi_run_15 : opAt m_Fi_run 15 = sAst 5 17 := rfl
theorem i_Fi_run_17 : opAt m_Fi_run 17 = sAld 4 19 := rfl
theorem i_Fi_run_19 : opAt m_Fi_run 19 = sNul 27 22 := rfl
theorem i_Fi_run_22 : opAt m_Fi_run 22 = sAld 5 24 := rfl
theorem i_Fi_run_24 : opAt m_Fi_run 24 = sNul 27 30 := rfl
theorem i_Fi_run_27 : opAt m_Fi_run 27 = sPush (.int (Int8.ofInt (-101)).toInt32) 29 := rfl
theorem i_Fi_run_29 : opAt m_Fi_run 29 = sIret .int := rfl
theorem i_Fi_run_30 : opAt m_Fi_run 30 = sPush (.int (Int32.ofInt 0)) 31 := rfl
theorem i_Fi_run_31 : opAt m_Fi_run 31 = sIst 6 33 := rfl
theorem i_Fi_run_33 : opAt m_Fi_run 33 = sPush (.int (Int32.ofInt 0)) 34 := rfl
theorem i_Fi_run_34 : opAt m_Fi_run 34 = sIst 7 36 := rfl
theorem i_Fi_run_36 : opAt m_Fi_run 36 = sIld 7 38 := rfl
theorem i_Fi_run_38 : opAt m_Fi_run 38 = sAld 5 40 := rfl
theorem i_Fi_run_40 : opAt m_Fi_run 40 = sGet [(3, 0)] 43 := rfl
theorem i_Fi_run_43 : opAt m_Fi_run 43 = sLen 44 := rfl
theorem i_Fi_run_44 : opAt m_Fi_run 44 = sCm .ge 72 47 := rfl
theorem i_Fi_run_47 : opAt m_Fi_run 47 = sIld 6 49 := rfl
theorem i_Fi_run_49 : opAt m_Fi_run 49 = sAld 4 51 := rfl
theorem i_Fi_run_51 : opAt m_Fi_run 51 = sAld 5 53 := rfl
theorem i_Fi_run_53 : opAt m_Fi_run 53 = sGet [(3, 0)] 56 := rfl
theorem i_Fi_run_56 : opAt m_Fi_run 56 = sIld 7 58 := rfl
theorem i_Fi_run_58 : opAt m_Fi_run 58 = sAal 59 := rfl
theorem i_Fi_run_59 : opAt m_Fi_run 59 = sIld 3 60 := rfl
theorem i_Fi_run_60 : opAt m_Fi_run 60 = sVir [(5, m_Pr_leave)] 0 2 63 := rfl
theorem i_Fi_run_63 : opAt m_Fi_run 63 = sBI (fun x y => x + y) 64 := rfl
theorem i_Fi_run_64 : opAt m_Fi_run 64 = sIst 6 66 := rfl
theorem i_Fi_run_66 : opAt m_Fi_run 66 = sInc 7 1 69 := rfl
theorem i_Fi_run_69 : opAt m_Fi_run 69 = sGo 36 := rfl
theorem i_Fi_run_72 : opAt m_Fi_run 72 = sIld 6 74 := rfl
theorem i_Fi_run_74 : opAt m_Fi_run 74 = sIret .int := rfl
theorem i_Fi_everyOf_0 : opAt m_Fi_everyOf 0 = sPush (.long (Int64.ofNat ((0 : Fin 2) : Nat))) 1 := rfl
theorem i_Fi_everyOf_1 : opAt m_Fi_everyOf 1 = sLst 3 2 := rfl
theorem i_Fi_everyOf_2 : opAt m_Fi_everyOf 2 = sIld 1 3 := rfl
theorem i_Fi_everyOf_3 : opAt m_Fi_everyOf 3 = sIf .lt 11 6 := rfl
theorem i_Fi_everyOf_6 : opAt m_Fi_everyOf 6 = sIld 2 7 := rfl
theorem i_Fi_everyOf_7 : opAt m_Fi_everyOf 7 = sPush (.int (Int32.ofInt 1)) 8 := rfl
theorem i_Fi_everyOf_8 : opAt m_Fi_everyOf 8 = sCm .ge 13 11 := rfl
theorem i_Fi_everyOf_11 : opAt m_Fi_everyOf 11 = sLld 3 12 := rfl
theorem i_Fi_everyOf_12 : opAt m_Fi_everyOf 12 = sLret := rfl
theorem i_Fi_everyOf_13 : opAt m_Fi_everyOf 13 = sIld 1 14 := rfl
theorem i_Fi_everyOf_14 : opAt m_Fi_everyOf 14 = sIst 5 16 := rfl
theorem i_Fi_everyOf_16 : opAt m_Fi_everyOf 16 = sIld 5 18 := rfl
theorem i_Fi_everyOf_18 : opAt m_Fi_everyOf 18 = sIld 0 19 := rfl
theorem i_Fi_everyOf_19 : opAt m_Fi_everyOf 19 = sCm .ge 38 22 := rfl
theorem i_Fi_everyOf_22 : opAt m_Fi_everyOf 22 = sLld 3 23 := rfl
theorem i_Fi_everyOf_23 : opAt m_Fi_everyOf 23 = sPush (.long (Int64.ofNat ((1 : Fin 2) : Nat))) 24 := rfl
theorem i_Fi_everyOf_24 : opAt m_Fi_everyOf 24 = sIld 5 26 := rfl
theorem i_Fi_everyOf_26 : opAt m_Fi_everyOf 26 = sSL (fun x y => x <<< (y.toInt64 &&& 63)) 27 := rfl
theorem i_Fi_everyOf_27 : opAt m_Fi_everyOf 27 = sBL (fun x y => x ||| y) 28 := rfl
theorem i_Fi_everyOf_28 : opAt m_Fi_everyOf 28 = sLst 3 29 := rfl
theorem i_Fi_everyOf_29 : opAt m_Fi_everyOf 29 = sIld 5 31 := rfl
theorem i_Fi_everyOf_31 : opAt m_Fi_everyOf 31 = sIld 2 32 := rfl
theorem i_Fi_everyOf_32 : opAt m_Fi_everyOf 32 = sBI (fun x y => x + y) 33 := rfl
theorem i_Fi_everyOf_33 : opAt m_Fi_everyOf 33 = sIst 5 35 := rfl
theorem i_Fi_everyOf_35 : opAt m_Fi_everyOf 35 = sGo 16 := rfl
theorem i_Fi_everyOf_38 : opAt m_Fi_everyOf 38 = sLld 3 39 := rfl
theorem i_Fi_everyOf_39 : opAt m_Fi_everyOf 39 = sLret := rfl
theorem i_Fi_spooled_0 : opAt m_Fi_spooled 0 = sPush (.long (Int64.ofNat ((0 : Fin 2) : Nat))) 1 := rfl
theorem i_Fi_spooled_1 : opAt m_Fi_spooled 1 = sLst 3 2 := rfl
theorem i_Fi_spooled_2 : opAt m_Fi_spooled 2 = sIld 1 3 := rfl
theorem i_Fi_spooled_3 : opAt m_Fi_spooled 3 = sIst 5 5 := rfl
theorem i_Fi_spooled_5 : opAt m_Fi_spooled 5 = sIld 1 6 := rfl
theorem i_Fi_spooled_6 : opAt m_Fi_spooled 6 = sIst 6 8 := rfl
theorem i_Fi_spooled_8 : opAt m_Fi_spooled 8 = sPush (.int (Int32.ofInt 0)) 9 := rfl
theorem i_Fi_spooled_9 : opAt m_Fi_spooled 9 = sIst 7 11 := rfl
theorem i_Fi_spooled_11 : opAt m_Fi_spooled 11 = sIld 7 13 := rfl
theorem i_Fi_spooled_13 : opAt m_Fi_spooled 13 = sPush (.int (Int8.ofInt 48).toInt32) 15 := rfl
theorem i_Fi_spooled_15 : opAt m_Fi_spooled 15 = sCm .ge 50 18 := rfl
theorem i_Fi_spooled_18 : opAt m_Fi_spooled 18 = sIld 6 20 := rfl
theorem i_Fi_spooled_20 : opAt m_Fi_spooled 20 = sIld 0 21 := rfl
theorem i_Fi_spooled_21 : opAt m_Fi_spooled 21 = sCm .ge 50 24 := rfl
theorem i_Fi_spooled_24 : opAt m_Fi_spooled 24 = sLld 3 25 := rfl
theorem i_Fi_spooled_25 : opAt m_Fi_spooled 25 = sPush (.long (Int64.ofNat ((1 : Fin 2) : Nat))) 26 := rfl
theorem i_Fi_spooled_26 : opAt m_Fi_spooled 26 = sIld 6 28 := rfl
theorem i_Fi_spooled_28 : opAt m_Fi_spooled 28 = sSL (fun x y => x <<< (y.toInt64 &&& 63)) 29 := rfl
theorem i_Fi_spooled_29 : opAt m_Fi_spooled 29 = sBL (fun x y => x ||| y) 30 := rfl
theorem i_Fi_spooled_30 : opAt m_Fi_spooled 30 = sLst 3 31 := rfl
theorem i_Fi_spooled_31 : opAt m_Fi_spooled 31 = sIld 5 33 := rfl
theorem i_Fi_spooled_33 : opAt m_Fi_spooled 33 = sIld 2 34 := rfl
theorem i_Fi_spooled_34 : opAt m_Fi_spooled 34 = sBI (fun x y => x + y) 35 := rfl
theorem i_Fi_spooled_35 : opAt m_Fi_spooled 35 = sIst 5 37 := rfl
theorem i_Fi_spooled_37 : opAt m_Fi_spooled 37 = sIld 6 39 := rfl
theorem i_Fi_spooled_39 : opAt m_Fi_spooled 39 = sIld 5 41 := rfl
theorem i_Fi_spooled_41 : opAt m_Fi_spooled 41 = sBI (fun x y => x + y) 42 := rfl
theorem i_Fi_spooled_42 : opAt m_Fi_spooled 42 = sIst 6 44 := rfl
theorem i_Fi_spooled_44 : opAt m_Fi_spooled 44 = sInc 7 1 47 := rfl
theorem i_Fi_spooled_47 : opAt m_Fi_spooled 47 = sGo 11 := rfl
theorem i_Fi_spooled_50 : opAt m_Fi_spooled 50 = sLld 3 51 := rfl
theorem i_Fi_spooled_51 : opAt m_Fi_spooled 51 = sLret := rfl
theorem i_Fi_turned_0 : opAt m_Fi_turned 0 = sPush (.long (Int64.ofNat ((0 : Fin 2) : Nat))) 1 := rfl
theorem i_Fi_turned_1 : opAt m_Fi_turned 1 = sLst 3 2 := rfl
theorem i_Fi_turned_2 : opAt m_Fi_turned 2 = sPush (.int (Int32.ofInt 0)) 3 := rfl
theorem i_Fi_turned_3 : opAt m_Fi_turned 3 = sIst 5 5 := rfl
theorem i_Fi_turned_5 : opAt m_Fi_turned 5 = sIld 5 7 := rfl
theorem i_Fi_turned_7 : opAt m_Fi_turned 7 = sIld 2 8 := rfl
theorem i_Fi_turned_8 : opAt m_Fi_turned 8 = sCm .ge 37 11 := rfl
theorem i_Fi_turned_11 : opAt m_Fi_turned 11 = sLld 0 12 := rfl
theorem i_Fi_turned_12 : opAt m_Fi_turned 12 = sIld 5 14 := rfl
theorem i_Fi_turned_14 : opAt m_Fi_turned 14 = sSta m_Fi_isIn 0 2 17 := rfl
theorem i_Fi_turned_17 : opAt m_Fi_turned 17 = sIf .eq 31 20 := rfl
theorem i_Fi_turned_20 : opAt m_Fi_turned 20 = sLld 3 21 := rfl
theorem i_Fi_turned_21 : opAt m_Fi_turned 21 = sPush (.long (Int64.ofNat ((1 : Fin 2) : Nat))) 22 := rfl
theorem i_Fi_turned_22 : opAt m_Fi_turned 22 = sIld 2 23 := rfl
theorem i_Fi_turned_23 : opAt m_Fi_turned 23 = sPush (.int (Int32.ofInt 1)) 24 := rfl
theorem i_Fi_turned_24 : opAt m_Fi_turned 24 = sBI (fun x y => x - y) 25 := rfl
theorem i_Fi_turned_25 : opAt m_Fi_turned 25 = sIld 5 27 := rfl
theorem i_Fi_turned_27 : opAt m_Fi_turned 27 = sBI (fun x y => x - y) 28 := rfl
theorem i_Fi_turned_28 : opAt m_Fi_turned 28 = sSL (fun x y => x <<< (y.toInt64 &&& 63)) 29 := rfl
theorem i_Fi_turned_29 : opAt m_Fi_turned 29 = sBL (fun x y => x ||| y) 30 := rfl
theorem i_Fi_turned_30 : opAt m_Fi_turned 30 = sLst 3 31 := rfl
theorem i_Fi_turned_31 : opAt m_Fi_turned 31 = sInc 5 1 34 := rfl
theorem i_Fi_turned_34 : opAt m_Fi_turned 34 = sGo 5 := rfl
theorem i_Fi_turned_37 : opAt m_Fi_turned 37 = sLld 3 38 := rfl
theorem i_Fi_turned_38 : opAt m_Fi_turned 38 = sLret := rfl
theorem i_Fi_isIn_0 : opAt m_Fi_isIn 0 = sLld 0 1 := rfl
theorem i_Fi_isIn_1 : opAt m_Fi_isIn 1 = sIld 2 2 := rfl
theorem i_Fi_isIn_2 : opAt m_Fi_isIn 2 = sSL (fun x y => (x.toUInt64 >>> (y.toInt64.toUInt64 &&& Int64.toUInt64 63)).toInt64) 3 := rfl
theorem i_Fi_isIn_3 : opAt m_Fi_isIn 3 = sPush (.long (Int64.ofNat ((1 : Fin 2) : Nat))) 4 := rfl
theorem i_Fi_isIn_4 : opAt m_Fi_isIn 4 = sBL (fun x y => x &&& y) 5 := rfl
theorem i_Fi_isIn_5 : opAt m_Fi_isIn 5 = sPush (.long (Int64.ofNat ((0 : Fin 2) : Nat))) 6 := rfl
theorem i_Fi_isIn_6 : opAt m_Fi_isIn 6 = sCmp 7 := rfl
theorem i_Fi_isIn_7 : opAt m_Fi_isIn 7 = sIf .eq 14 10 := rfl
theorem i_Fi_isIn_10 : opAt m_Fi_isIn 10 = sPush (.int (Int32.ofInt 1)) 11 := rfl
theorem i_Fi_isIn_11 : opAt m_Fi_isIn 11 = sGo 15 := rfl
theorem i_Fi_isIn_14 : opAt m_Fi_isIn 14 = sPush (.int (Int32.ofInt 0)) 15 := rfl
theorem i_Fi_isIn_15 : opAt m_Fi_isIn 15 = sIret .boolean := rfl
theorem i_Fi_mend_0 : opAt m_Fi_mend 0 = sAld 0 1 := rfl
theorem i_Fi_mend_1 : opAt m_Fi_mend 1 = sGet [(10, 3)] 4 := rfl
theorem i_Fi_mend_4 : opAt m_Fi_mend 4 = sIld 1 5 := rfl
theorem i_Fi_mend_5 : opAt m_Fi_mend 5 = sVir [(7, m_Sh_printAt)] 0 1 8 := rfl
theorem i_Fi_mend_8 : opAt m_Fi_mend 8 = sAst 4 10 := rfl
theorem i_Fi_mend_10 : opAt m_Fi_mend 10 = sAld 4 12 := rfl
theorem i_Fi_mend_12 : opAt m_Fi_mend 12 = sNul 15 18 := rfl
theorem i_Fi_mend_15 : opAt m_Fi_mend 15 = sPush (.int (Int8.ofInt (-101)).toInt32) 17 := rfl
theorem i_Fi_mend_17 : opAt m_Fi_mend 17 = sIret .int := rfl
theorem i_Fi_mend_18 : opAt m_Fi_mend 18 = sIld 2 19 := rfl
theorem i_Fi_mend_19 : opAt m_Fi_mend 19 = sIf .lt 49 22 := rfl
theorem i_Fi_mend_22 : opAt m_Fi_mend 22 = sIld 3 23 := rfl
theorem i_Fi_mend_23 : opAt m_Fi_mend 23 = sAld 4 25 := rfl
theorem i_Fi_mend_25 : opAt m_Fi_mend 25 = sGet [(5, 0)] 28 := rfl
theorem i_Fi_mend_28 : opAt m_Fi_mend 28 = sCm .ge 49 31 := rfl
theorem i_Fi_mend_31 : opAt m_Fi_mend 31 = sIld 2 32 := rfl
theorem i_Fi_mend_32 : opAt m_Fi_mend 32 = sIld 3 33 := rfl
theorem i_Fi_mend_33 : opAt m_Fi_mend 33 = sCm .gt 49 36 := rfl
theorem i_Fi_mend_36 : opAt m_Fi_mend 36 = sIld 3 37 := rfl
theorem i_Fi_mend_37 : opAt m_Fi_mend 37 = sIld 2 38 := rfl
theorem i_Fi_mend_38 : opAt m_Fi_mend 38 = sBI (fun x y => x - y) 39 := rfl
theorem i_Fi_mend_39 : opAt m_Fi_mend 39 = sPush (.int (Int32.ofInt 1)) 40 := rfl
theorem i_Fi_mend_40 : opAt m_Fi_mend 40 = sBI (fun x y => x + y) 41 := rfl
theorem i_Fi_mend_41 : opAt m_Fi_mend 41 = sAld 4 43 := rfl
theorem i_Fi_mend_43 : opAt m_Fi_mend 43 = sGet [(5, 0)] 46 := rfl
theorem i_Fi_mend_46 : opAt m_Fi_mend 46 = sCm .ne 52 49 := rfl
theorem i_Fi_mend_49 : opAt m_Fi_mend 49 = sPush (.int (Int8.ofInt (-102)).toInt32) 51 := rfl
theorem i_Fi_mend_51 : opAt m_Fi_mend 51 = sIret .int := rfl
theorem i_Fi_mend_52 : opAt m_Fi_mend 52 = sAld 4 54 := rfl
theorem i_Fi_mend_54 : opAt m_Fi_mend 54 = sIld 2 55 := rfl
theorem i_Fi_mend_55 : opAt m_Fi_mend 55 = sIld 3 56 := rfl
theorem i_Fi_mend_56 : opAt m_Fi_mend 56 = sVir [(5, m_Pr_takeOut)] 0 2 59 := rfl
theorem i_Fi_mend_59 : opAt m_Fi_mend 59 = sAld 4 61 := rfl
theorem i_Fi_mend_61 : opAt m_Fi_mend 61 = sGet [(5, 0)] 64 := rfl
theorem i_Fi_mend_64 : opAt m_Fi_mend 64 = sIret .int := rfl
theorem i_Fi_copy_0 : opAt m_Fi_copy 0 = sAld 0 1 := rfl
theorem i_Fi_copy_1 : opAt m_Fi_copy 1 = sGet [(10, 3)] 4 := rfl
theorem i_Fi_copy_4 : opAt m_Fi_copy 4 = sIld 1 5 := rfl
theorem i_Fi_copy_5 : opAt m_Fi_copy 5 = sVir [(7, m_Sh_printAt)] 0 1 8 := rfl
theorem i_Fi_copy_8 : opAt m_Fi_copy 8 = sAst 2 9 := rfl
theorem i_Fi_copy_9 : opAt m_Fi_copy 9 = sAld 2 10 := rfl
theorem i_Fi_copy_10 : opAt m_Fi_copy 10 = sNul 13 16 := rfl
theorem i_Fi_copy_13 : opAt m_Fi_copy 13 = sPush (.int (Int8.ofInt (-101)).toInt32) 15 := rfl
theorem i_Fi_copy_15 : opAt m_Fi_copy 15 = sIret .int := rfl
theorem i_Fi_copy_16 : opAt m_Fi_copy 16 = sAld 0 17 := rfl
theorem i_Fi_copy_17 : opAt m_Fi_copy 17 = sGet [(10, 3)] 20 := rfl
theorem i_Fi_copy_20 : opAt m_Fi_copy 20 = sVir [(7, m_Sh_next)] 0 0 23 := rfl
theorem i_Fi_copy_23 : opAt m_Fi_copy 23 = sAst 3 24 := rfl
theorem i_Fi_copy_24 : opAt m_Fi_copy 24 = sAld 3 25 := rfl
theorem i_Fi_copy_25 : opAt m_Fi_copy 25 = sNul 28 31 := rfl
theorem i_Fi_copy_28 : opAt m_Fi_copy 28 = sPush (.int (Int8.ofInt (-104)).toInt32) 30 := rfl
theorem i_Fi_copy_30 : opAt m_Fi_copy 30 = sIret .int := rfl
theorem i_Fi_copy_31 : opAt m_Fi_copy 31 = sAld 3 32 := rfl
theorem i_Fi_copy_32 : opAt m_Fi_copy 32 = sAld 2 33 := rfl
theorem i_Fi_copy_33 : opAt m_Fi_copy 33 = sVir [(5, m_Pr_takeFrom)] 0 1 36 := rfl
theorem i_Fi_copy_36 : opAt m_Fi_copy 36 = sAld 3 37 := rfl
theorem i_Fi_copy_37 : opAt m_Fi_copy 37 = sVir [(5, m_Pr_whiten)] 0 0 40 := rfl
theorem i_Fi_copy_40 : opAt m_Fi_copy 40 = sAld 0 41 := rfl
theorem i_Fi_copy_41 : opAt m_Fi_copy 41 = sGet [(10, 3)] 44 := rfl
theorem i_Fi_copy_44 : opAt m_Fi_copy 44 = sGet [(7, 1)] 47 := rfl
theorem i_Fi_copy_47 : opAt m_Fi_copy 47 = sPush (.int (Int32.ofInt 1)) 48 := rfl
theorem i_Fi_copy_48 : opAt m_Fi_copy 48 = sBI (fun x y => x - y) 49 := rfl
theorem i_Fi_copy_49 : opAt m_Fi_copy 49 = sIret .int := rfl
theorem i_Fi_mark_0 : opAt m_Fi_mark 0 = sAld 0 1 := rfl
theorem i_Fi_mark_1 : opAt m_Fi_mark 1 = sGet [(10, 3)] 4 := rfl
theorem i_Fi_mark_4 : opAt m_Fi_mark 4 = sIld 1 5 := rfl
theorem i_Fi_mark_5 : opAt m_Fi_mark 5 = sVir [(7, m_Sh_printAt)] 0 1 8 := rfl
theorem i_Fi_mark_8 : opAt m_Fi_mark 8 = sAst 6 10 := rfl
theorem i_Fi_mark_10 : opAt m_Fi_mark 10 = sAld 6 12 := rfl
theorem i_Fi_mark_12 : opAt m_Fi_mark 12 = sNul 30 15 := rfl
theorem i_Fi_mark_15 : opAt m_Fi_mark 15 = sIld 2 16 := rfl
theorem i_Fi_mark_16 : opAt m_Fi_mark 16 = sPush (.int (Int32.ofInt 0)) 17 := rfl
theorem i_Fi_mark_17 : opAt m_Fi_mark 17 = sAld 6 19 := rfl
theorem i_Fi_mark_19 : opAt m_Fi_mark 19 = sGet [(5, 0)] 22 := rfl
theorem i_Fi_mark_22 : opAt m_Fi_mark 22 = sPush (.int (Int32.ofInt 1)) 23 := rfl
theorem i_Fi_mark_23 : opAt m_Fi_mark 23 = sBI (fun x y => x - y) 24 := rfl
theorem i_Fi_mark_24 : opAt m_Fi_mark 24 = sSta m_Fi_isWithin 0 3 27 := rfl
theorem i_Fi_mark_27 : opAt m_Fi_mark 27 = sIf .ne 33 30 := rfl
theorem i_Fi_mark_30 : opAt m_Fi_mark 30 = sPush (.int (Int8.ofInt (-101)).toInt32) 32 := rfl
theorem i_Fi_mark_32 : opAt m_Fi_mark 32 = sIret .int := rfl
theorem i_Fi_mark_33 : opAt m_Fi_mark 33 = sIld 3 34 := rfl
theorem i_Fi_mark_34 : opAt m_Fi_mark 34 = sSta m_Fi_isSide 0 1 37 := rfl
theorem i_Fi_mark_37 : opAt m_Fi_mark 37 = sIf .eq 50 40 := rfl
theorem i_Fi_mark_40 : opAt m_Fi_mark 40 = sIld 4 42 := rfl
theorem i_Fi_mark_42 : opAt m_Fi_mark 42 = sPush (.int (Int32.ofInt 0)) 43 := rfl
theorem i_Fi_mark_43 : opAt m_Fi_mark 43 = sPush (.int (Int32.ofInt 1)) 44 := rfl
theorem i_Fi_mark_44 : opAt m_Fi_mark 44 = sSta m_Fi_isWithin 0 3 47 := rfl
theorem i_Fi_mark_47 : opAt m_Fi_mark 47 = sIf .ne 53 50 := rfl
theorem i_Fi_mark_50 : opAt m_Fi_mark 50 = sPush (.int (Int8.ofInt (-102)).toInt32) 52 := rfl
theorem i_Fi_mark_52 : opAt m_Fi_mark 52 = sIret .int := rfl
theorem i_Fi_mark_53 : opAt m_Fi_mark 53 = sAld 6 55 := rfl
theorem i_Fi_mark_55 : opAt m_Fi_mark 55 = sIld 2 56 := rfl
theorem i_Fi_mark_56 : opAt m_Fi_mark 56 = sIld 3 57 := rfl
theorem i_Fi_mark_57 : opAt m_Fi_mark 57 = sIld 4 59 := rfl
theorem i_Fi_mark_59 : opAt m_Fi_mark 59 = sIld 5 61 := rfl
theorem i_Fi_mark_61 : opAt m_Fi_mark 61 = sVir [(5, m_Pr_put)] 0 4 64 := rfl
theorem i_Fi_mark_64 : opAt m_Fi_mark 64 = sIf .eq 71 67 := rfl
theorem i_Fi_mark_67 : opAt m_Fi_mark 67 = sPush (.int (Int32.ofInt 1)) 68 := rfl
theorem i_Fi_mark_68 : opAt m_Fi_mark 68 = sGo 72 := rfl
theorem i_Fi_mark_71 : opAt m_Fi_mark 71 = sPush (.int (Int32.ofInt 0)) 72 := rfl
theorem i_Fi_mark_72 : opAt m_Fi_mark 72 = sIret .int := rfl
theorem i_Fi_picture_0 : opAt m_Fi_picture 0 = sAld 0 1 := rfl
theorem i_Fi_picture_1 : opAt m_Fi_picture 1 = sGet [(10, 3)] 4 := rfl
theorem i_Fi_picture_4 : opAt m_Fi_picture 4 = sIld 1 5 := rfl
theorem i_Fi_picture_5 : opAt m_Fi_picture 5 = sVir [(7, m_Sh_printAt)] 0 1 8 := rfl
theorem i_Fi_picture_8 : opAt m_Fi_picture 8 = sAst 4 10 := rfl
theorem i_Fi_picture_10 : opAt m_Fi_picture 10 = sAld 4 12 := rfl
theorem i_Fi_picture_12 : opAt m_Fi_picture 12 = sNul 30 15 := rfl
theorem i_Fi_picture_15 : opAt m_Fi_picture 15 = sIld 2 16 := rfl
theorem i_Fi_picture_16 : opAt m_Fi_picture 16 = sPush (.int (Int32.ofInt 0)) 17 := rfl
theorem i_Fi_picture_17 : opAt m_Fi_picture 17 = sAld 4 19 := rfl
theorem i_Fi_picture_19 : opAt m_Fi_picture 19 = sGet [(5, 0)] 22 := rfl
theorem i_Fi_picture_22 : opAt m_Fi_picture 22 = sPush (.int (Int32.ofInt 1)) 23 := rfl
theorem i_Fi_picture_23 : opAt m_Fi_picture 23 = sBI (fun x y => x - y) 24 := rfl
theorem i_Fi_picture_24 : opAt m_Fi_picture 24 = sSta m_Fi_isWithin 0 3 27 := rfl
theorem i_Fi_picture_27 : opAt m_Fi_picture 27 = sIf .ne 33 30 := rfl
theorem i_Fi_picture_30 : opAt m_Fi_picture 30 = sPush (.int (Int8.ofInt (-101)).toInt32) 32 := rfl
theorem i_Fi_picture_32 : opAt m_Fi_picture 32 = sIret .int := rfl
theorem i_Fi_picture_33 : opAt m_Fi_picture 33 = sIld 3 34 := rfl
theorem i_Fi_picture_34 : opAt m_Fi_picture 34 = sPush (.int (Int32.ofInt 0)) 35 := rfl
theorem i_Fi_picture_35 : opAt m_Fi_picture 35 = sPush (.int (Int32.ofInt 2)) 36 := rfl
theorem i_Fi_picture_36 : opAt m_Fi_picture 36 = sSta m_Fi_isWithin 0 3 39 := rfl
theorem i_Fi_picture_39 : opAt m_Fi_picture 39 = sIf .ne 45 42 := rfl
theorem i_Fi_picture_42 : opAt m_Fi_picture 42 = sPush (.int (Int8.ofInt (-102)).toInt32) 44 := rfl
theorem i_Fi_picture_44 : opAt m_Fi_picture 44 = sIret .int := rfl
theorem i_Fi_picture_45 : opAt m_Fi_picture 45 = sAld 4 47 := rfl
theorem i_Fi_picture_47 : opAt m_Fi_picture 47 = sIld 2 48 := rfl
theorem i_Fi_picture_48 : opAt m_Fi_picture 48 = sIld 3 49 := rfl
theorem i_Fi_picture_49 : opAt m_Fi_picture 49 = sVir [(5, m_Pr_tell)] 0 2 52 := rfl
theorem i_Fi_picture_52 : opAt m_Fi_picture 52 = sIret .int := rfl
theorem i_Fi_whose_0 : opAt m_Fi_whose 0 = sAld 0 1 := rfl
theorem i_Fi_whose_1 : opAt m_Fi_whose 1 = sGet [(10, 3)] 4 := rfl
theorem i_Fi_whose_4 : opAt m_Fi_whose 4 = sIld 1 5 := rfl
theorem i_Fi_whose_5 : opAt m_Fi_whose 5 = sVir [(7, m_Sh_printAt)] 0 1 8 := rfl
theorem i_Fi_whose_8 : opAt m_Fi_whose 8 = sAst 2 9 := rfl
theorem i_Fi_whose_9 : opAt m_Fi_whose 9 = sAld 2 10 := rfl
theorem i_Fi_whose_10 : opAt m_Fi_whose 10 = sNul 13 18 := rfl
theorem i_Fi_whose_13 : opAt m_Fi_whose 13 = sPush (.int (Int8.ofInt (-101)).toInt32) 15 := rfl
theorem i_Fi_whose_15 : opAt m_Fi_whose 15 = sGo 23 := rfl
theorem i_Fi_whose_18 : opAt m_Fi_whose 18 = sAld 0 19 := rfl
theorem i_Fi_whose_19 : opAt m_Fi_whose 19 = sAld 2 20 := rfl
theorem i_Fi_whose_20 : opAt m_Fi_whose 20 = sVir [(10, m_Fi_ownersOf)] 0 1 23 := rfl
theorem i_Fi_whose_23 : opAt m_Fi_whose 23 = sIret .int := rfl
theorem i_Fi_ownersOf_0 : opAt m_Fi_ownersOf 0 = sPush (.int (Int32.ofInt 0)) 1 := rfl
theorem i_Fi_ownersOf_1 : opAt m_Fi_ownersOf 1 = sIst 2 2 := rfl
theorem i_Fi_ownersOf_2 : opAt m_Fi_ownersOf 2 = sPush (.int (Int32.ofInt 0)) 3 := rfl
theorem i_Fi_ownersOf_3 : opAt m_Fi_ownersOf 3 = sIst 3 4 := rfl
theorem i_Fi_ownersOf_4 : opAt m_Fi_ownersOf 4 = sIld 3 5 := rfl
theorem i_Fi_ownersOf_5 : opAt m_Fi_ownersOf 5 = sAld 0 6 := rfl
theorem i_Fi_ownersOf_6 : opAt m_Fi_ownersOf 6 = sGet [(10, 2)] 9 := rfl
theorem i_Fi_ownersOf_9 : opAt m_Fi_ownersOf 9 = sCm .ge 45 12 := rfl
theorem i_Fi_ownersOf_12 : opAt m_Fi_ownersOf 12 = sAld 0 13 := rfl
theorem i_Fi_ownersOf_13 : opAt m_Fi_ownersOf 13 = sIld 3 14 := rfl
theorem i_Fi_ownersOf_14 : opAt m_Fi_ownersOf 14 = sVir [(10, m_Fi_machineAt)] 0 1 17 := rfl
theorem i_Fi_ownersOf_17 : opAt m_Fi_ownersOf 17 = sAst 4 19 := rfl
theorem i_Fi_ownersOf_19 : opAt m_Fi_ownersOf 19 = sAld 4 21 := rfl
theorem i_Fi_ownersOf_21 : opAt m_Fi_ownersOf 21 = sNul 39 24 := rfl
theorem i_Fi_ownersOf_24 : opAt m_Fi_ownersOf 24 = sAld 4 26 := rfl
theorem i_Fi_ownersOf_26 : opAt m_Fi_ownersOf 26 = sAld 1 27 := rfl
theorem i_Fi_ownersOf_27 : opAt m_Fi_ownersOf 27 = sVir [(3, m_Ma_mayHaveMarked)] 0 1 30 := rfl
theorem i_Fi_ownersOf_30 : opAt m_Fi_ownersOf 30 = sIf .eq 39 33 := rfl
theorem i_Fi_ownersOf_33 : opAt m_Fi_ownersOf 33 = sIld 2 34 := rfl
theorem i_Fi_ownersOf_34 : opAt m_Fi_ownersOf 34 = sPush (.int (Int32.ofInt 1)) 35 := rfl
theorem i_Fi_ownersOf_35 : opAt m_Fi_ownersOf 35 = sIld 3 36 := rfl
theorem i_Fi_ownersOf_36 : opAt m_Fi_ownersOf 36 = sBI (fun x y => x <<< (y &&& 31)) 37 := rfl
theorem i_Fi_ownersOf_37 : opAt m_Fi_ownersOf 37 = sBI (fun x y => x ||| y) 38 := rfl
theorem i_Fi_ownersOf_38 : opAt m_Fi_ownersOf 38 = sIst 2 39 := rfl
theorem i_Fi_ownersOf_39 : opAt m_Fi_ownersOf 39 = sInc 3 1 42 := rfl
theorem i_Fi_ownersOf_42 : opAt m_Fi_ownersOf 42 = sGo 4 := rfl
theorem i_Fi_ownersOf_45 : opAt m_Fi_ownersOf 45 = sIld 2 46 := rfl
theorem i_Fi_ownersOf_46 : opAt m_Fi_ownersOf 46 = sIret .int := rfl
theorem i_Fi_isAmong_0 : opAt m_Fi_isAmong 0 = sLld 0 1 := rfl
theorem i_Fi_isAmong_1 : opAt m_Fi_isAmong 1 = sLld 2 2 := rfl
theorem i_Fi_isAmong_2 : opAt m_Fi_isAmong 2 = sPush (.long (-1)) 5 := rfl
theorem i_Fi_isAmong_5 : opAt m_Fi_isAmong 5 = sBL (fun x y => x ^^^ y) 6 := rfl
theorem i_Fi_isAmong_6 : opAt m_Fi_isAmong 6 = sBL (fun x y => x &&& y) 7 := rfl
theorem i_Fi_isAmong_7 : opAt m_Fi_isAmong 7 = sPush (.long (Int64.ofNat ((0 : Fin 2) : Nat))) 8 := rfl
theorem i_Fi_isAmong_8 : opAt m_Fi_isAmong 8 = sCmp 9 := rfl
theorem i_Fi_isAmong_9 : opAt m_Fi_isAmong 9 = sIf .ne 16 12 := rfl
theorem i_Fi_isAmong_12 : opAt m_Fi_isAmong 12 = sPush (.int (Int32.ofInt 1)) 13 := rfl
theorem i_Fi_isAmong_13 : opAt m_Fi_isAmong 13 = sGo 17 := rfl
theorem i_Fi_isAmong_16 : opAt m_Fi_isAmong 16 = sPush (.int (Int32.ofInt 0)) 17 := rfl
theorem i_Fi_isAmong_17 : opAt m_Fi_isAmong 17 = sIret .boolean := rfl
theorem i_Fi_letters_0 : opAt m_Fi_letters 0 = sLld 1 1 := rfl
theorem i_Fi_letters_1 : opAt m_Fi_letters 1 = sSta m_Fi_lettersIn 0 1 4 := rfl
theorem i_Fi_letters_4 : opAt m_Fi_letters 4 = sIst 3 5 := rfl
theorem i_Fi_letters_5 : opAt m_Fi_letters 5 = sIld 3 6 := rfl
theorem i_Fi_letters_6 : opAt m_Fi_letters 6 = sPush (.int (Int32.ofInt (-1))) 7 := rfl
theorem i_Fi_letters_7 : opAt m_Fi_letters 7 = sCm .ne 13 10 := rfl
theorem i_Fi_letters_10 : opAt m_Fi_letters 10 = sPush (.int (Int8.ofInt (-102)).toInt32) 12 := rfl
theorem i_Fi_letters_12 : opAt m_Fi_letters 12 = sIret .int := rfl
theorem i_Fi_letters_13 : opAt m_Fi_letters 13 = sAld 0 14 := rfl
theorem i_Fi_letters_14 : opAt m_Fi_letters 14 = sGet [(10, 0)] 17 := rfl
theorem i_Fi_letters_17 : opAt m_Fi_letters 17 = sGet [(4, 1)] 20 := rfl
theorem i_Fi_letters_20 : opAt m_Fi_letters 20 = sIld 3 21 := rfl
theorem i_Fi_letters_21 : opAt m_Fi_letters 21 = sBI (fun x y => x + y) 22 := rfl
theorem i_Fi_letters_22 : opAt m_Fi_letters 22 = sPush (.int (Int8.ofInt 40).toInt32) 24 := rfl
theorem i_Fi_letters_24 : opAt m_Fi_letters 24 = sCm .le 30 27 := rfl
theorem i_Fi_letters_27 : opAt m_Fi_letters 27 = sPush (.int (Int8.ofInt (-104)).toInt32) 29 := rfl
theorem i_Fi_letters_29 : opAt m_Fi_letters 29 = sIret .int := rfl
theorem i_Fi_letters_30 : opAt m_Fi_letters 30 = sPush (.int (Int32.ofInt 0)) 31 := rfl
theorem i_Fi_letters_31 : opAt m_Fi_letters 31 = sIst 4 33 := rfl
theorem i_Fi_letters_33 : opAt m_Fi_letters 33 = sIld 4 35 := rfl
theorem i_Fi_letters_35 : opAt m_Fi_letters 35 = sIld 3 36 := rfl
theorem i_Fi_letters_36 : opAt m_Fi_letters 36 = sCm .ge 59 39 := rfl
theorem i_Fi_letters_39 : opAt m_Fi_letters 39 = sAld 0 40 := rfl
theorem i_Fi_letters_40 : opAt m_Fi_letters 40 = sGet [(10, 0)] 43 := rfl
theorem i_Fi_letters_43 : opAt m_Fi_letters 43 = sLld 1 44 := rfl
theorem i_Fi_letters_44 : opAt m_Fi_letters 44 = sIld 4 46 := rfl
theorem i_Fi_letters_46 : opAt m_Fi_letters 46 = sSta m_Fi_byteOf 0 2 49 := rfl
theorem i_Fi_letters_49 : opAt m_Fi_letters 49 = sUI (fun x => (x.toUInt32 % 65536).toInt32) 50 := rfl
theorem i_Fi_letters_50 : opAt m_Fi_letters 50 = sVir [(4, m_Pa_append)] 0 1 53 := rfl
theorem i_Fi_letters_53 : opAt m_Fi_letters 53 = sInc 4 1 56 := rfl
theorem i_Fi_letters_56 : opAt m_Fi_letters 56 = sGo 33 := rfl
theorem i_Fi_letters_59 : opAt m_Fi_letters 59 = sAld 0 60 := rfl
theorem i_Fi_letters_60 : opAt m_Fi_letters 60 = sGet [(10, 0)] 63 := rfl
theorem i_Fi_letters_63 : opAt m_Fi_letters 63 = sGet [(4, 1)] 66 := rfl
theorem i_Fi_letters_66 : opAt m_Fi_letters 66 = sIret .int := rfl
theorem i_Fi_lettersIn_0 : opAt m_Fi_lettersIn 0 = sPush (.int (Int32.ofInt 0)) 1 := rfl
theorem i_Fi_lettersIn_1 : opAt m_Fi_lettersIn 1 = sIst 2 2 := rfl
theorem i_Fi_lettersIn_2 : opAt m_Fi_lettersIn 2 = sPush (.int (Int32.ofInt 0)) 3 := rfl
theorem i_Fi_lettersIn_3 : opAt m_Fi_lettersIn 3 = sIst 3 4 := rfl
theorem i_Fi_lettersIn_4 : opAt m_Fi_lettersIn 4 = sIld 3 5 := rfl
theorem i_Fi_lettersIn_5 : opAt m_Fi_lettersIn 5 = sPush (.int (Int8.ofInt 8).toInt32) 7 := rfl
theorem i_Fi_lettersIn_7 : opAt m_Fi_lettersIn 7 = sCm .ge 50 10 := rfl
theorem i_Fi_lettersIn_10 : opAt m_Fi_lettersIn 10 = sLld 0 11 := rfl
theorem i_Fi_lettersIn_11 : opAt m_Fi_lettersIn 11 = sIld 3 12 := rfl
theorem i_Fi_lettersIn_12 : opAt m_Fi_lettersIn 12 = sSta m_Fi_byteOf 0 2 15 := rfl
theorem i_Fi_lettersIn_15 : opAt m_Fi_lettersIn 15 = sIst 4 17 := rfl
theorem i_Fi_lettersIn_17 : opAt m_Fi_lettersIn 17 = sIld 4 19 := rfl
theorem i_Fi_lettersIn_19 : opAt m_Fi_lettersIn 19 = sPush (.int (Int8.ofInt 126).toInt32) 21 := rfl
theorem i_Fi_lettersIn_21 : opAt m_Fi_lettersIn 21 = sCm .gt 34 24 := rfl
theorem i_Fi_lettersIn_24 : opAt m_Fi_lettersIn 24 = sIld 4 26 := rfl
theorem i_Fi_lettersIn_26 : opAt m_Fi_lettersIn 26 = sIf .eq 36 29 := rfl
theorem i_Fi_lettersIn_29 : opAt m_Fi_lettersIn 29 = sIld 2 30 := rfl
theorem i_Fi_lettersIn_30 : opAt m_Fi_lettersIn 30 = sIld 3 31 := rfl
theorem i_Fi_lettersIn_31 : opAt m_Fi_lettersIn 31 = sCm .ge 36 34 := rfl
theorem i_Fi_lettersIn_34 : opAt m_Fi_lettersIn 34 = sPush (.int (Int32.ofInt (-1))) 35 := rfl
theorem i_Fi_lettersIn_35 : opAt m_Fi_lettersIn 35 = sIret .int := rfl
theorem i_Fi_lettersIn_36 : opAt m_Fi_lettersIn 36 = sIld 4 38 := rfl
theorem i_Fi_lettersIn_38 : opAt m_Fi_lettersIn 38 = sIf .eq 44 41 := rfl
theorem i_Fi_lettersIn_41 : opAt m_Fi_lettersIn 41 = sInc 2 1 44 := rfl
theorem i_Fi_lettersIn_44 : opAt m_Fi_lettersIn 44 = sInc 3 1 47 := rfl
theorem i_Fi_lettersIn_47 : opAt m_Fi_lettersIn 47 = sGo 4 := rfl
theorem i_Fi_lettersIn_50 : opAt m_Fi_lettersIn 50 = sIld 2 51 := rfl
theorem i_Fi_lettersIn_51 : opAt m_Fi_lettersIn 51 = sIret .int := rfl
theorem i_Fi_byteOf_0 : opAt m_Fi_byteOf 0 = sLld 0 1 := rfl
theorem i_Fi_byteOf_1 : opAt m_Fi_byteOf 1 = sPush (.int (Int8.ofInt 8).toInt32) 3 := rfl
theorem i_Fi_byteOf_3 : opAt m_Fi_byteOf 3 = sIld 2 4 := rfl
theorem i_Fi_byteOf_4 : opAt m_Fi_byteOf 4 = sBI (fun x y => x * y) 5 := rfl
theorem i_Fi_byteOf_5 : opAt m_Fi_byteOf 5 = sSL (fun x y => (x.toUInt64 >>> (y.toInt64.toUInt64 &&& Int64.toUInt64 63)).toInt64) 6 := rfl
theorem i_Fi_byteOf_6 : opAt m_Fi_byteOf 6 = sLI 7 := rfl
theorem i_Fi_byteOf_7 : opAt m_Fi_byteOf 7 = sPush (.int (Int16.ofInt 255).toInt32) 10 := rfl
theorem i_Fi_byteOf_10 : opAt m_Fi_byteOf 10 = sBI (fun x y => x &&& y) 11 := rfl
theorem i_Fi_byteOf_11 : opAt m_Fi_byteOf 11 = sIret .int := rfl
theorem i_Fi_length_0 : opAt m_Fi_length 0 = sAld 0 1 := rfl
theorem i_Fi_length_1 : opAt m_Fi_length 1 = sGet [(10, 3)] 4 := rfl
theorem i_Fi_length_4 : opAt m_Fi_length 4 = sIld 1 5 := rfl
theorem i_Fi_length_5 : opAt m_Fi_length 5 = sVir [(7, m_Sh_printAt)] 0 1 8 := rfl
theorem i_Fi_length_8 : opAt m_Fi_length 8 = sAst 2 9 := rfl
theorem i_Fi_length_9 : opAt m_Fi_length 9 = sAld 2 10 := rfl
theorem i_Fi_length_10 : opAt m_Fi_length 10 = sNul 13 18 := rfl
theorem i_Fi_length_13 : opAt m_Fi_length 13 = sPush (.int (Int8.ofInt (-101)).toInt32) 15 := rfl
theorem i_Fi_length_15 : opAt m_Fi_length 15 = sGo 22 := rfl
theorem i_Fi_length_18 : opAt m_Fi_length 18 = sAld 2 19 := rfl
theorem i_Fi_length_19 : opAt m_Fi_length 19 = sGet [(5, 0)] 22 := rfl
theorem i_Fi_length_22 : opAt m_Fi_length 22 = sIret .int := rfl
theorem i_Fi_lets_0 : opAt m_Fi_lets 0 = sAld 0 1 := rfl
theorem i_Fi_lets_1 : opAt m_Fi_lets 1 = sGet [(10, 3)] 4 := rfl
theorem i_Fi_lets_4 : opAt m_Fi_lets 4 = sIld 1 5 := rfl
theorem i_Fi_lets_5 : opAt m_Fi_lets 5 = sVir [(7, m_Sh_printAt)] 0 1 8 := rfl
theorem i_Fi_lets_8 : opAt m_Fi_lets 8 = sAst 6 10 := rfl
theorem i_Fi_lets_10 : opAt m_Fi_lets 10 = sAld 6 12 := rfl
theorem i_Fi_lets_12 : opAt m_Fi_lets 12 = sNul 15 18 := rfl
theorem i_Fi_lets_15 : opAt m_Fi_lets 15 = sPush (.int (Int8.ofInt (-101)).toInt32) 17 := rfl
theorem i_Fi_lets_17 : opAt m_Fi_lets 17 = sIret .int := rfl
theorem i_Fi_lets_18 : opAt m_Fi_lets 18 = sIld 2 19 := rfl
theorem i_Fi_lets_19 : opAt m_Fi_lets 19 = sSta m_Fi_isSide 0 1 22 := rfl
theorem i_Fi_lets_22 : opAt m_Fi_lets 22 = sIf .eq 53 25 := rfl
theorem i_Fi_lets_25 : opAt m_Fi_lets 25 = sIld 3 26 := rfl
theorem i_Fi_lets_26 : opAt m_Fi_lets 26 = sSta m_Fi_isSort 0 1 29 := rfl
theorem i_Fi_lets_29 : opAt m_Fi_lets 29 = sIf .eq 53 32 := rfl
theorem i_Fi_lets_32 : opAt m_Fi_lets 32 = sIld 4 34 := rfl
theorem i_Fi_lets_34 : opAt m_Fi_lets 34 = sSta m_Fi_isRound 0 1 37 := rfl
theorem i_Fi_lets_37 : opAt m_Fi_lets 37 = sIf .eq 53 40 := rfl
theorem i_Fi_lets_40 : opAt m_Fi_lets 40 = sIld 5 42 := rfl
theorem i_Fi_lets_42 : opAt m_Fi_lets 42 = sPush (.int (Int32.ofInt 0)) 43 := rfl
theorem i_Fi_lets_43 : opAt m_Fi_lets 43 = sIld 4 45 := rfl
theorem i_Fi_lets_45 : opAt m_Fi_lets 45 = sPush (.int (Int32.ofInt 1)) 46 := rfl
theorem i_Fi_lets_46 : opAt m_Fi_lets 46 = sBI (fun x y => x - y) 47 := rfl
theorem i_Fi_lets_47 : opAt m_Fi_lets 47 = sSta m_Fi_isWithin 0 3 50 := rfl
theorem i_Fi_lets_50 : opAt m_Fi_lets 50 = sIf .ne 56 53 := rfl
theorem i_Fi_lets_53 : opAt m_Fi_lets 53 = sPush (.int (Int8.ofInt (-102)).toInt32) 55 := rfl
theorem i_Fi_lets_55 : opAt m_Fi_lets 55 = sIret .int := rfl
theorem i_Fi_lets_56 : opAt m_Fi_lets 56 = sAld 6 58 := rfl
theorem i_Fi_lets_58 : opAt m_Fi_lets 58 = sIld 2 59 := rfl
theorem i_Fi_lets_59 : opAt m_Fi_lets 59 = sIld 3 60 := rfl
theorem i_Fi_lets_60 : opAt m_Fi_lets 60 = sVir [(5, m_Pr_marked)] 0 2 63 := rfl
theorem i_Fi_lets_63 : opAt m_Fi_lets 63 = sAld 6 65 := rfl
theorem i_Fi_lets_65 : opAt m_Fi_lets 65 = sGet [(5, 0)] 68 := rfl
theorem i_Fi_lets_68 : opAt m_Fi_lets 68 = sIld 5 70 := rfl
theorem i_Fi_lets_70 : opAt m_Fi_lets 70 = sIld 4 72 := rfl
theorem i_Fi_lets_72 : opAt m_Fi_lets 72 = sSta m_Fi_everyOf 0 3 75 := rfl
theorem i_Fi_lets_75 : opAt m_Fi_lets 75 = sPush (.int (Int32.ofInt 2)) 76 := rfl
theorem i_Fi_lets_76 : opAt m_Fi_lets 76 = sSta m_Fi_mayBe 0 3 79 := rfl
theorem i_Fi_lets_79 : opAt m_Fi_lets 79 = sIf .eq 86 82 := rfl
theorem i_Fi_lets_82 : opAt m_Fi_lets 82 = sPush (.int (Int32.ofInt 1)) 83 := rfl
theorem i_Fi_lets_83 : opAt m_Fi_lets 83 = sGo 87 := rfl
theorem i_Fi_lets_86 : opAt m_Fi_lets 86 = sPush (.int (Int32.ofInt 0)) 87 := rfl
theorem i_Fi_lets_87 : opAt m_Fi_lets 87 = sIret .int := rfl
theorem i_Fi_isSort_0 : opAt m_Fi_isSort 0 = sIld 0 1 := rfl
theorem i_Fi_isSort_1 : opAt m_Fi_isSort 1 = sPush (.int (Int32.ofInt 0)) 2 := rfl
theorem i_Fi_isSort_2 : opAt m_Fi_isSort 2 = sPush (.int (Int32.ofInt 2)) 3 := rfl
theorem i_Fi_isSort_3 : opAt m_Fi_isSort 3 = sSta m_Fi_isWithin 0 3 6 := rfl
theorem i_Fi_isSort_6 : opAt m_Fi_isSort 6 = sIret .boolean := rfl
theorem i_Fi_isRound_0 : opAt m_Fi_isRound 0 = sIld 0 1 := rfl
theorem i_Fi_isRound_1 : opAt m_Fi_isRound 1 = sPush (.int (Int32.ofInt 2)) 2 := rfl
theorem i_Fi_isRound_2 : opAt m_Fi_isRound 2 = sPush (.int (Int8.ofInt 19).toInt32) 4 := rfl
theorem i_Fi_isRound_4 : opAt m_Fi_isRound 4 = sSta m_Fi_isWithin 0 3 7 := rfl
theorem i_Fi_isRound_7 : opAt m_Fi_isRound 7 = sIret .boolean := rfl
theorem i_Fi_mayBe_0 : opAt m_Fi_mayBe 0 = sLld 2 1 := rfl
theorem i_Fi_mayBe_1 : opAt m_Fi_mayBe 1 = sSta m_Jlong_bitCount 0 1 4 := rfl
theorem i_Fi_mayBe_4 : opAt m_Fi_mayBe 4 = sIld 4 6 := rfl
theorem i_Fi_mayBe_6 : opAt m_Fi_mayBe 6 = sCm .lt 21 9 := rfl
theorem i_Fi_mayBe_9 : opAt m_Fi_mayBe 9 = sLld 2 10 := rfl
theorem i_Fi_mayBe_10 : opAt m_Fi_mayBe 10 = sLld 0 11 := rfl
theorem i_Fi_mayBe_11 : opAt m_Fi_mayBe 11 = sSta m_Fi_isAmong 0 2 14 := rfl
theorem i_Fi_mayBe_14 : opAt m_Fi_mayBe 14 = sIf .eq 21 17 := rfl
theorem i_Fi_mayBe_17 : opAt m_Fi_mayBe 17 = sPush (.int (Int32.ofInt 1)) 18 := rfl
theorem i_Fi_mayBe_18 : opAt m_Fi_mayBe 18 = sGo 22 := rfl
theorem i_Fi_mayBe_21 : opAt m_Fi_mayBe 21 = sPush (.int (Int32.ofInt 0)) 22 := rfl
theorem i_Fi_mayBe_22 : opAt m_Fi_mayBe 22 = sIret .boolean := rfl
theorem i_Fi_chance_0 : opAt m_Fi_chance 0 = sAld 0 1 := rfl
theorem i_Fi_chance_1 : opAt m_Fi_chance 1 = sGet [(10, 3)] 4 := rfl
theorem i_Fi_chance_4 : opAt m_Fi_chance 4 = sIld 1 5 := rfl
theorem i_Fi_chance_5 : opAt m_Fi_chance 5 = sVir [(7, m_Sh_printAt)] 0 1 8 := rfl
theorem i_Fi_chance_8 : opAt m_Fi_chance 8 = sAst 7 10 := rfl
theorem i_Fi_chance_10 : opAt m_Fi_chance 10 = sAld 7 12 := rfl
theorem i_Fi_chance_12 : opAt m_Fi_chance 12 = sNul 15 19 := rfl
theorem i_Fi_chance_15 : opAt m_Fi_chance 15 = sPush (.long (-101)) 18 := rfl
theorem i_Fi_chance_18 : opAt m_Fi_chance 18 = sLret := rfl
theorem i_Fi_chance_19 : opAt m_Fi_chance 19 = sIld 2 20 := rfl
theorem i_Fi_chance_20 : opAt m_Fi_chance 20 = sSta m_Fi_isSide 0 1 23 := rfl
theorem i_Fi_chance_23 : opAt m_Fi_chance 23 = sIf .eq 64 26 := rfl
theorem i_Fi_chance_26 : opAt m_Fi_chance 26 = sIld 3 27 := rfl
theorem i_Fi_chance_27 : opAt m_Fi_chance 27 = sSta m_Fi_isSort 0 1 30 := rfl
theorem i_Fi_chance_30 : opAt m_Fi_chance 30 = sIf .eq 64 33 := rfl
theorem i_Fi_chance_33 : opAt m_Fi_chance 33 = sIld 4 35 := rfl
theorem i_Fi_chance_35 : opAt m_Fi_chance 35 = sSta m_Fi_isRound 0 1 38 := rfl
theorem i_Fi_chance_38 : opAt m_Fi_chance 38 = sIf .eq 64 41 := rfl
theorem i_Fi_chance_41 : opAt m_Fi_chance 41 = sIld 5 43 := rfl
theorem i_Fi_chance_43 : opAt m_Fi_chance 43 = sPush (.int (Int32.ofInt 0)) 44 := rfl
theorem i_Fi_chance_44 : opAt m_Fi_chance 44 = sIld 4 46 := rfl
theorem i_Fi_chance_46 : opAt m_Fi_chance 46 = sPush (.int (Int32.ofInt 1)) 47 := rfl
theorem i_Fi_chance_47 : opAt m_Fi_chance 47 = sBI (fun x y => x - y) 48 := rfl
theorem i_Fi_chance_48 : opAt m_Fi_chance 48 = sSta m_Fi_isWithin 0 3 51 := rfl
theorem i_Fi_chance_51 : opAt m_Fi_chance 51 = sIf .eq 64 54 := rfl
theorem i_Fi_chance_54 : opAt m_Fi_chance 54 = sIld 6 56 := rfl
theorem i_Fi_chance_56 : opAt m_Fi_chance 56 = sPush (.int (Int32.ofInt 0)) 57 := rfl
theorem i_Fi_chance_57 : opAt m_Fi_chance 57 = sPush (.int (Int32.ofInt 1)) 58 := rfl
theorem i_Fi_chance_58 : opAt m_Fi_chance 58 = sSta m_Fi_isWithin 0 3 61 := rfl
theorem i_Fi_chance_61 : opAt m_Fi_chance 61 = sIf .ne 68 64 := rfl
theorem i_Fi_chance_64 : opAt m_Fi_chance 64 = sPush (.long (-102)) 67 := rfl
theorem i_Fi_chance_67 : opAt m_Fi_chance 67 = sLret := rfl
theorem i_Fi_chance_68 : opAt m_Fi_chance 68 = sAld 7 70 := rfl
theorem i_Fi_chance_70 : opAt m_Fi_chance 70 = sIld 2 71 := rfl
theorem i_Fi_chance_71 : opAt m_Fi_chance 71 = sIld 3 72 := rfl
theorem i_Fi_chance_72 : opAt m_Fi_chance 72 = sVir [(5, m_Pr_marked)] 0 2 75 := rfl
theorem i_Fi_chance_75 : opAt m_Fi_chance 75 = sSta m_Jlong_bitCount 0 1 78 := rfl
theorem i_Fi_chance_78 : opAt m_Fi_chance 78 = sIst 8 80 := rfl
theorem i_Fi_chance_80 : opAt m_Fi_chance 80 = sAld 7 82 := rfl
theorem i_Fi_chance_82 : opAt m_Fi_chance 82 = sGet [(5, 0)] 85 := rfl
theorem i_Fi_chance_85 : opAt m_Fi_chance 85 = sIld 5 87 := rfl
theorem i_Fi_chance_87 : opAt m_Fi_chance 87 = sIld 4 89 := rfl
theorem i_Fi_chance_89 : opAt m_Fi_chance 89 = sSta m_Fi_everyOf 0 3 92 := rfl
theorem i_Fi_chance_92 : opAt m_Fi_chance 92 = sSta m_Jlong_bitCount 0 1 95 := rfl
theorem i_Fi_chance_95 : opAt m_Fi_chance 95 = sIst 9 97 := rfl
theorem i_Fi_chance_97 : opAt m_Fi_chance 97 = sAld 7 99 := rfl
theorem i_Fi_chance_99 : opAt m_Fi_chance 99 = sGet [(5, 0)] 102 := rfl
theorem i_Fi_chance_102 : opAt m_Fi_chance 102 = sIld 8 104 := rfl
theorem i_Fi_chance_104 : opAt m_Fi_chance 104 = sIld 9 106 := rfl
theorem i_Fi_chance_106 : opAt m_Fi_chance 106 = sIld 6 108 := rfl
theorem i_Fi_chance_108 : opAt m_Fi_chance 108 = sSta m_Fi_chanceOf 0 4 111 := rfl
theorem i_Fi_chance_111 : opAt m_Fi_chance 111 = sLret := rfl
theorem i_Fi_chanceOf_0 : opAt m_Fi_chanceOf 0 = sIld 2 1 := rfl
theorem i_Fi_chanceOf_1 : opAt m_Fi_chanceOf 1 = sIld 1 2 := rfl
theorem i_Fi_chanceOf_2 : opAt m_Fi_chanceOf 2 = sCm .le 8 5 := rfl
theorem i_Fi_chanceOf_5 : opAt m_Fi_chanceOf 5 = sIld 3 6 := rfl
theorem i_Fi_chanceOf_6 : opAt m_Fi_chanceOf 6 = sIL 7 := rfl
theorem i_Fi_chanceOf_7 : opAt m_Fi_chanceOf 7 = sLret := rfl
theorem i_Fi_chanceOf_8 : opAt m_Fi_chanceOf 8 = sPush (.long (Int64.ofNat ((1 : Fin 2) : Nat))) 9 := rfl
theorem i_Fi_chanceOf_9 : opAt m_Fi_chanceOf 9 = sLst 4 11 := rfl
theorem i_Fi_chanceOf_11 : opAt m_Fi_chanceOf 11 = sPush (.long (Int64.ofNat ((1 : Fin 2) : Nat))) 12 := rfl
theorem i_Fi_chanceOf_12 : opAt m_Fi_chanceOf 12 = sLst 6 14 := rfl
theorem i_Fi_chanceOf_14 : opAt m_Fi_chanceOf 14 = sPush (.int (Int32.ofInt 0)) 15 := rfl
theorem i_Fi_chanceOf_15 : opAt m_Fi_chanceOf 15 = sIst 8 17 := rfl
theorem i_Fi_chanceOf_17 : opAt m_Fi_chanceOf 17 = sIld 8 19 := rfl
theorem i_Fi_chanceOf_19 : opAt m_Fi_chanceOf 19 = sIld 2 20 := rfl
theorem i_Fi_chanceOf_20 : opAt m_Fi_chanceOf 20 = sCm .ge 79 23 := rfl
theorem i_Fi_chanceOf_23 : opAt m_Fi_chanceOf 23 = sLld 4 25 := rfl
theorem i_Fi_chanceOf_25 : opAt m_Fi_chanceOf 25 = sIld 1 26 := rfl
theorem i_Fi_chanceOf_26 : opAt m_Fi_chanceOf 26 = sIld 8 28 := rfl
theorem i_Fi_chanceOf_28 : opAt m_Fi_chanceOf 28 = sBI (fun x y => x - y) 29 := rfl
theorem i_Fi_chanceOf_29 : opAt m_Fi_chanceOf 29 = sIL 30 := rfl
theorem i_Fi_chanceOf_30 : opAt m_Fi_chanceOf 30 = sBL (fun x y => x * y) 31 := rfl
theorem i_Fi_chanceOf_31 : opAt m_Fi_chanceOf 31 = sLst 4 33 := rfl
theorem i_Fi_chanceOf_33 : opAt m_Fi_chanceOf 33 = sLld 6 35 := rfl
theorem i_Fi_chanceOf_35 : opAt m_Fi_chanceOf 35 = sIld 0 36 := rfl
theorem i_Fi_chanceOf_36 : opAt m_Fi_chanceOf 36 = sIld 8 38 := rfl
theorem i_Fi_chanceOf_38 : opAt m_Fi_chanceOf 38 = sBI (fun x y => x - y) 39 := rfl
theorem i_Fi_chanceOf_39 : opAt m_Fi_chanceOf 39 = sIL 40 := rfl
theorem i_Fi_chanceOf_40 : opAt m_Fi_chanceOf 40 = sBL (fun x y => x * y) 41 := rfl
theorem i_Fi_chanceOf_41 : opAt m_Fi_chanceOf 41 = sLst 6 43 := rfl
theorem i_Fi_chanceOf_43 : opAt m_Fi_chanceOf 43 = sLld 4 45 := rfl
theorem i_Fi_chanceOf_45 : opAt m_Fi_chanceOf 45 = sLld 6 47 := rfl
theorem i_Fi_chanceOf_47 : opAt m_Fi_chanceOf 47 = sSta m_Fi_commonDivisor 0 2 50 := rfl
theorem i_Fi_chanceOf_50 : opAt m_Fi_chanceOf 50 = sLst 9 52 := rfl
theorem i_Fi_chanceOf_52 : opAt m_Fi_chanceOf 52 = sLld 9 54 := rfl
theorem i_Fi_chanceOf_54 : opAt m_Fi_chanceOf 54 = sPush (.long (Int64.ofNat ((1 : Fin 2) : Nat))) 55 := rfl
theorem i_Fi_chanceOf_55 : opAt m_Fi_chanceOf 55 = sCmp 56 := rfl
theorem i_Fi_chanceOf_56 : opAt m_Fi_chanceOf 56 = sIf .le 73 59 := rfl
theorem i_Fi_chanceOf_59 : opAt m_Fi_chanceOf 59 = sLld 4 61 := rfl
theorem i_Fi_chanceOf_61 : opAt m_Fi_chanceOf 61 = sLld 9 63 := rfl
theorem i_Fi_chanceOf_63 : opAt m_Fi_chanceOf 63 = sDL (fun x y => x / y) 64 := rfl
theorem i_Fi_chanceOf_64 : opAt m_Fi_chanceOf 64 = sLst 4 66 := rfl
theorem i_Fi_chanceOf_66 : opAt m_Fi_chanceOf 66 = sLld 6 68 := rfl
theorem i_Fi_chanceOf_68 : opAt m_Fi_chanceOf 68 = sLld 9 70 := rfl
theorem i_Fi_chanceOf_70 : opAt m_Fi_chanceOf 70 = sDL (fun x y => x / y) 71 := rfl
theorem i_Fi_chanceOf_71 : opAt m_Fi_chanceOf 71 = sLst 6 73 := rfl
theorem i_Fi_chanceOf_73 : opAt m_Fi_chanceOf 73 = sInc 8 1 76 := rfl
theorem i_Fi_chanceOf_76 : opAt m_Fi_chanceOf 76 = sGo 17 := rfl
theorem i_Fi_chanceOf_79 : opAt m_Fi_chanceOf 79 = sIld 3 80 := rfl
theorem i_Fi_chanceOf_80 : opAt m_Fi_chanceOf 80 = sIf .ne 88 83 := rfl
theorem i_Fi_chanceOf_83 : opAt m_Fi_chanceOf 83 = sLld 4 85 := rfl
theorem i_Fi_chanceOf_85 : opAt m_Fi_chanceOf 85 = sGo 90 := rfl
theorem i_Fi_chanceOf_88 : opAt m_Fi_chanceOf 88 = sLld 6 90 := rfl
theorem i_Fi_chanceOf_90 : opAt m_Fi_chanceOf 90 = sLret := rfl
theorem i_Fi_commonDivisor_0 : opAt m_Fi_commonDivisor 0 = sLld 0 1 := rfl
theorem i_Fi_commonDivisor_1 : opAt m_Fi_commonDivisor 1 = sLst 4 3 := rfl
theorem i_Fi_commonDivisor_3 : opAt m_Fi_commonDivisor 3 = sLld 2 4 := rfl
theorem i_Fi_commonDivisor_4 : opAt m_Fi_commonDivisor 4 = sLst 6 6 := rfl
theorem i_Fi_commonDivisor_6 : opAt m_Fi_commonDivisor 6 = sPush (.int (Int32.ofInt 0)) 7 := rfl
theorem i_Fi_commonDivisor_7 : opAt m_Fi_commonDivisor 7 = sIst 8 9 := rfl
theorem i_Fi_commonDivisor_9 : opAt m_Fi_commonDivisor 9 = sIld 8 11 := rfl
theorem i_Fi_commonDivisor_11 : opAt m_Fi_commonDivisor 11 = sPush (.int (Int8.ofInt 100).toInt32) 13 := rfl
theorem i_Fi_commonDivisor_13 : opAt m_Fi_commonDivisor 13 = sCm .ge 44 16 := rfl
theorem i_Fi_commonDivisor_16 : opAt m_Fi_commonDivisor 16 = sLld 6 18 := rfl
theorem i_Fi_commonDivisor_18 : opAt m_Fi_commonDivisor 18 = sPush (.long (Int64.ofNat ((0 : Fin 2) : Nat))) 19 := rfl
theorem i_Fi_commonDivisor_19 : opAt m_Fi_commonDivisor 19 = sCmp 20 := rfl
theorem i_Fi_commonDivisor_20 : opAt m_Fi_commonDivisor 20 = sIf .eq 44 23 := rfl
theorem i_Fi_commonDivisor_23 : opAt m_Fi_commonDivisor 23 = sLld 4 25 := rfl
theorem i_Fi_commonDivisor_25 : opAt m_Fi_commonDivisor 25 = sLld 6 27 := rfl
theorem i_Fi_commonDivisor_27 : opAt m_Fi_commonDivisor 27 = sDL (fun x y => x - x / y * y) 28 := rfl
theorem i_Fi_commonDivisor_28 : opAt m_Fi_commonDivisor 28 = sLst 9 30 := rfl
theorem i_Fi_commonDivisor_30 : opAt m_Fi_commonDivisor 30 = sLld 6 32 := rfl
theorem i_Fi_commonDivisor_32 : opAt m_Fi_commonDivisor 32 = sLst 4 34 := rfl
theorem i_Fi_commonDivisor_34 : opAt m_Fi_commonDivisor 34 = sLld 9 36 := rfl
theorem i_Fi_commonDivisor_36 : opAt m_Fi_commonDivisor 36 = sLst 6 38 := rfl
theorem i_Fi_commonDivisor_38 : opAt m_Fi_commonDivisor 38 = sInc 8 1 41 := rfl
theorem i_Fi_commonDivisor_41 : opAt m_Fi_commonDivisor 41 = sGo 9 := rfl
theorem i_Fi_commonDivisor_44 : opAt m_Fi_commonDivisor 44 = sLld 4 46 := rfl
theorem i_Fi_commonDivisor_46 : opAt m_Fi_commonDivisor 46 = sLret := rfl
theorem i_Fi_rounds_0 : opAt m_Fi_rounds 0 = sAld 0 1 := rfl
theorem i_Fi_rounds_1 : opAt m_Fi_rounds 1 = sGet [(10, 3)] 4 := rfl
theorem i_Fi_rounds_4 : opAt m_Fi_rounds 4 = sIld 1 5 := rfl
theorem i_Fi_rounds_5 : opAt m_Fi_rounds 5 = sVir [(7, m_Sh_printAt)] 0 1 8 := rfl
theorem i_Fi_rounds_8 : opAt m_Fi_rounds 8 = sAst 4 10 := rfl
theorem i_Fi_rounds_10 : opAt m_Fi_rounds 10 = sAld 4 12 := rfl
theorem i_Fi_rounds_12 : opAt m_Fi_rounds 12 = sNul 15 18 := rfl
theorem i_Fi_rounds_15 : opAt m_Fi_rounds 15 = sPush (.int (Int8.ofInt (-101)).toInt32) 17 := rfl
theorem i_Fi_rounds_17 : opAt m_Fi_rounds 17 = sIret .int := rfl
theorem i_Fi_rounds_18 : opAt m_Fi_rounds 18 = sIld 2 19 := rfl
theorem i_Fi_rounds_19 : opAt m_Fi_rounds 19 = sSta m_Fi_isSide 0 1 22 := rfl
theorem i_Fi_rounds_22 : opAt m_Fi_rounds 22 = sIf .eq 32 25 := rfl
theorem i_Fi_rounds_25 : opAt m_Fi_rounds 25 = sIld 3 26 := rfl
theorem i_Fi_rounds_26 : opAt m_Fi_rounds 26 = sSta m_Fi_isSort 0 1 29 := rfl
theorem i_Fi_rounds_29 : opAt m_Fi_rounds 29 = sIf .ne 35 32 := rfl
theorem i_Fi_rounds_32 : opAt m_Fi_rounds 32 = sPush (.int (Int8.ofInt (-102)).toInt32) 34 := rfl
theorem i_Fi_rounds_34 : opAt m_Fi_rounds 34 = sIret .int := rfl
theorem i_Fi_rounds_35 : opAt m_Fi_rounds 35 = sAld 4 37 := rfl
theorem i_Fi_rounds_37 : opAt m_Fi_rounds 37 = sIld 2 38 := rfl
theorem i_Fi_rounds_38 : opAt m_Fi_rounds 38 = sIld 3 39 := rfl
theorem i_Fi_rounds_39 : opAt m_Fi_rounds 39 = sSta m_Fi_roundsOf 0 3 42 := rfl
theorem i_Fi_rounds_42 : opAt m_Fi_rounds 42 = sIret .int := rfl
theorem i_Fi_roundsOf_0 : opAt m_Fi_roundsOf 0 = sAld 0 1 := rfl
theorem i_Fi_roundsOf_1 : opAt m_Fi_roundsOf 1 = sIld 1 2 := rfl
theorem i_Fi_roundsOf_2 : opAt m_Fi_roundsOf 2 = sIld 2 3 := rfl
theorem i_Fi_roundsOf_3 : opAt m_Fi_roundsOf 3 = sVir [(5, m_Pr_marked)] 0 2 6 := rfl
theorem i_Fi_roundsOf_6 : opAt m_Fi_roundsOf 6 = sLst 3 7 := rfl
theorem i_Fi_roundsOf_7 : opAt m_Fi_roundsOf 7 = sPush (.int (Int32.ofInt 0)) 8 := rfl
theorem i_Fi_roundsOf_8 : opAt m_Fi_roundsOf 8 = sIst 5 10 := rfl
theorem i_Fi_roundsOf_10 : opAt m_Fi_roundsOf 10 = sPush (.int (Int32.ofInt 2)) 11 := rfl
theorem i_Fi_roundsOf_11 : opAt m_Fi_roundsOf 11 = sIst 6 13 := rfl
theorem i_Fi_roundsOf_13 : opAt m_Fi_roundsOf 13 = sIld 6 15 := rfl
theorem i_Fi_roundsOf_15 : opAt m_Fi_roundsOf 15 = sPush (.int (Int8.ofInt 19).toInt32) 17 := rfl
theorem i_Fi_roundsOf_17 : opAt m_Fi_roundsOf 17 = sCm .gt 82 20 := rfl
theorem i_Fi_roundsOf_20 : opAt m_Fi_roundsOf 20 = sPush (.int (Int32.ofInt 0)) 21 := rfl
theorem i_Fi_roundsOf_21 : opAt m_Fi_roundsOf 21 = sIst 7 23 := rfl
theorem i_Fi_roundsOf_23 : opAt m_Fi_roundsOf 23 = sPush (.int (Int32.ofInt 0)) 24 := rfl
theorem i_Fi_roundsOf_24 : opAt m_Fi_roundsOf 24 = sIst 8 26 := rfl
theorem i_Fi_roundsOf_26 : opAt m_Fi_roundsOf 26 = sIld 8 28 := rfl
theorem i_Fi_roundsOf_28 : opAt m_Fi_roundsOf 28 = sIld 6 30 := rfl
theorem i_Fi_roundsOf_30 : opAt m_Fi_roundsOf 30 = sCm .ge 62 33 := rfl
theorem i_Fi_roundsOf_33 : opAt m_Fi_roundsOf 33 = sIld 7 35 := rfl
theorem i_Fi_roundsOf_35 : opAt m_Fi_roundsOf 35 = sIf .ne 62 38 := rfl
theorem i_Fi_roundsOf_38 : opAt m_Fi_roundsOf 38 = sLld 3 39 := rfl
theorem i_Fi_roundsOf_39 : opAt m_Fi_roundsOf 39 = sAld 0 40 := rfl
theorem i_Fi_roundsOf_40 : opAt m_Fi_roundsOf 40 = sGet [(5, 0)] 43 := rfl
theorem i_Fi_roundsOf_43 : opAt m_Fi_roundsOf 43 = sIld 8 45 := rfl
theorem i_Fi_roundsOf_45 : opAt m_Fi_roundsOf 45 = sIld 6 47 := rfl
theorem i_Fi_roundsOf_47 : opAt m_Fi_roundsOf 47 = sSta m_Fi_everyOf 0 3 50 := rfl
theorem i_Fi_roundsOf_50 : opAt m_Fi_roundsOf 50 = sPush (.int (Int32.ofInt 2)) 51 := rfl
theorem i_Fi_roundsOf_51 : opAt m_Fi_roundsOf 51 = sSta m_Fi_mayBe 0 3 54 := rfl
theorem i_Fi_roundsOf_54 : opAt m_Fi_roundsOf 54 = sIst 7 56 := rfl
theorem i_Fi_roundsOf_56 : opAt m_Fi_roundsOf 56 = sInc 8 1 59 := rfl
theorem i_Fi_roundsOf_59 : opAt m_Fi_roundsOf 59 = sGo 26 := rfl
theorem i_Fi_roundsOf_62 : opAt m_Fi_roundsOf 62 = sIld 7 64 := rfl
theorem i_Fi_roundsOf_64 : opAt m_Fi_roundsOf 64 = sIf .eq 76 67 := rfl
theorem i_Fi_roundsOf_67 : opAt m_Fi_roundsOf 67 = sIld 5 69 := rfl
theorem i_Fi_roundsOf_69 : opAt m_Fi_roundsOf 69 = sPush (.int (Int32.ofInt 1)) 70 := rfl
theorem i_Fi_roundsOf_70 : opAt m_Fi_roundsOf 70 = sIld 6 72 := rfl
theorem i_Fi_roundsOf_72 : opAt m_Fi_roundsOf 72 = sBI (fun x y => x <<< (y &&& 31)) 73 := rfl
theorem i_Fi_roundsOf_73 : opAt m_Fi_roundsOf 73 = sBI (fun x y => x ||| y) 74 := rfl
theorem i_Fi_roundsOf_74 : opAt m_Fi_roundsOf 74 = sIst 5 76 := rfl
theorem i_Fi_roundsOf_76 : opAt m_Fi_roundsOf 76 = sInc 6 1 79 := rfl
theorem i_Fi_roundsOf_79 : opAt m_Fi_roundsOf 79 = sGo 13 := rfl
theorem i_Fi_roundsOf_82 : opAt m_Fi_roundsOf 82 = sIld 5 84 := rfl
theorem i_Fi_roundsOf_84 : opAt m_Fi_roundsOf 84 = sIret .int := rfl
theorem i_Fi_wound_0 : opAt m_Fi_wound 0 = sAld 0 1 := rfl
theorem i_Fi_wound_1 : opAt m_Fi_wound 1 = sGet [(10, 3)] 4 := rfl
theorem i_Fi_wound_4 : opAt m_Fi_wound 4 = sIld 1 5 := rfl
theorem i_Fi_wound_5 : opAt m_Fi_wound 5 = sVir [(7, m_Sh_printAt)] 0 1 8 := rfl
theorem i_Fi_wound_8 : opAt m_Fi_wound 8 = sAst 6 10 := rfl
theorem i_Fi_wound_10 : opAt m_Fi_wound 10 = sAld 6 12 := rfl
theorem i_Fi_wound_12 : opAt m_Fi_wound 12 = sNul 15 18 := rfl
theorem i_Fi_wound_15 : opAt m_Fi_wound 15 = sPush (.int (Int8.ofInt (-101)).toInt32) 17 := rfl
theorem i_Fi_wound_17 : opAt m_Fi_wound 17 = sIret .int := rfl
theorem i_Fi_wound_18 : opAt m_Fi_wound 18 = sIld 2 19 := rfl
theorem i_Fi_wound_19 : opAt m_Fi_wound 19 = sSta m_Fi_isSide 0 1 22 := rfl
theorem i_Fi_wound_22 : opAt m_Fi_wound 22 = sIf .eq 42 25 := rfl
theorem i_Fi_wound_25 : opAt m_Fi_wound 25 = sIld 3 26 := rfl
theorem i_Fi_wound_26 : opAt m_Fi_wound 26 = sSta m_Fi_isSort 0 1 29 := rfl
theorem i_Fi_wound_29 : opAt m_Fi_wound 29 = sIf .eq 42 32 := rfl
theorem i_Fi_wound_32 : opAt m_Fi_wound 32 = sIld 5 34 := rfl
theorem i_Fi_wound_34 : opAt m_Fi_wound 34 = sPush (.int (Int32.ofInt 0)) 35 := rfl
theorem i_Fi_wound_35 : opAt m_Fi_wound 35 = sPush (.int (Int32.ofInt 2)) 36 := rfl
theorem i_Fi_wound_36 : opAt m_Fi_wound 36 = sSta m_Fi_isWithin 0 3 39 := rfl
theorem i_Fi_wound_39 : opAt m_Fi_wound 39 = sIf .ne 45 42 := rfl
theorem i_Fi_wound_42 : opAt m_Fi_wound 42 = sPush (.int (Int8.ofInt (-102)).toInt32) 44 := rfl
theorem i_Fi_wound_44 : opAt m_Fi_wound 44 = sIret .int := rfl
theorem i_Fi_wound_45 : opAt m_Fi_wound 45 = sAld 6 47 := rfl
theorem i_Fi_wound_47 : opAt m_Fi_wound 47 = sIld 2 48 := rfl
theorem i_Fi_wound_48 : opAt m_Fi_wound 48 = sIld 3 49 := rfl
theorem i_Fi_wound_49 : opAt m_Fi_wound 49 = sVir [(5, m_Pr_marked)] 0 2 52 := rfl
theorem i_Fi_wound_52 : opAt m_Fi_wound 52 = sLst 7 54 := rfl
theorem i_Fi_wound_54 : opAt m_Fi_wound 54 = sIld 4 56 := rfl
theorem i_Fi_wound_56 : opAt m_Fi_wound 56 = sIf .eq 72 59 := rfl
theorem i_Fi_wound_59 : opAt m_Fi_wound 59 = sLld 7 61 := rfl
theorem i_Fi_wound_61 : opAt m_Fi_wound 61 = sAld 6 63 := rfl
theorem i_Fi_wound_63 : opAt m_Fi_wound 63 = sGet [(5, 0)] 66 := rfl
theorem i_Fi_wound_66 : opAt m_Fi_wound 66 = sSta m_Fi_turned 0 2 69 := rfl
theorem i_Fi_wound_69 : opAt m_Fi_wound 69 = sGo 74 := rfl
theorem i_Fi_wound_72 : opAt m_Fi_wound 72 = sLld 7 74 := rfl
theorem i_Fi_wound_74 : opAt m_Fi_wound 74 = sAld 6 76 := rfl
theorem i_Fi_wound_76 : opAt m_Fi_wound 76 = sGet [(5, 0)] 79 := rfl
theorem i_Fi_wound_79 : opAt m_Fi_wound 79 = sIld 5 81 := rfl
theorem i_Fi_wound_81 : opAt m_Fi_wound 81 = sSta m_Fi_windings 0 3 84 := rfl
theorem i_Fi_wound_84 : opAt m_Fi_wound 84 = sIret .int := rfl
theorem i_Fi_windings_0 : opAt m_Fi_windings 0 = sPush (.int (Int32.ofInt 0)) 1 := rfl
theorem i_Fi_windings_1 : opAt m_Fi_windings 1 = sIst 4 3 := rfl
theorem i_Fi_windings_3 : opAt m_Fi_windings 3 = sPush (.int (Int32.ofInt 1)) 4 := rfl
theorem i_Fi_windings_4 : opAt m_Fi_windings 4 = sIst 5 6 := rfl
theorem i_Fi_windings_6 : opAt m_Fi_windings 6 = sIld 5 8 := rfl
theorem i_Fi_windings_8 : opAt m_Fi_windings 8 = sPush (.int (Int8.ofInt 19).toInt32) 10 := rfl
theorem i_Fi_windings_10 : opAt m_Fi_windings 10 = sCm .gt 71 13 := rfl
theorem i_Fi_windings_13 : opAt m_Fi_windings 13 = sPush (.int (Int32.ofInt 0)) 14 := rfl
theorem i_Fi_windings_14 : opAt m_Fi_windings 14 = sIst 6 16 := rfl
theorem i_Fi_windings_16 : opAt m_Fi_windings 16 = sIld 6 18 := rfl
theorem i_Fi_windings_18 : opAt m_Fi_windings 18 = sPush (.int (Int8.ofInt 9).toInt32) 20 := rfl
theorem i_Fi_windings_20 : opAt m_Fi_windings 20 = sCm .gt 65 23 := rfl
theorem i_Fi_windings_23 : opAt m_Fi_windings 23 = sLld 0 24 := rfl
theorem i_Fi_windings_24 : opAt m_Fi_windings 24 = sIld 2 25 := rfl
theorem i_Fi_windings_25 : opAt m_Fi_windings 25 = sIld 5 27 := rfl
theorem i_Fi_windings_27 : opAt m_Fi_windings 27 = sIld 6 29 := rfl
theorem i_Fi_windings_29 : opAt m_Fi_windings 29 = sSta m_Fi_spooled 0 3 32 := rfl
theorem i_Fi_windings_32 : opAt m_Fi_windings 32 = sPush (.int (Int32.ofInt 3)) 33 := rfl
theorem i_Fi_windings_33 : opAt m_Fi_windings 33 = sSta m_Fi_mayBe 0 3 36 := rfl
theorem i_Fi_windings_36 : opAt m_Fi_windings 36 = sIf .eq 59 39 := rfl
theorem i_Fi_windings_39 : opAt m_Fi_windings 39 = sIld 3 40 := rfl
theorem i_Fi_windings_40 : opAt m_Fi_windings 40 = sIf .eq 56 43 := rfl
theorem i_Fi_windings_43 : opAt m_Fi_windings 43 = sIld 3 44 := rfl
theorem i_Fi_windings_44 : opAt m_Fi_windings 44 = sPush (.int (Int32.ofInt 1)) 45 := rfl
theorem i_Fi_windings_45 : opAt m_Fi_windings 45 = sCm .ne 53 48 := rfl
theorem i_Fi_windings_48 : opAt m_Fi_windings 48 = sIld 5 50 := rfl
theorem i_Fi_windings_50 : opAt m_Fi_windings 50 = sGo 55 := rfl
theorem i_Fi_windings_53 : opAt m_Fi_windings 53 = sIld 6 55 := rfl
theorem i_Fi_windings_55 : opAt m_Fi_windings 55 = sIret .int := rfl
theorem i_Fi_windings_56 : opAt m_Fi_windings 56 = sInc 4 1 59 := rfl
theorem i_Fi_windings_59 : opAt m_Fi_windings 59 = sInc 6 1 62 := rfl
theorem i_Fi_windings_62 : opAt m_Fi_windings 62 = sGo 16 := rfl
theorem i_Fi_windings_65 : opAt m_Fi_windings 65 = sInc 5 1 68 := rfl
theorem i_Fi_windings_68 : opAt m_Fi_windings 68 = sGo 6 := rfl
theorem i_Fi_windings_71 : opAt m_Fi_windings 71 = sIld 3 72 := rfl
theorem i_Fi_windings_72 : opAt m_Fi_windings 72 = sIf .ne 80 75 := rfl
theorem i_Fi_windings_75 : opAt m_Fi_windings 75 = sIld 4 77 := rfl
theorem i_Fi_windings_77 : opAt m_Fi_windings 77 = sGo 81 := rfl
theorem i_Fi_windings_80 : opAt m_Fi_windings 80 = sPush (.int (Int32.ofInt (-1))) 81 := rfl
theorem i_Fi_windings_81 : opAt m_Fi_windings 81 = sIret .int := rfl
theorem i_Fi_trace_0 : opAt m_Fi_trace 0 = sIld 1 1 := rfl
theorem i_Fi_trace_1 : opAt m_Fi_trace 1 = sSta m_Fi_isSide 0 1 4 := rfl
theorem i_Fi_trace_4 : opAt m_Fi_trace 4 = sIf .eq 14 7 := rfl
theorem i_Fi_trace_7 : opAt m_Fi_trace 7 = sIld 2 8 := rfl
theorem i_Fi_trace_8 : opAt m_Fi_trace 8 = sSta m_Fi_isRound 0 1 11 := rfl
theorem i_Fi_trace_11 : opAt m_Fi_trace 11 = sIf .ne 17 14 := rfl
theorem i_Fi_trace_14 : opAt m_Fi_trace 14 = sPush (.int (Int8.ofInt (-102)).toInt32) 16 := rfl
theorem i_Fi_trace_16 : opAt m_Fi_trace 16 = sIret .int := rfl
theorem i_Fi_trace_17 : opAt m_Fi_trace 17 = sAld 0 18 := rfl
theorem i_Fi_trace_18 : opAt m_Fi_trace 18 = sGet [(10, 3)] 21 := rfl
theorem i_Fi_trace_21 : opAt m_Fi_trace 21 = sIld 1 22 := rfl
theorem i_Fi_trace_22 : opAt m_Fi_trace 22 = sIld 2 23 := rfl
theorem i_Fi_trace_23 : opAt m_Fi_trace 23 = sVir [(7, m_Sh_addTrace)] 0 2 26 := rfl
theorem i_Fi_trace_26 : opAt m_Fi_trace 26 = sIf .eq 39 29 := rfl
theorem i_Fi_trace_29 : opAt m_Fi_trace 29 = sAld 0 30 := rfl
theorem i_Fi_trace_30 : opAt m_Fi_trace 30 = sGet [(10, 3)] 33 := rfl
theorem i_Fi_trace_33 : opAt m_Fi_trace 33 = sGet [(7, 4)] 36 := rfl
theorem i_Fi_trace_36 : opAt m_Fi_trace 36 = sGo 41 := rfl
theorem i_Fi_trace_39 : opAt m_Fi_trace 39 = sPush (.int (Int8.ofInt (-104)).toInt32) 41 := rfl
theorem i_Fi_trace_41 : opAt m_Fi_trace 41 = sIret .int := rfl
theorem i_Fi_gone_0 : opAt m_Fi_gone 0 = sAld 0 1 := rfl
theorem i_Fi_gone_1 : opAt m_Fi_gone 1 = sGet [(10, 3)] 4 := rfl
theorem i_Fi_gone_4 : opAt m_Fi_gone 4 = sIld 1 5 := rfl
theorem i_Fi_gone_5 : opAt m_Fi_gone 5 = sVir [(7, m_Sh_printAt)] 0 1 8 := rfl
theorem i_Fi_gone_8 : opAt m_Fi_gone 8 = sAst 3 9 := rfl
theorem i_Fi_gone_9 : opAt m_Fi_gone 9 = sAld 3 10 := rfl
theorem i_Fi_gone_10 : opAt m_Fi_gone 10 = sNul 13 16 := rfl
theorem i_Fi_gone_13 : opAt m_Fi_gone 13 = sPush (.int (Int8.ofInt (-101)).toInt32) 15 := rfl
theorem i_Fi_gone_15 : opAt m_Fi_gone 15 = sIret .int := rfl
theorem i_Fi_gone_16 : opAt m_Fi_gone 16 = sIld 2 17 := rfl
theorem i_Fi_gone_17 : opAt m_Fi_gone 17 = sPush (.int (Int32.ofInt 1)) 18 := rfl
theorem i_Fi_gone_18 : opAt m_Fi_gone 18 = sAld 3 19 := rfl
theorem i_Fi_gone_19 : opAt m_Fi_gone 19 = sGet [(5, 0)] 22 := rfl
theorem i_Fi_gone_22 : opAt m_Fi_gone 22 = sPush (.int (Int32.ofInt 1)) 23 := rfl
theorem i_Fi_gone_23 : opAt m_Fi_gone 23 = sBI (fun x y => x - y) 24 := rfl
theorem i_Fi_gone_24 : opAt m_Fi_gone 24 = sSta m_Fi_isWithin 0 3 27 := rfl
theorem i_Fi_gone_27 : opAt m_Fi_gone 27 = sIf .ne 33 30 := rfl
theorem i_Fi_gone_30 : opAt m_Fi_gone 30 = sPush (.int (Int8.ofInt (-102)).toInt32) 32 := rfl
theorem i_Fi_gone_32 : opAt m_Fi_gone 32 = sIret .int := rfl
theorem i_Fi_gone_33 : opAt m_Fi_gone 33 = sPush (.int (Int32.ofInt 0)) 34 := rfl
theorem i_Fi_gone_34 : opAt m_Fi_gone 34 = sIst 4 36 := rfl
theorem i_Fi_gone_36 : opAt m_Fi_gone 36 = sIld 4 38 := rfl
theorem i_Fi_gone_38 : opAt m_Fi_gone 38 = sPush (.int (Int8.ofInt 99).toInt32) 40 := rfl
theorem i_Fi_gone_40 : opAt m_Fi_gone 40 = sCm .gt 66 43 := rfl
theorem i_Fi_gone_43 : opAt m_Fi_gone 43 = sAld 0 44 := rfl
theorem i_Fi_gone_44 : opAt m_Fi_gone 44 = sGet [(10, 3)] 47 := rfl
theorem i_Fi_gone_47 : opAt m_Fi_gone 47 = sAld 3 48 := rfl
theorem i_Fi_gone_48 : opAt m_Fi_gone 48 = sIld 2 49 := rfl
theorem i_Fi_gone_49 : opAt m_Fi_gone 49 = sIld 4 51 := rfl
theorem i_Fi_gone_51 : opAt m_Fi_gone 51 = sVir [(7, m_Sh_tracesAllow)] 0 3 54 := rfl
theorem i_Fi_gone_54 : opAt m_Fi_gone 54 = sIf .eq 60 57 := rfl
theorem i_Fi_gone_57 : opAt m_Fi_gone 57 = sIld 4 59 := rfl
theorem i_Fi_gone_59 : opAt m_Fi_gone 59 = sIret .int := rfl
theorem i_Fi_gone_60 : opAt m_Fi_gone 60 = sInc 4 1 63 := rfl
theorem i_Fi_gone_63 : opAt m_Fi_gone 63 = sGo 36 := rfl
theorem i_Fi_gone_66 : opAt m_Fi_gone 66 = sPush (.int (Int32.ofInt (-1))) 67 := rfl
theorem i_Fi_gone_67 : opAt m_Fi_gone 67 = sIret .int := rfl
theorem i_Fi_earlier_0 : opAt m_Fi_earlier 0 = sAld 0 1 := rfl
theorem i_Fi_earlier_1 : opAt m_Fi_earlier 1 = sGet [(10, 3)] 4 := rfl
theorem i_Fi_earlier_4 : opAt m_Fi_earlier 4 = sIld 1 5 := rfl
theorem i_Fi_earlier_5 : opAt m_Fi_earlier 5 = sVir [(7, m_Sh_printAt)] 0 1 8 := rfl
theorem i_Fi_earlier_8 : opAt m_Fi_earlier 8 = sAst 5 10 := rfl
theorem i_Fi_earlier_10 : opAt m_Fi_earlier 10 = sAld 5 12 := rfl
theorem i_Fi_earlier_12 : opAt m_Fi_earlier 12 = sNul 15 18 := rfl
theorem i_Fi_earlier_15 : opAt m_Fi_earlier 15 = sPush (.int (Int8.ofInt (-101)).toInt32) 17 := rfl
theorem i_Fi_earlier_17 : opAt m_Fi_earlier 17 = sIret .int := rfl
theorem i_Fi_earlier_18 : opAt m_Fi_earlier 18 = sIld 2 19 := rfl
theorem i_Fi_earlier_19 : opAt m_Fi_earlier 19 = sSta m_Fi_isSide 0 1 22 := rfl
theorem i_Fi_earlier_22 : opAt m_Fi_earlier 22 = sIf .eq 48 25 := rfl
theorem i_Fi_earlier_25 : opAt m_Fi_earlier 25 = sIld 3 26 := rfl
theorem i_Fi_earlier_26 : opAt m_Fi_earlier 26 = sSta m_Fi_isRound 0 1 29 := rfl
theorem i_Fi_earlier_29 : opAt m_Fi_earlier 29 = sIf .eq 48 32 := rfl
theorem i_Fi_earlier_32 : opAt m_Fi_earlier 32 = sIld 4 34 := rfl
theorem i_Fi_earlier_34 : opAt m_Fi_earlier 34 = sPush (.int (Int32.ofInt 1)) 35 := rfl
theorem i_Fi_earlier_35 : opAt m_Fi_earlier 35 = sAld 5 37 := rfl
theorem i_Fi_earlier_37 : opAt m_Fi_earlier 37 = sGet [(5, 0)] 40 := rfl
theorem i_Fi_earlier_40 : opAt m_Fi_earlier 40 = sPush (.int (Int32.ofInt 1)) 41 := rfl
theorem i_Fi_earlier_41 : opAt m_Fi_earlier 41 = sBI (fun x y => x - y) 42 := rfl
theorem i_Fi_earlier_42 : opAt m_Fi_earlier 42 = sSta m_Fi_isWithin 0 3 45 := rfl
theorem i_Fi_earlier_45 : opAt m_Fi_earlier 45 = sIf .ne 51 48 := rfl
theorem i_Fi_earlier_48 : opAt m_Fi_earlier 48 = sPush (.int (Int8.ofInt (-102)).toInt32) 50 := rfl
theorem i_Fi_earlier_50 : opAt m_Fi_earlier 50 = sIret .int := rfl
theorem i_Fi_earlier_51 : opAt m_Fi_earlier 51 = sAld 5 53 := rfl
theorem i_Fi_earlier_53 : opAt m_Fi_earlier 53 = sIld 4 55 := rfl
theorem i_Fi_earlier_55 : opAt m_Fi_earlier 55 = sIld 2 56 := rfl
theorem i_Fi_earlier_56 : opAt m_Fi_earlier 56 = sVir [(5, m_Pr_lastAhead)] 0 2 59 := rfl
theorem i_Fi_earlier_59 : opAt m_Fi_earlier 59 = sIst 6 61 := rfl
theorem i_Fi_earlier_61 : opAt m_Fi_earlier 61 = sAld 5 63 := rfl
theorem i_Fi_earlier_63 : opAt m_Fi_earlier 63 = sIld 4 65 := rfl
theorem i_Fi_earlier_65 : opAt m_Fi_earlier 65 = sIld 2 66 := rfl
theorem i_Fi_earlier_66 : opAt m_Fi_earlier 66 = sVir [(5, m_Pr_firstFrom)] 0 2 69 := rfl
theorem i_Fi_earlier_69 : opAt m_Fi_earlier 69 = sIst 7 71 := rfl
theorem i_Fi_earlier_71 : opAt m_Fi_earlier 71 = sIld 6 73 := rfl
theorem i_Fi_earlier_73 : opAt m_Fi_earlier 73 = sPush (.int (Int32.ofInt (-1))) 74 := rfl
theorem i_Fi_earlier_74 : opAt m_Fi_earlier 74 = sCm .eq 83 77 := rfl
theorem i_Fi_earlier_77 : opAt m_Fi_earlier 77 = sIld 7 79 := rfl
theorem i_Fi_earlier_79 : opAt m_Fi_earlier 79 = sPush (.int (Int32.ofInt (-1))) 80 := rfl
theorem i_Fi_earlier_80 : opAt m_Fi_earlier 80 = sCm .ne 85 83 := rfl
theorem i_Fi_earlier_83 : opAt m_Fi_earlier 83 = sPush (.int (Int32.ofInt (-1))) 84 := rfl
theorem i_Fi_earlier_84 : opAt m_Fi_earlier 84 = sIret .int := rfl
theorem i_Fi_earlier_85 : opAt m_Fi_earlier 85 = sIld 6 87 := rfl
theorem i_Fi_earlier_87 : opAt m_Fi_earlier 87 = sIld 3 88 := rfl
theorem i_Fi_earlier_88 : opAt m_Fi_earlier 88 = sDI (fun x y => x - x / y * y) 89 := rfl
theorem i_Fi_earlier_89 : opAt m_Fi_earlier 89 = sIld 7 91 := rfl
theorem i_Fi_earlier_91 : opAt m_Fi_earlier 91 = sIld 3 92 := rfl
theorem i_Fi_earlier_92 : opAt m_Fi_earlier 92 = sDI (fun x y => x - x / y * y) 93 := rfl
theorem i_Fi_earlier_93 : opAt m_Fi_earlier 93 = sCm .ne 100 96 := rfl
theorem i_Fi_earlier_96 : opAt m_Fi_earlier 96 = sPush (.int (Int32.ofInt 0)) 97 := rfl
theorem i_Fi_earlier_97 : opAt m_Fi_earlier 97 = sGo 101 := rfl
theorem i_Fi_earlier_100 : opAt m_Fi_earlier 100 = sPush (.int (Int32.ofInt 1)) 101 := rfl
theorem i_Fi_earlier_101 : opAt m_Fi_earlier 101 = sIret .int := rfl
theorem i_Fi_clear_0 : opAt m_Fi_clear 0 = sAld 0 1 := rfl
theorem i_Fi_clear_1 : opAt m_Fi_clear 1 = sGet [(10, 3)] 4 := rfl
theorem i_Fi_clear_4 : opAt m_Fi_clear 4 = sGet [(7, 4)] 7 := rfl
theorem i_Fi_clear_7 : opAt m_Fi_clear 7 = sIst 1 8 := rfl
theorem i_Fi_clear_8 : opAt m_Fi_clear 8 = sAld 0 9 := rfl
theorem i_Fi_clear_9 : opAt m_Fi_clear 9 = sGet [(10, 3)] 12 := rfl
theorem i_Fi_clear_12 : opAt m_Fi_clear 12 = sPush (.int (Int32.ofInt 0)) 13 := rfl
theorem i_Fi_clear_13 : opAt m_Fi_clear 13 = sPut [(7, 4)] (.int) 16 := rfl
theorem i_Fi_clear_16 : opAt m_Fi_clear 16 = sIld 1 17 := rfl
theorem i_Fi_clear_17 : opAt m_Fi_clear 17 = sIret .int := rfl
theorem i_Fi_count_0 : opAt m_Fi_count 0 = sIld 1 1 := rfl
theorem i_Fi_count_1 : opAt m_Fi_count 1 = sSw [(0, 44), (1, 52), (2, 57), (3, 65), (4, 73), (5, 81), (6, 89)] 94 := rfl
theorem i_Fi_count_44 : opAt m_Fi_count 44 = sAld 0 45 := rfl
theorem i_Fi_count_45 : opAt m_Fi_count 45 = sGet [(10, 3)] 48 := rfl
theorem i_Fi_count_48 : opAt m_Fi_count 48 = sGet [(7, 1)] 51 := rfl
theorem i_Fi_count_51 : opAt m_Fi_count 51 = sIret .int := rfl
theorem i_Fi_count_52 : opAt m_Fi_count 52 = sAld 0 53 := rfl
theorem i_Fi_count_53 : opAt m_Fi_count 53 = sGet [(10, 2)] 56 := rfl
theorem i_Fi_count_56 : opAt m_Fi_count 56 = sIret .int := rfl
theorem i_Fi_count_57 : opAt m_Fi_count 57 = sAld 0 58 := rfl
theorem i_Fi_count_58 : opAt m_Fi_count 58 = sGet [(10, 3)] 61 := rfl
theorem i_Fi_count_61 : opAt m_Fi_count 61 = sVir [(7, m_Sh_pictures)] 0 0 64 := rfl
theorem i_Fi_count_64 : opAt m_Fi_count 64 = sIret .int := rfl
theorem i_Fi_count_65 : opAt m_Fi_count 65 = sAld 0 66 := rfl
theorem i_Fi_count_66 : opAt m_Fi_count 66 = sGet [(10, 3)] 69 := rfl
theorem i_Fi_count_69 : opAt m_Fi_count 69 = sVir [(7, m_Sh_marks)] 0 0 72 := rfl
theorem i_Fi_count_72 : opAt m_Fi_count 72 = sIret .int := rfl
theorem i_Fi_count_73 : opAt m_Fi_count 73 = sAld 0 74 := rfl
theorem i_Fi_count_74 : opAt m_Fi_count 74 = sGet [(10, 3)] 77 := rfl
theorem i_Fi_count_77 : opAt m_Fi_count 77 = sGet [(7, 4)] 80 := rfl
theorem i_Fi_count_80 : opAt m_Fi_count 80 = sIret .int := rfl
theorem i_Fi_count_81 : opAt m_Fi_count 81 = sAld 0 82 := rfl
theorem i_Fi_count_82 : opAt m_Fi_count 82 = sGet [(10, 0)] 85 := rfl
theorem i_Fi_count_85 : opAt m_Fi_count 85 = sGet [(4, 1)] 88 := rfl
theorem i_Fi_count_88 : opAt m_Fi_count 88 = sIret .int := rfl
theorem i_Fi_count_89 : opAt m_Fi_count 89 = sAld 0 90 := rfl
theorem i_Fi_count_90 : opAt m_Fi_count 90 = sGet [(10, 8)] 93 := rfl
theorem i_Fi_count_93 : opAt m_Fi_count 93 = sIret .int := rfl
theorem i_Fi_count_94 : opAt m_Fi_count 94 = sPush (.int (Int8.ofInt (-102)).toInt32) 96 := rfl
theorem i_Fi_count_96 : opAt m_Fi_count 96 = sIret .int := rfl
