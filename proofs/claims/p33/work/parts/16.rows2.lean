/-! EACH INSTRUCTION AS A STEP -/
theorem i_Law_cell_0 : opAt m_Law_cell 0 = sIld 1 1 := rfl
theorem i_Law_cell_1 : opAt m_Law_cell 1 = sAld 0 2 := rfl
theorem i_Law_cell_2 : opAt m_Law_cell 2 = sLen 3 := rfl
theorem i_Law_cell_3 : opAt m_Law_cell 3 = sCm .ge 12 6 := rfl
theorem i_Law_cell_6 : opAt m_Law_cell 6 = sAld 0 7 := rfl
theorem i_Law_cell_7 : opAt m_Law_cell 7 = sIld 1 8 := rfl
theorem i_Law_cell_8 : opAt m_Law_cell 8 = sIal 9 := rfl
theorem i_Law_cell_9 : opAt m_Law_cell 9 = sGo 18 := rfl
theorem i_Law_cell_12 : opAt m_Law_cell 12 = sPush (.int (747796405)) 14 := rfl
theorem i_Law_cell_14 : opAt m_Law_cell 14 = sIld 1 15 := rfl
theorem i_Law_cell_15 : opAt m_Law_cell 15 = sPush (.int (Int32.ofInt 1)) 16 := rfl
theorem i_Law_cell_16 : opAt m_Law_cell 16 = sBI (fun x y => x + y) 17 := rfl
theorem i_Law_cell_17 : opAt m_Law_cell 17 = sBI (fun x y => x * y) 18 := rfl
theorem i_Law_cell_18 : opAt m_Law_cell 18 = sIret .int := rfl
theorem i_Law_at_0 : opAt m_Law_at 0 = sIld 0 1 := rfl
theorem i_Law_at_1 : opAt m_Law_at 1 = sPush (.int (Int32.ofInt 1)) 2 := rfl
theorem i_Law_at_2 : opAt m_Law_at 2 = sBI (fun x y => (x.toUInt32 >>> (y.toUInt32 &&& Int32.toUInt32 31)).toInt32) 3 := rfl
theorem i_Law_at_3 : opAt m_Law_at 3 = sIld 1 4 := rfl
theorem i_Law_at_4 : opAt m_Law_at 4 = sDI (fun x y => x - x / y * y) 5 := rfl
theorem i_Law_at_5 : opAt m_Law_at 5 = sIret .int := rfl
theorem i_Law_number_0 : opAt m_Law_number 0 = sIld 2 1 := rfl
theorem i_Law_number_1 : opAt m_Law_number 1 = sIst 3 2 := rfl
theorem i_Law_number_2 : opAt m_Law_number 2 = sIld 0 3 := rfl
theorem i_Law_number_3 : opAt m_Law_number 3 = sPush (.int (Int8.ofInt 9).toInt32) 5 := rfl
theorem i_Law_number_5 : opAt m_Law_number 5 = sCm .le 21 8 := rfl
theorem i_Law_number_8 : opAt m_Law_number 8 = sAld 1 9 := rfl
theorem i_Law_number_9 : opAt m_Law_number 9 = sIld 3 10 := rfl
theorem i_Law_number_10 : opAt m_Law_number 10 = sInc 3 1 13 := rfl
theorem i_Law_number_13 : opAt m_Law_number 13 = sPush (.int (Int8.ofInt 48).toInt32) 15 := rfl
theorem i_Law_number_15 : opAt m_Law_number 15 = sIld 0 16 := rfl
theorem i_Law_number_16 : opAt m_Law_number 16 = sPush (.int (Int8.ofInt 10).toInt32) 18 := rfl
theorem i_Law_number_18 : opAt m_Law_number 18 = sDI (fun x y => x / y) 19 := rfl
theorem i_Law_number_19 : opAt m_Law_number 19 = sBI (fun x y => x + y) 20 := rfl
theorem i_Law_number_20 : opAt m_Law_number 20 = sIas 21 := rfl
theorem i_Law_number_21 : opAt m_Law_number 21 = sAld 1 22 := rfl
theorem i_Law_number_22 : opAt m_Law_number 22 = sIld 3 23 := rfl
theorem i_Law_number_23 : opAt m_Law_number 23 = sInc 3 1 26 := rfl
theorem i_Law_number_26 : opAt m_Law_number 26 = sPush (.int (Int8.ofInt 48).toInt32) 28 := rfl
theorem i_Law_number_28 : opAt m_Law_number 28 = sIld 0 29 := rfl
theorem i_Law_number_29 : opAt m_Law_number 29 = sPush (.int (Int8.ofInt 10).toInt32) 31 := rfl
theorem i_Law_number_31 : opAt m_Law_number 31 = sDI (fun x y => x - x / y * y) 32 := rfl
theorem i_Law_number_32 : opAt m_Law_number 32 = sBI (fun x y => x + y) 33 := rfl
theorem i_Law_number_33 : opAt m_Law_number 33 = sIas 34 := rfl
theorem i_Law_number_34 : opAt m_Law_number 34 = sIld 3 35 := rfl
theorem i_Law_number_35 : opAt m_Law_number 35 = sIret .int := rfl
theorem i_Law_write_0 : opAt m_Law_write 0 = sPush (.int (Int32.ofInt 0)) 1 := rfl
theorem i_Law_write_1 : opAt m_Law_write 1 = sIst 3 2 := rfl
theorem i_Law_write_2 : opAt m_Law_write 2 = sIld 3 3 := rfl
theorem i_Law_write_3 : opAt m_Law_write 3 = sIld 2 4 := rfl
theorem i_Law_write_4 : opAt m_Law_write 4 = sCm .ge 29 7 := rfl
theorem i_Law_write_7 : opAt m_Law_write 7 = sAld 0 8 := rfl
theorem i_Law_write_8 : opAt m_Law_write 8 = sAld 1 9 := rfl
theorem i_Law_write_9 : opAt m_Law_write 9 = sIld 3 10 := rfl
theorem i_Law_write_10 : opAt m_Law_write 10 = sIal 11 := rfl
theorem i_Law_write_11 : opAt m_Law_write 11 = sIL 12 := rfl
theorem i_Law_write_12 : opAt m_Law_write 12 = sVir [(10, m_Fi_letters)] 0 1 15 := rfl
theorem i_Law_write_15 : opAt m_Law_write 15 = sIld 3 16 := rfl
theorem i_Law_write_16 : opAt m_Law_write 16 = sPush (.int (Int32.ofInt 1)) 17 := rfl
theorem i_Law_write_17 : opAt m_Law_write 17 = sBI (fun x y => x + y) 18 := rfl
theorem i_Law_write_18 : opAt m_Law_write 18 = sCm .eq 23 21 := rfl
theorem i_Law_write_21 : opAt m_Law_write 21 = sPush (.int (Int32.ofInt 0)) 22 := rfl
theorem i_Law_write_22 : opAt m_Law_write 22 = sIret .boolean := rfl
theorem i_Law_write_23 : opAt m_Law_write 23 = sInc 3 1 26 := rfl
theorem i_Law_write_26 : opAt m_Law_write 26 = sGo 2 := rfl
theorem i_Law_write_29 : opAt m_Law_write 29 = sPush (.int (Int32.ofInt 1)) 30 := rfl
theorem i_Law_write_30 : opAt m_Law_write 30 = sIret .boolean := rfl
theorem i_Law_leaves_0 : opAt m_Law_leaves 0 = sAld 0 1 := rfl
theorem i_Law_leaves_1 : opAt m_Law_leaves 1 = sIld 1 2 := rfl
theorem i_Law_leaves_2 : opAt m_Law_leaves 2 = sIal 3 := rfl
theorem i_Law_leaves_3 : opAt m_Law_leaves 3 = sPush (.int (Int32.ofInt 1)) 4 := rfl
theorem i_Law_leaves_4 : opAt m_Law_leaves 4 = sCm .ne 9 7 := rfl
theorem i_Law_leaves_7 : opAt m_Law_leaves 7 = sPush (.int (Int32.ofInt 1)) 8 := rfl
theorem i_Law_leaves_8 : opAt m_Law_leaves 8 = sIret .boolean := rfl
theorem i_Law_leaves_9 : opAt m_Law_leaves 9 = sAld 0 10 := rfl
theorem i_Law_leaves_10 : opAt m_Law_leaves 10 = sIld 1 11 := rfl
theorem i_Law_leaves_11 : opAt m_Law_leaves 11 = sIal 12 := rfl
theorem i_Law_leaves_12 : opAt m_Law_leaves 12 = sPush (.int (Int32.ofInt 4)) 13 := rfl
theorem i_Law_leaves_13 : opAt m_Law_leaves 13 = sCm .ne 63 16 := rfl
theorem i_Law_leaves_16 : opAt m_Law_leaves 16 = sAld 0 17 := rfl
theorem i_Law_leaves_17 : opAt m_Law_leaves 17 = sIld 1 18 := rfl
theorem i_Law_leaves_18 : opAt m_Law_leaves 18 = sPush (.int (Int32.ofInt 2)) 19 := rfl
theorem i_Law_leaves_19 : opAt m_Law_leaves 19 = sBI (fun x y => x + y) 20 := rfl
theorem i_Law_leaves_20 : opAt m_Law_leaves 20 = sIal 21 := rfl
theorem i_Law_leaves_21 : opAt m_Law_leaves 21 = sIst 3 22 := rfl
theorem i_Law_leaves_22 : opAt m_Law_leaves 22 = sAld 0 23 := rfl
theorem i_Law_leaves_23 : opAt m_Law_leaves 23 = sIld 1 24 := rfl
theorem i_Law_leaves_24 : opAt m_Law_leaves 24 = sPush (.int (Int32.ofInt 2)) 25 := rfl
theorem i_Law_leaves_25 : opAt m_Law_leaves 25 = sBI (fun x y => x + y) 26 := rfl
theorem i_Law_leaves_26 : opAt m_Law_leaves 26 = sIal 27 := rfl
theorem i_Law_leaves_27 : opAt m_Law_leaves 27 = sIst 4 29 := rfl
theorem i_Law_leaves_29 : opAt m_Law_leaves 29 = sIld 3 30 := rfl
theorem i_Law_leaves_30 : opAt m_Law_leaves 30 = sIld 2 31 := rfl
theorem i_Law_leaves_31 : opAt m_Law_leaves 31 = sCm .ge 52 34 := rfl
theorem i_Law_leaves_34 : opAt m_Law_leaves 34 = sIld 4 36 := rfl
theorem i_Law_leaves_36 : opAt m_Law_leaves 36 = sAld 0 37 := rfl
theorem i_Law_leaves_37 : opAt m_Law_leaves 37 = sIld 1 38 := rfl
theorem i_Law_leaves_38 : opAt m_Law_leaves 38 = sPush (.int (Int32.ofInt 3)) 39 := rfl
theorem i_Law_leaves_39 : opAt m_Law_leaves 39 = sBI (fun x y => x + y) 40 := rfl
theorem i_Law_leaves_40 : opAt m_Law_leaves 40 = sIal 41 := rfl
theorem i_Law_leaves_41 : opAt m_Law_leaves 41 = sBI (fun x y => x + y) 42 := rfl
theorem i_Law_leaves_42 : opAt m_Law_leaves 42 = sIst 4 44 := rfl
theorem i_Law_leaves_44 : opAt m_Law_leaves 44 = sIld 3 45 := rfl
theorem i_Law_leaves_45 : opAt m_Law_leaves 45 = sIld 4 47 := rfl
theorem i_Law_leaves_47 : opAt m_Law_leaves 47 = sBI (fun x y => x + y) 48 := rfl
theorem i_Law_leaves_48 : opAt m_Law_leaves 48 = sIst 3 49 := rfl
theorem i_Law_leaves_49 : opAt m_Law_leaves 49 = sGo 29 := rfl
theorem i_Law_leaves_52 : opAt m_Law_leaves 52 = sIld 3 53 := rfl
theorem i_Law_leaves_53 : opAt m_Law_leaves 53 = sIld 2 54 := rfl
theorem i_Law_leaves_54 : opAt m_Law_leaves 54 = sCm .ne 61 57 := rfl
theorem i_Law_leaves_57 : opAt m_Law_leaves 57 = sPush (.int (Int32.ofInt 1)) 58 := rfl
theorem i_Law_leaves_58 : opAt m_Law_leaves 58 = sGo 62 := rfl
theorem i_Law_leaves_61 : opAt m_Law_leaves 61 = sPush (.int (Int32.ofInt 0)) 62 := rfl
theorem i_Law_leaves_62 : opAt m_Law_leaves 62 = sIret .boolean := rfl
theorem i_Law_leaves_63 : opAt m_Law_leaves 63 = sIld 2 64 := rfl
theorem i_Law_leaves_64 : opAt m_Law_leaves 64 = sAld 0 65 := rfl
theorem i_Law_leaves_65 : opAt m_Law_leaves 65 = sIld 1 66 := rfl
theorem i_Law_leaves_66 : opAt m_Law_leaves 66 = sPush (.int (Int32.ofInt 3)) 67 := rfl
theorem i_Law_leaves_67 : opAt m_Law_leaves 67 = sBI (fun x y => x + y) 68 := rfl
theorem i_Law_leaves_68 : opAt m_Law_leaves 68 = sIal 69 := rfl
theorem i_Law_leaves_69 : opAt m_Law_leaves 69 = sCm .lt 88 72 := rfl
theorem i_Law_leaves_72 : opAt m_Law_leaves 72 = sIld 2 73 := rfl
theorem i_Law_leaves_73 : opAt m_Law_leaves 73 = sAld 0 74 := rfl
theorem i_Law_leaves_74 : opAt m_Law_leaves 74 = sIld 1 75 := rfl
theorem i_Law_leaves_75 : opAt m_Law_leaves 75 = sPush (.int (Int32.ofInt 3)) 76 := rfl
theorem i_Law_leaves_76 : opAt m_Law_leaves 76 = sBI (fun x y => x + y) 77 := rfl
theorem i_Law_leaves_77 : opAt m_Law_leaves 77 = sIal 78 := rfl
theorem i_Law_leaves_78 : opAt m_Law_leaves 78 = sBI (fun x y => x - y) 79 := rfl
theorem i_Law_leaves_79 : opAt m_Law_leaves 79 = sAld 0 80 := rfl
theorem i_Law_leaves_80 : opAt m_Law_leaves 80 = sIld 1 81 := rfl
theorem i_Law_leaves_81 : opAt m_Law_leaves 81 = sPush (.int (Int32.ofInt 2)) 82 := rfl
theorem i_Law_leaves_82 : opAt m_Law_leaves 82 = sBI (fun x y => x + y) 83 := rfl
theorem i_Law_leaves_83 : opAt m_Law_leaves 83 = sIal 84 := rfl
theorem i_Law_leaves_84 : opAt m_Law_leaves 84 = sDI (fun x y => x - x / y * y) 85 := rfl
theorem i_Law_leaves_85 : opAt m_Law_leaves 85 = sIf .le 90 88 := rfl
theorem i_Law_leaves_88 : opAt m_Law_leaves 88 = sPush (.int (Int32.ofInt 0)) 89 := rfl
theorem i_Law_leaves_89 : opAt m_Law_leaves 89 = sIret .boolean := rfl
theorem i_Law_leaves_90 : opAt m_Law_leaves 90 = sAld 0 91 := rfl
theorem i_Law_leaves_91 : opAt m_Law_leaves 91 = sIld 1 92 := rfl
theorem i_Law_leaves_92 : opAt m_Law_leaves 92 = sIal 93 := rfl
theorem i_Law_leaves_93 : opAt m_Law_leaves 93 = sPush (.int (Int32.ofInt 2)) 94 := rfl
theorem i_Law_leaves_94 : opAt m_Law_leaves 94 = sCm .eq 115 97 := rfl
theorem i_Law_leaves_97 : opAt m_Law_leaves 97 = sIld 2 98 := rfl
theorem i_Law_leaves_98 : opAt m_Law_leaves 98 = sAld 0 99 := rfl
theorem i_Law_leaves_99 : opAt m_Law_leaves 99 = sIld 1 100 := rfl
theorem i_Law_leaves_100 : opAt m_Law_leaves 100 = sPush (.int (Int32.ofInt 3)) 101 := rfl
theorem i_Law_leaves_101 : opAt m_Law_leaves 101 = sBI (fun x y => x + y) 102 := rfl
theorem i_Law_leaves_102 : opAt m_Law_leaves 102 = sIal 103 := rfl
theorem i_Law_leaves_103 : opAt m_Law_leaves 103 = sBI (fun x y => x - y) 104 := rfl
theorem i_Law_leaves_104 : opAt m_Law_leaves 104 = sAld 0 105 := rfl
theorem i_Law_leaves_105 : opAt m_Law_leaves 105 = sIld 1 106 := rfl
theorem i_Law_leaves_106 : opAt m_Law_leaves 106 = sPush (.int (Int32.ofInt 2)) 107 := rfl
theorem i_Law_leaves_107 : opAt m_Law_leaves 107 = sBI (fun x y => x + y) 108 := rfl
theorem i_Law_leaves_108 : opAt m_Law_leaves 108 = sIal 109 := rfl
theorem i_Law_leaves_109 : opAt m_Law_leaves 109 = sDI (fun x y => x / y) 110 := rfl
theorem i_Law_leaves_110 : opAt m_Law_leaves 110 = sPush (.int (Int32.ofInt 2)) 111 := rfl
theorem i_Law_leaves_111 : opAt m_Law_leaves 111 = sDI (fun x y => x - x / y * y) 112 := rfl
theorem i_Law_leaves_112 : opAt m_Law_leaves 112 = sIf .ne 119 115 := rfl
theorem i_Law_leaves_115 : opAt m_Law_leaves 115 = sPush (.int (Int32.ofInt 1)) 116 := rfl
theorem i_Law_leaves_116 : opAt m_Law_leaves 116 = sGo 120 := rfl
theorem i_Law_leaves_119 : opAt m_Law_leaves 119 = sPush (.int (Int32.ofInt 0)) 120 := rfl
theorem i_Law_leaves_120 : opAt m_Law_leaves 120 = sIret .boolean := rfl
theorem i_Law_black_0 : opAt m_Law_black 0 = sIld 0 1 := rfl
theorem i_Law_black_1 : opAt m_Law_black 1 = sPush (.int (Int8.ofInt 6).toInt32) 3 := rfl
theorem i_Law_black_3 : opAt m_Law_black 3 = sBI (fun x y => x >>> (y &&& 31)) 4 := rfl
theorem i_Law_black_4 : opAt m_Law_black 4 = sPush (.int (Int16.ofInt 255).toInt32) 7 := rfl
theorem i_Law_black_7 : opAt m_Law_black 7 = sBI (fun x y => x &&& y) 8 := rfl
theorem i_Law_black_8 : opAt m_Law_black 8 = sIret .int := rfl
theorem i_Law_start_0 : opAt m_Law_start 0 = sPush (.int (Int32.ofInt 0)) 1 := rfl
theorem i_Law_start_1 : opAt m_Law_start 1 = sIst 2 2 := rfl
theorem i_Law_start_2 : opAt m_Law_start 2 = sIld 2 3 := rfl
theorem i_Law_start_3 : opAt m_Law_start 3 = sPush (.int (Int8.ofInt 48).toInt32) 5 := rfl
theorem i_Law_start_5 : opAt m_Law_start 5 = sCm .ge 18 8 := rfl
theorem i_Law_start_8 : opAt m_Law_start 8 = sAld 0 9 := rfl
theorem i_Law_start_9 : opAt m_Law_start 9 = sIld 2 10 := rfl
theorem i_Law_start_10 : opAt m_Law_start 10 = sIld 2 11 := rfl
theorem i_Law_start_11 : opAt m_Law_start 11 = sIas 12 := rfl
theorem i_Law_start_12 : opAt m_Law_start 12 = sInc 2 1 15 := rfl
theorem i_Law_start_15 : opAt m_Law_start 15 = sGo 2 := rfl
theorem i_Law_start_18 : opAt m_Law_start 18 = sAld 0 19 := rfl
theorem i_Law_start_19 : opAt m_Law_start 19 = sPush (.int (Int8.ofInt 48).toInt32) 21 := rfl
theorem i_Law_start_21 : opAt m_Law_start 21 = sIld 1 22 := rfl
theorem i_Law_start_22 : opAt m_Law_start 22 = sIas 23 := rfl
theorem i_Law_start_23 : opAt m_Law_start 23 = sIld 1 24 := rfl
theorem i_Law_start_24 : opAt m_Law_start 24 = sIret .int := rfl
theorem i_Law_run_0 : opAt m_Law_run 0 = sPush (.int (Int32.ofInt 0)) 1 := rfl
theorem i_Law_run_1 : opAt m_Law_run 1 = sIst 3 2 := rfl
theorem i_Law_run_2 : opAt m_Law_run 2 = sPush (.int (Int32.ofInt 0)) 3 := rfl
theorem i_Law_run_3 : opAt m_Law_run 3 = sIst 4 5 := rfl
theorem i_Law_run_5 : opAt m_Law_run 5 = sIld 4 7 := rfl
theorem i_Law_run_7 : opAt m_Law_run 7 = sAld 0 8 := rfl
theorem i_Law_run_8 : opAt m_Law_run 8 = sPush (.int (Int8.ofInt 48).toInt32) 10 := rfl
theorem i_Law_run_10 : opAt m_Law_run 10 = sIal 11 := rfl
theorem i_Law_run_11 : opAt m_Law_run 11 = sCm .ge 107 14 := rfl
theorem i_Law_run_14 : opAt m_Law_run 14 = sPush (.int (Int32.ofInt 0)) 15 := rfl
theorem i_Law_run_15 : opAt m_Law_run 15 = sIst 5 17 := rfl
theorem i_Law_run_17 : opAt m_Law_run 17 = sIld 5 19 := rfl
theorem i_Law_run_19 : opAt m_Law_run 19 = sAld 1 20 := rfl
theorem i_Law_run_20 : opAt m_Law_run 20 = sPush (.int (Int8.ofInt 16).toInt32) 22 := rfl
theorem i_Law_run_22 : opAt m_Law_run 22 = sIal 23 := rfl
theorem i_Law_run_23 : opAt m_Law_run 23 = sCm .ge 101 26 := rfl
theorem i_Law_run_26 : opAt m_Law_run 26 = sPush (.int (Int32.ofInt 1)) 27 := rfl
theorem i_Law_run_27 : opAt m_Law_run 27 = sPush (.int (Int8.ofInt 6).toInt32) 29 := rfl
theorem i_Law_run_29 : opAt m_Law_run 29 = sAld 1 30 := rfl
theorem i_Law_run_30 : opAt m_Law_run 30 = sPush (.int (Int32.ofInt 4)) 31 := rfl
theorem i_Law_run_31 : opAt m_Law_run 31 = sIld 5 33 := rfl
theorem i_Law_run_33 : opAt m_Law_run 33 = sBI (fun x y => x * y) 34 := rfl
theorem i_Law_run_34 : opAt m_Law_run 34 = sPush (.int (Int32.ofInt 1)) 35 := rfl
theorem i_Law_run_35 : opAt m_Law_run 35 = sBI (fun x y => x + y) 36 := rfl
theorem i_Law_run_36 : opAt m_Law_run 36 = sIal 37 := rfl
theorem i_Law_run_37 : opAt m_Law_run 37 = sBI (fun x y => x + y) 38 := rfl
theorem i_Law_run_38 : opAt m_Law_run 38 = sBI (fun x y => x <<< (y &&& 31)) 39 := rfl
theorem i_Law_run_39 : opAt m_Law_run 39 = sIst 6 41 := rfl
theorem i_Law_run_41 : opAt m_Law_run 41 = sAld 1 42 := rfl
theorem i_Law_run_42 : opAt m_Law_run 42 = sPush (.int (Int32.ofInt 4)) 43 := rfl
theorem i_Law_run_43 : opAt m_Law_run 43 = sIld 5 45 := rfl
theorem i_Law_run_45 : opAt m_Law_run 45 = sBI (fun x y => x * y) 46 := rfl
theorem i_Law_run_46 : opAt m_Law_run 46 = sIld 2 47 := rfl
theorem i_Law_run_47 : opAt m_Law_run 47 = sIf .eq 62 50 := rfl
theorem i_Law_run_50 : opAt m_Law_run 50 = sAld 0 51 := rfl
theorem i_Law_run_51 : opAt m_Law_run 51 = sPush (.int (Int8.ofInt 48).toInt32) 53 := rfl
theorem i_Law_run_53 : opAt m_Law_run 53 = sIal 54 := rfl
theorem i_Law_run_54 : opAt m_Law_run 54 = sPush (.int (Int32.ofInt 1)) 55 := rfl
theorem i_Law_run_55 : opAt m_Law_run 55 = sBI (fun x y => x - y) 56 := rfl
theorem i_Law_run_56 : opAt m_Law_run 56 = sIld 4 58 := rfl
theorem i_Law_run_58 : opAt m_Law_run 58 = sBI (fun x y => x - y) 59 := rfl
theorem i_Law_run_59 : opAt m_Law_run 59 = sGo 64 := rfl
theorem i_Law_run_62 : opAt m_Law_run 62 = sIld 4 64 := rfl
theorem i_Law_run_64 : opAt m_Law_run 64 = sSta m_Law_leaves 0 3 67 := rfl
theorem i_Law_run_67 : opAt m_Law_run 67 = sIf .eq 95 70 := rfl
theorem i_Law_run_70 : opAt m_Law_run 70 = sAld 0 71 := rfl
theorem i_Law_run_71 : opAt m_Law_run 71 = sIld 4 73 := rfl
theorem i_Law_run_73 : opAt m_Law_run 73 = sIal 74 := rfl
theorem i_Law_run_74 : opAt m_Law_run 74 = sIld 6 76 := rfl
theorem i_Law_run_76 : opAt m_Law_run 76 = sBI (fun x y => x &&& y) 77 := rfl
theorem i_Law_run_77 : opAt m_Law_run 77 = sIf .le 83 80 := rfl
theorem i_Law_run_80 : opAt m_Law_run 80 = sGo 95 := rfl
theorem i_Law_run_83 : opAt m_Law_run 83 = sAld 0 84 := rfl
theorem i_Law_run_84 : opAt m_Law_run 84 = sIld 4 86 := rfl
theorem i_Law_run_86 : opAt m_Law_run 86 = sDup2 87 := rfl
theorem i_Law_run_87 : opAt m_Law_run 87 = sIal 88 := rfl
theorem i_Law_run_88 : opAt m_Law_run 88 = sIld 6 90 := rfl
theorem i_Law_run_90 : opAt m_Law_run 90 = sBI (fun x y => x ||| y) 91 := rfl
theorem i_Law_run_91 : opAt m_Law_run 91 = sIas 92 := rfl
theorem i_Law_run_92 : opAt m_Law_run 92 = sInc 3 1 95 := rfl
theorem i_Law_run_95 : opAt m_Law_run 95 = sInc 5 1 98 := rfl
theorem i_Law_run_98 : opAt m_Law_run 98 = sGo 17 := rfl
theorem i_Law_run_101 : opAt m_Law_run 101 = sInc 4 1 104 := rfl
theorem i_Law_run_104 : opAt m_Law_run 104 = sGo 5 := rfl
theorem i_Law_run_107 : opAt m_Law_run 107 = sIld 3 108 := rfl
theorem i_Law_run_108 : opAt m_Law_run 108 = sIret .int := rfl
theorem i_Law_mend_0 : opAt m_Law_mend 0 = sIld 2 1 := rfl
theorem i_Law_mend_1 : opAt m_Law_mend 1 = sPush (.int (Int32.ofInt 1)) 2 := rfl
theorem i_Law_mend_2 : opAt m_Law_mend 2 = sBI (fun x y => x + y) 3 := rfl
theorem i_Law_mend_3 : opAt m_Law_mend 3 = sIst 3 4 := rfl
theorem i_Law_mend_4 : opAt m_Law_mend 4 = sIld 3 5 := rfl
theorem i_Law_mend_5 : opAt m_Law_mend 5 = sAld 0 6 := rfl
theorem i_Law_mend_6 : opAt m_Law_mend 6 = sPush (.int (Int8.ofInt 48).toInt32) 8 := rfl
theorem i_Law_mend_8 : opAt m_Law_mend 8 = sIal 9 := rfl
theorem i_Law_mend_9 : opAt m_Law_mend 9 = sCm .ge 30 12 := rfl
theorem i_Law_mend_12 : opAt m_Law_mend 12 = sAld 0 13 := rfl
theorem i_Law_mend_13 : opAt m_Law_mend 13 = sIld 1 14 := rfl
theorem i_Law_mend_14 : opAt m_Law_mend 14 = sIld 3 15 := rfl
theorem i_Law_mend_15 : opAt m_Law_mend 15 = sBI (fun x y => x + y) 16 := rfl
theorem i_Law_mend_16 : opAt m_Law_mend 16 = sIld 2 17 := rfl
theorem i_Law_mend_17 : opAt m_Law_mend 17 = sBI (fun x y => x - y) 18 := rfl
theorem i_Law_mend_18 : opAt m_Law_mend 18 = sPush (.int (Int32.ofInt 1)) 19 := rfl
theorem i_Law_mend_19 : opAt m_Law_mend 19 = sBI (fun x y => x - y) 20 := rfl
theorem i_Law_mend_20 : opAt m_Law_mend 20 = sAld 0 21 := rfl
theorem i_Law_mend_21 : opAt m_Law_mend 21 = sIld 3 22 := rfl
theorem i_Law_mend_22 : opAt m_Law_mend 22 = sIal 23 := rfl
theorem i_Law_mend_23 : opAt m_Law_mend 23 = sIas 24 := rfl
theorem i_Law_mend_24 : opAt m_Law_mend 24 = sInc 3 1 27 := rfl
theorem i_Law_mend_27 : opAt m_Law_mend 27 = sGo 4 := rfl
theorem i_Law_mend_30 : opAt m_Law_mend 30 = sAld 0 31 := rfl
theorem i_Law_mend_31 : opAt m_Law_mend 31 = sPush (.int (Int8.ofInt 48).toInt32) 33 := rfl
theorem i_Law_mend_33 : opAt m_Law_mend 33 = sDup2 34 := rfl
theorem i_Law_mend_34 : opAt m_Law_mend 34 = sIal 35 := rfl
theorem i_Law_mend_35 : opAt m_Law_mend 35 = sIld 2 36 := rfl
theorem i_Law_mend_36 : opAt m_Law_mend 36 = sIld 1 37 := rfl
theorem i_Law_mend_37 : opAt m_Law_mend 37 = sBI (fun x y => x - y) 38 := rfl
theorem i_Law_mend_38 : opAt m_Law_mend 38 = sPush (.int (Int32.ofInt 1)) 39 := rfl
theorem i_Law_mend_39 : opAt m_Law_mend 39 = sBI (fun x y => x + y) 40 := rfl
theorem i_Law_mend_40 : opAt m_Law_mend 40 = sBI (fun x y => x - y) 41 := rfl
theorem i_Law_mend_41 : opAt m_Law_mend 41 = sIas 42 := rfl
theorem i_Law_mend_42 : opAt m_Law_mend 42 = sVret := rfl
theorem i_Law_copy_0 : opAt m_Law_copy 0 = sPush (.int (Int32.ofInt 0)) 1 := rfl
theorem i_Law_copy_1 : opAt m_Law_copy 1 = sIst 2 2 := rfl
theorem i_Law_copy_2 : opAt m_Law_copy 2 = sIld 2 3 := rfl
theorem i_Law_copy_3 : opAt m_Law_copy 3 = sPush (.int (Int8.ofInt 48).toInt32) 5 := rfl
theorem i_Law_copy_5 : opAt m_Law_copy 5 = sCm .ge 34 8 := rfl
theorem i_Law_copy_8 : opAt m_Law_copy 8 = sAld 1 9 := rfl
theorem i_Law_copy_9 : opAt m_Law_copy 9 = sIld 2 10 := rfl
theorem i_Law_copy_10 : opAt m_Law_copy 10 = sAld 0 11 := rfl
theorem i_Law_copy_11 : opAt m_Law_copy 11 = sIld 2 12 := rfl
theorem i_Law_copy_12 : opAt m_Law_copy 12 = sIal 13 := rfl
theorem i_Law_copy_13 : opAt m_Law_copy 13 = sPush (.int (Int8.ofInt 64).toInt32) 15 := rfl
theorem i_Law_copy_15 : opAt m_Law_copy 15 = sDI (fun x y => x - x / y * y) 16 := rfl
theorem i_Law_copy_16 : opAt m_Law_copy 16 = sAld 0 17 := rfl
theorem i_Law_copy_17 : opAt m_Law_copy 17 = sIld 2 18 := rfl
theorem i_Law_copy_18 : opAt m_Law_copy 18 = sIal 19 := rfl
theorem i_Law_copy_19 : opAt m_Law_copy 19 = sPush (.int (Int32.ofInt 2)) 20 := rfl
theorem i_Law_copy_20 : opAt m_Law_copy 20 = sSta m_Law_marks 0 2 23 := rfl
theorem i_Law_copy_23 : opAt m_Law_copy 23 = sPush (.int (Int8.ofInt 14).toInt32) 25 := rfl
theorem i_Law_copy_25 : opAt m_Law_copy 25 = sBI (fun x y => x <<< (y &&& 31)) 26 := rfl
theorem i_Law_copy_26 : opAt m_Law_copy 26 = sBI (fun x y => x ||| y) 27 := rfl
theorem i_Law_copy_27 : opAt m_Law_copy 27 = sIas 28 := rfl
theorem i_Law_copy_28 : opAt m_Law_copy 28 = sInc 2 1 31 := rfl
theorem i_Law_copy_31 : opAt m_Law_copy 31 = sGo 2 := rfl
theorem i_Law_copy_34 : opAt m_Law_copy 34 = sAld 1 35 := rfl
theorem i_Law_copy_35 : opAt m_Law_copy 35 = sPush (.int (Int8.ofInt 48).toInt32) 37 := rfl
theorem i_Law_copy_37 : opAt m_Law_copy 37 = sAld 0 38 := rfl
theorem i_Law_copy_38 : opAt m_Law_copy 38 = sPush (.int (Int8.ofInt 48).toInt32) 40 := rfl
theorem i_Law_copy_40 : opAt m_Law_copy 40 = sIal 41 := rfl
theorem i_Law_copy_41 : opAt m_Law_copy 41 = sIas 42 := rfl
theorem i_Law_copy_42 : opAt m_Law_copy 42 = sVret := rfl
theorem i_Law_marks_0 : opAt m_Law_marks 0 = sIld 1 1 := rfl
theorem i_Law_marks_1 : opAt m_Law_marks 1 = sIf .ne 11 4 := rfl
theorem i_Law_marks_4 : opAt m_Law_marks 4 = sIld 0 5 := rfl
theorem i_Law_marks_5 : opAt m_Law_marks 5 = sSta m_Law_black 0 1 8 := rfl
theorem i_Law_marks_8 : opAt m_Law_marks 8 = sGo 32 := rfl
theorem i_Law_marks_11 : opAt m_Law_marks 11 = sIld 1 12 := rfl
theorem i_Law_marks_12 : opAt m_Law_marks 12 = sPush (.int (Int32.ofInt 1)) 13 := rfl
theorem i_Law_marks_13 : opAt m_Law_marks 13 = sCm .ne 23 16 := rfl
theorem i_Law_marks_16 : opAt m_Law_marks 16 = sIld 0 17 := rfl
theorem i_Law_marks_17 : opAt m_Law_marks 17 = sSta m_Law_white 0 1 20 := rfl
theorem i_Law_marks_20 : opAt m_Law_marks 20 = sGo 32 := rfl
theorem i_Law_marks_23 : opAt m_Law_marks 23 = sIld 0 24 := rfl
theorem i_Law_marks_24 : opAt m_Law_marks 24 = sSta m_Law_black 0 1 27 := rfl
theorem i_Law_marks_27 : opAt m_Law_marks 27 = sIld 0 28 := rfl
theorem i_Law_marks_28 : opAt m_Law_marks 28 = sSta m_Law_white 0 1 31 := rfl
theorem i_Law_marks_31 : opAt m_Law_marks 31 = sBI (fun x y => x ||| y) 32 := rfl
theorem i_Law_marks_32 : opAt m_Law_marks 32 = sIret .int := rfl
theorem i_Law_white_0 : opAt m_Law_white 0 = sIld 0 1 := rfl
theorem i_Law_white_1 : opAt m_Law_white 1 = sPush (.int (Int8.ofInt 14).toInt32) 3 := rfl
theorem i_Law_white_3 : opAt m_Law_white 3 = sBI (fun x y => x >>> (y &&& 31)) 4 := rfl
theorem i_Law_white_4 : opAt m_Law_white 4 = sPush (.int (Int16.ofInt 255).toInt32) 7 := rfl
theorem i_Law_white_7 : opAt m_Law_white 7 = sBI (fun x y => x &&& y) 8 := rfl
theorem i_Law_white_8 : opAt m_Law_white 8 = sIret .int := rfl
theorem i_Law_stands_0 : opAt m_Law_stands 0 = sAld 0 1 := rfl
theorem i_Law_stands_1 : opAt m_Law_stands 1 = sIld 2 2 := rfl
theorem i_Law_stands_2 : opAt m_Law_stands 2 = sVir [(10, m_Fi_length)] 0 1 5 := rfl
theorem i_Law_stands_5 : opAt m_Law_stands 5 = sAld 1 6 := rfl
theorem i_Law_stands_6 : opAt m_Law_stands 6 = sPush (.int (Int8.ofInt 48).toInt32) 8 := rfl
theorem i_Law_stands_8 : opAt m_Law_stands 8 = sIal 9 := rfl
theorem i_Law_stands_9 : opAt m_Law_stands 9 = sCm .eq 14 12 := rfl
theorem i_Law_stands_12 : opAt m_Law_stands 12 = sPush (.int (Int32.ofInt 0)) 13 := rfl
theorem i_Law_stands_13 : opAt m_Law_stands 13 = sIret .boolean := rfl
theorem i_Law_stands_14 : opAt m_Law_stands 14 = sPush (.int (Int32.ofInt 0)) 15 := rfl
theorem i_Law_stands_15 : opAt m_Law_stands 15 = sIst 3 16 := rfl
theorem i_Law_stands_16 : opAt m_Law_stands 16 = sIld 3 17 := rfl
theorem i_Law_stands_17 : opAt m_Law_stands 17 = sAld 1 18 := rfl
theorem i_Law_stands_18 : opAt m_Law_stands 18 = sPush (.int (Int8.ofInt 48).toInt32) 20 := rfl
theorem i_Law_stands_20 : opAt m_Law_stands 20 = sIal 21 := rfl
theorem i_Law_stands_21 : opAt m_Law_stands 21 = sCm .ge 80 24 := rfl
theorem i_Law_stands_24 : opAt m_Law_stands 24 = sAld 0 25 := rfl
theorem i_Law_stands_25 : opAt m_Law_stands 25 = sIld 2 26 := rfl
theorem i_Law_stands_26 : opAt m_Law_stands 26 = sIld 3 27 := rfl
theorem i_Law_stands_27 : opAt m_Law_stands 27 = sPush (.int (Int32.ofInt 0)) 28 := rfl
theorem i_Law_stands_28 : opAt m_Law_stands 28 = sVir [(10, m_Fi_picture)] 0 3 31 := rfl
theorem i_Law_stands_31 : opAt m_Law_stands 31 = sAld 1 32 := rfl
theorem i_Law_stands_32 : opAt m_Law_stands 32 = sIld 3 33 := rfl
theorem i_Law_stands_33 : opAt m_Law_stands 33 = sIal 34 := rfl
theorem i_Law_stands_34 : opAt m_Law_stands 34 = sPush (.int (Int8.ofInt 64).toInt32) 36 := rfl
theorem i_Law_stands_36 : opAt m_Law_stands 36 = sDI (fun x y => x - x / y * y) 37 := rfl
theorem i_Law_stands_37 : opAt m_Law_stands 37 = sCm .ne 72 40 := rfl
theorem i_Law_stands_40 : opAt m_Law_stands 40 = sAld 0 41 := rfl
theorem i_Law_stands_41 : opAt m_Law_stands 41 = sIld 2 42 := rfl
theorem i_Law_stands_42 : opAt m_Law_stands 42 = sIld 3 43 := rfl
theorem i_Law_stands_43 : opAt m_Law_stands 43 = sPush (.int (Int32.ofInt 1)) 44 := rfl
theorem i_Law_stands_44 : opAt m_Law_stands 44 = sVir [(10, m_Fi_picture)] 0 3 47 := rfl
theorem i_Law_stands_47 : opAt m_Law_stands 47 = sAld 1 48 := rfl
theorem i_Law_stands_48 : opAt m_Law_stands 48 = sIld 3 49 := rfl
theorem i_Law_stands_49 : opAt m_Law_stands 49 = sIal 50 := rfl
theorem i_Law_stands_50 : opAt m_Law_stands 50 = sSta m_Law_black 0 1 53 := rfl
theorem i_Law_stands_53 : opAt m_Law_stands 53 = sCm .ne 72 56 := rfl
theorem i_Law_stands_56 : opAt m_Law_stands 56 = sAld 0 57 := rfl
theorem i_Law_stands_57 : opAt m_Law_stands 57 = sIld 2 58 := rfl
theorem i_Law_stands_58 : opAt m_Law_stands 58 = sIld 3 59 := rfl
theorem i_Law_stands_59 : opAt m_Law_stands 59 = sPush (.int (Int32.ofInt 2)) 60 := rfl
theorem i_Law_stands_60 : opAt m_Law_stands 60 = sVir [(10, m_Fi_picture)] 0 3 63 := rfl
theorem i_Law_stands_63 : opAt m_Law_stands 63 = sAld 1 64 := rfl
theorem i_Law_stands_64 : opAt m_Law_stands 64 = sIld 3 65 := rfl
theorem i_Law_stands_65 : opAt m_Law_stands 65 = sIal 66 := rfl
theorem i_Law_stands_66 : opAt m_Law_stands 66 = sSta m_Law_white 0 1 69 := rfl
theorem i_Law_stands_69 : opAt m_Law_stands 69 = sCm .eq 74 72 := rfl
theorem i_Law_stands_72 : opAt m_Law_stands 72 = sPush (.int (Int32.ofInt 0)) 73 := rfl
theorem i_Law_stands_73 : opAt m_Law_stands 73 = sIret .boolean := rfl
theorem i_Law_stands_74 : opAt m_Law_stands 74 = sInc 3 1 77 := rfl
theorem i_Law_stands_77 : opAt m_Law_stands 77 = sGo 16 := rfl
theorem i_Law_stands_80 : opAt m_Law_stands 80 = sAld 0 81 := rfl
theorem i_Law_stands_81 : opAt m_Law_stands 81 = sIld 2 82 := rfl
theorem i_Law_stands_82 : opAt m_Law_stands 82 = sAld 1 83 := rfl
theorem i_Law_stands_83 : opAt m_Law_stands 83 = sPush (.int (Int8.ofInt 48).toInt32) 85 := rfl
theorem i_Law_stands_85 : opAt m_Law_stands 85 = sIal 86 := rfl
theorem i_Law_stands_86 : opAt m_Law_stands 86 = sPush (.int (Int32.ofInt 0)) 87 := rfl
theorem i_Law_stands_87 : opAt m_Law_stands 87 = sVir [(10, m_Fi_picture)] 0 3 90 := rfl
theorem i_Law_stands_90 : opAt m_Law_stands 90 = sPush (.int (Int8.ofInt (-101)).toInt32) 92 := rfl
theorem i_Law_stands_92 : opAt m_Law_stands 92 = sCm .ne 99 95 := rfl
theorem i_Law_stands_95 : opAt m_Law_stands 95 = sPush (.int (Int32.ofInt 1)) 96 := rfl
theorem i_Law_stands_96 : opAt m_Law_stands 96 = sGo 100 := rfl
theorem i_Law_stands_99 : opAt m_Law_stands 99 = sPush (.int (Int32.ofInt 0)) 100 := rfl
theorem i_Law_stands_100 : opAt m_Law_stands 100 = sIret .boolean := rfl
theorem i_Law_share_0 : opAt m_Law_share 0 = sLld 2 1 := rfl
theorem i_Law_share_1 : opAt m_Law_share 1 = sPush (.long (Int64.ofNat ((1 : Fin 2) : Nat))) 2 := rfl
theorem i_Law_share_2 : opAt m_Law_share 2 = sCmp 3 := rfl
theorem i_Law_share_3 : opAt m_Law_share 3 = sIf .ge 8 6 := rfl
theorem i_Law_share_6 : opAt m_Law_share 6 = sPush (.int (Int32.ofInt 0)) 7 := rfl
theorem i_Law_share_7 : opAt m_Law_share 7 = sIret .boolean := rfl
theorem i_Law_share_8 : opAt m_Law_share 8 = sLld 6 10 := rfl
theorem i_Law_share_10 : opAt m_Law_share 10 = sLst 8 12 := rfl
theorem i_Law_share_12 : opAt m_Law_share 12 = sLld 4 14 := rfl
theorem i_Law_share_14 : opAt m_Law_share 14 = sLst 10 16 := rfl
theorem i_Law_share_16 : opAt m_Law_share 16 = sLld 10 18 := rfl
theorem i_Law_share_18 : opAt m_Law_share 18 = sPush (.long (Int64.ofNat ((0 : Fin 2) : Nat))) 19 := rfl
theorem i_Law_share_19 : opAt m_Law_share 19 = sCmp 20 := rfl
theorem i_Law_share_20 : opAt m_Law_share 20 = sIf .eq 41 23 := rfl
theorem i_Law_share_23 : opAt m_Law_share 23 = sLld 8 25 := rfl
theorem i_Law_share_25 : opAt m_Law_share 25 = sLld 10 27 := rfl
theorem i_Law_share_27 : opAt m_Law_share 27 = sDL (fun x y => x - x / y * y) 28 := rfl
theorem i_Law_share_28 : opAt m_Law_share 28 = sLst 12 30 := rfl
theorem i_Law_share_30 : opAt m_Law_share 30 = sLld 10 32 := rfl
theorem i_Law_share_32 : opAt m_Law_share 32 = sLst 8 34 := rfl
theorem i_Law_share_34 : opAt m_Law_share 34 = sLld 12 36 := rfl
theorem i_Law_share_36 : opAt m_Law_share 36 = sLst 10 38 := rfl
theorem i_Law_share_38 : opAt m_Law_share 38 = sGo 16 := rfl
theorem i_Law_share_41 : opAt m_Law_share 41 = sLld 0 42 := rfl
theorem i_Law_share_42 : opAt m_Law_share 42 = sLld 4 44 := rfl
theorem i_Law_share_44 : opAt m_Law_share 44 = sLld 8 46 := rfl
theorem i_Law_share_46 : opAt m_Law_share 46 = sDL (fun x y => x / y) 47 := rfl
theorem i_Law_share_47 : opAt m_Law_share 47 = sCmp 48 := rfl
theorem i_Law_share_48 : opAt m_Law_share 48 = sIf .ne 65 51 := rfl
theorem i_Law_share_51 : opAt m_Law_share 51 = sLld 2 52 := rfl
theorem i_Law_share_52 : opAt m_Law_share 52 = sLld 6 54 := rfl
theorem i_Law_share_54 : opAt m_Law_share 54 = sLld 8 56 := rfl
theorem i_Law_share_56 : opAt m_Law_share 56 = sDL (fun x y => x / y) 57 := rfl
theorem i_Law_share_57 : opAt m_Law_share 57 = sCmp 58 := rfl
theorem i_Law_share_58 : opAt m_Law_share 58 = sIf .ne 65 61 := rfl
theorem i_Law_share_61 : opAt m_Law_share 61 = sPush (.int (Int32.ofInt 1)) 62 := rfl
theorem i_Law_share_62 : opAt m_Law_share 62 = sGo 66 := rfl
theorem i_Law_share_65 : opAt m_Law_share 65 = sPush (.int (Int32.ofInt 0)) 66 := rfl
theorem i_Law_share_66 : opAt m_Law_share 66 = sIret .boolean := rfl
theorem i_Law_last_0 : opAt m_Law_last 0 = sPush (.int (Int32.ofInt (-1))) 1 := rfl
theorem i_Law_last_1 : opAt m_Law_last 1 = sIst 3 2 := rfl
theorem i_Law_last_2 : opAt m_Law_last 2 = sPush (.int (Int32.ofInt 0)) 3 := rfl
theorem i_Law_last_3 : opAt m_Law_last 3 = sIst 4 5 := rfl
theorem i_Law_last_5 : opAt m_Law_last 5 = sIld 4 7 := rfl
theorem i_Law_last_7 : opAt m_Law_last 7 = sIld 2 8 := rfl
theorem i_Law_last_8 : opAt m_Law_last 8 = sCm .ge 35 11 := rfl
theorem i_Law_last_11 : opAt m_Law_last 11 = sAld 0 12 := rfl
theorem i_Law_last_12 : opAt m_Law_last 12 = sIld 4 14 := rfl
theorem i_Law_last_14 : opAt m_Law_last 14 = sIal 15 := rfl
theorem i_Law_last_15 : opAt m_Law_last 15 = sSta m_Law_black 0 1 18 := rfl
theorem i_Law_last_18 : opAt m_Law_last 18 = sIld 1 19 := rfl
theorem i_Law_last_19 : opAt m_Law_last 19 = sBI (fun x y => x >>> (y &&& 31)) 20 := rfl
theorem i_Law_last_20 : opAt m_Law_last 20 = sPush (.int (Int32.ofInt 1)) 21 := rfl
theorem i_Law_last_21 : opAt m_Law_last 21 = sBI (fun x y => x &&& y) 22 := rfl
theorem i_Law_last_22 : opAt m_Law_last 22 = sPush (.int (Int32.ofInt 1)) 23 := rfl
theorem i_Law_last_23 : opAt m_Law_last 23 = sCm .ne 29 26 := rfl
theorem i_Law_last_26 : opAt m_Law_last 26 = sIld 4 28 := rfl
theorem i_Law_last_28 : opAt m_Law_last 28 = sIst 3 29 := rfl
theorem i_Law_last_29 : opAt m_Law_last 29 = sInc 4 1 32 := rfl
theorem i_Law_last_32 : opAt m_Law_last 32 = sGo 5 := rfl
theorem i_Law_last_35 : opAt m_Law_last 35 = sIld 3 36 := rfl
theorem i_Law_last_36 : opAt m_Law_last 36 = sIret .int := rfl
theorem i_Law_first_0 : opAt m_Law_first 0 = sPush (.int (Int32.ofInt (-1))) 1 := rfl
theorem i_Law_first_1 : opAt m_Law_first 1 = sIst 3 2 := rfl
theorem i_Law_first_2 : opAt m_Law_first 2 = sAld 0 3 := rfl
theorem i_Law_first_3 : opAt m_Law_first 3 = sPush (.int (Int8.ofInt 48).toInt32) 5 := rfl
theorem i_Law_first_5 : opAt m_Law_first 5 = sIal 6 := rfl
theorem i_Law_first_6 : opAt m_Law_first 6 = sPush (.int (Int32.ofInt 1)) 7 := rfl
theorem i_Law_first_7 : opAt m_Law_first 7 = sBI (fun x y => x - y) 8 := rfl
theorem i_Law_first_8 : opAt m_Law_first 8 = sIst 4 10 := rfl
theorem i_Law_first_10 : opAt m_Law_first 10 = sIld 4 12 := rfl
theorem i_Law_first_12 : opAt m_Law_first 12 = sIld 2 13 := rfl
theorem i_Law_first_13 : opAt m_Law_first 13 = sCm .lt 40 16 := rfl
theorem i_Law_first_16 : opAt m_Law_first 16 = sAld 0 17 := rfl
theorem i_Law_first_17 : opAt m_Law_first 17 = sIld 4 19 := rfl
theorem i_Law_first_19 : opAt m_Law_first 19 = sIal 20 := rfl
theorem i_Law_first_20 : opAt m_Law_first 20 = sSta m_Law_black 0 1 23 := rfl
theorem i_Law_first_23 : opAt m_Law_first 23 = sIld 1 24 := rfl
theorem i_Law_first_24 : opAt m_Law_first 24 = sBI (fun x y => x >>> (y &&& 31)) 25 := rfl
theorem i_Law_first_25 : opAt m_Law_first 25 = sPush (.int (Int32.ofInt 1)) 26 := rfl
theorem i_Law_first_26 : opAt m_Law_first 26 = sBI (fun x y => x &&& y) 27 := rfl
theorem i_Law_first_27 : opAt m_Law_first 27 = sPush (.int (Int32.ofInt 1)) 28 := rfl
theorem i_Law_first_28 : opAt m_Law_first 28 = sCm .ne 34 31 := rfl
theorem i_Law_first_31 : opAt m_Law_first 31 = sIld 4 33 := rfl
theorem i_Law_first_33 : opAt m_Law_first 33 = sIst 3 34 := rfl
theorem i_Law_first_34 : opAt m_Law_first 34 = sInc 4 (-1) 37 := rfl
theorem i_Law_first_37 : opAt m_Law_first 37 = sGo 10 := rfl
theorem i_Law_first_40 : opAt m_Law_first 40 = sIld 3 41 := rfl
theorem i_Law_first_41 : opAt m_Law_first 41 = sIret .int := rfl
