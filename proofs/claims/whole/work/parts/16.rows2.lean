/-! EACH INSTRUCTION AS A STEP -/
theorem i_Mo_init_0 : opAt m_Mo_init 0 = sAld 0 1 := rfl
theorem i_Mo_init_1 : opAt m_Mo_init 1 = sObj 4 := rfl
theorem i_Mo_init_4 : opAt m_Mo_init 4 = sAld 0 5 := rfl
theorem i_Mo_init_5 : opAt m_Mo_init 5 = sPush (.int (Int8.ofInt 40).toInt32) 7 := rfl
theorem i_Mo_init_7 : opAt m_Mo_init 7 = sNar 0 zI 9 := rfl
theorem i_Mo_init_9 : opAt m_Mo_init 9 = sPut [(11, 0)] (.array .int) 12 := rfl
theorem i_Mo_init_12 : opAt m_Mo_init 12 = sAld 0 13 := rfl
theorem i_Mo_init_13 : opAt m_Mo_init 13 = sPush (.int (Int8.ofInt 20).toInt32) 15 := rfl
theorem i_Mo_init_15 : opAt m_Mo_init 15 = sNar 0 zI 17 := rfl
theorem i_Mo_init_17 : opAt m_Mo_init 17 = sPut [(11, 8)] (.array .int) 20 := rfl
theorem i_Mo_init_20 : opAt m_Mo_init 20 = sAld 0 21 := rfl
theorem i_Mo_init_21 : opAt m_Mo_init 21 = sPush (.int (Int8.ofInt 6).toInt32) 23 := rfl
theorem i_Mo_init_23 : opAt m_Mo_init 23 = sNar 0 zI 25 := rfl
theorem i_Mo_init_25 : opAt m_Mo_init 25 = sPut [(11, 10)] (.array .int) 28 := rfl
theorem i_Mo_init_28 : opAt m_Mo_init 28 = sAld 0 29 := rfl
theorem i_Mo_init_29 : opAt m_Mo_init 29 = sPush (.int (Int8.ofInt 96).toInt32) 31 := rfl
theorem i_Mo_init_31 : opAt m_Mo_init 31 = sNar 0 zI 33 := rfl
theorem i_Mo_init_33 : opAt m_Mo_init 33 = sPut [(11, 11)] (.array .int) 36 := rfl
theorem i_Mo_init_36 : opAt m_Mo_init 36 = sAld 0 37 := rfl
theorem i_Mo_init_37 : opAt m_Mo_init 37 = sPush (.int (Int8.ofInt 6).toInt32) 39 := rfl
theorem i_Mo_init_39 : opAt m_Mo_init 39 = sNar 0 zI 41 := rfl
theorem i_Mo_init_41 : opAt m_Mo_init 41 = sPut [(11, 13)] (.array .int) 44 := rfl
theorem i_Mo_init_44 : opAt m_Mo_init 44 = sAld 0 45 := rfl
theorem i_Mo_init_45 : opAt m_Mo_init 45 = sPush (.int (Int16.ofInt 288).toInt32) 48 := rfl
theorem i_Mo_init_48 : opAt m_Mo_init 48 = sNar 0 zI 50 := rfl
theorem i_Mo_init_50 : opAt m_Mo_init 50 = sPut [(11, 14)] (.array .int) 53 := rfl
theorem i_Mo_init_53 : opAt m_Mo_init 53 = sAld 0 54 := rfl
theorem i_Mo_init_54 : opAt m_Mo_init 54 = sPush (.int (Int16.ofInt 288).toInt32) 57 := rfl
theorem i_Mo_init_57 : opAt m_Mo_init 57 = sNar 0 zI 59 := rfl
theorem i_Mo_init_59 : opAt m_Mo_init 59 = sPut [(11, 15)] (.array .int) 62 := rfl
theorem i_Mo_init_62 : opAt m_Mo_init 62 = sAld 0 63 := rfl
theorem i_Mo_init_63 : opAt m_Mo_init 63 = sPush (.int (Int16.ofInt 288).toInt32) 66 := rfl
theorem i_Mo_init_66 : opAt m_Mo_init 66 = sNar 0 zI 68 := rfl
theorem i_Mo_init_68 : opAt m_Mo_init 68 = sPut [(11, 16)] (.array .int) 71 := rfl
theorem i_Mo_init_71 : opAt m_Mo_init 71 = sAld 0 72 := rfl
theorem i_Mo_init_72 : opAt m_Mo_init 72 = sPush (.int (Int8.ofInt 49).toInt32) 74 := rfl
theorem i_Mo_init_74 : opAt m_Mo_init 74 = sNar 2 zL 76 := rfl
theorem i_Mo_init_76 : opAt m_Mo_init 76 = sPut [(11, 17)] (.array .long) 79 := rfl
theorem i_Mo_init_79 : opAt m_Mo_init 79 = sAld 0 80 := rfl
theorem i_Mo_init_80 : opAt m_Mo_init 80 = sPush (.int (Int8.ofInt 8).toInt32) 82 := rfl
theorem i_Mo_init_82 : opAt m_Mo_init 82 = sNar 0 zI 84 := rfl
theorem i_Mo_init_84 : opAt m_Mo_init 84 = sPut [(11, 19)] (.array .int) 87 := rfl
theorem i_Mo_init_87 : opAt m_Mo_init 87 = sAld 0 88 := rfl
theorem i_Mo_init_88 : opAt m_Mo_init 88 = sPush (.int (Int8.ofInt 42).toInt32) 90 := rfl
theorem i_Mo_init_90 : opAt m_Mo_init 90 = sNar 0 zI 92 := rfl
theorem i_Mo_init_92 : opAt m_Mo_init 92 = sPut [(11, 21)] (.array .int) 95 := rfl
theorem i_Mo_init_95 : opAt m_Mo_init 95 = sAld 0 96 := rfl
theorem i_Mo_init_96 : opAt m_Mo_init 96 = sPush (.int (Int8.ofInt 6).toInt32) 98 := rfl
theorem i_Mo_init_98 : opAt m_Mo_init 98 = sNar 0 zI 100 := rfl
theorem i_Mo_init_100 : opAt m_Mo_init 100 = sPut [(11, 22)] (.array .int) 103 := rfl
theorem i_Mo_init_103 : opAt m_Mo_init 103 = sAld 0 104 := rfl
theorem i_Mo_init_104 : opAt m_Mo_init 104 = sPush (.int (Int8.ofInt 6).toInt32) 106 := rfl
theorem i_Mo_init_106 : opAt m_Mo_init 106 = sNar 0 zI 108 := rfl
theorem i_Mo_init_108 : opAt m_Mo_init 108 = sPut [(11, 23)] (.array .int) 111 := rfl
theorem i_Mo_init_111 : opAt m_Mo_init 111 = sAld 0 112 := rfl
theorem i_Mo_init_112 : opAt m_Mo_init 112 = sPush (.int (Int16.ofInt 288).toInt32) 115 := rfl
theorem i_Mo_init_115 : opAt m_Mo_init 115 = sNar 0 zI 117 := rfl
theorem i_Mo_init_117 : opAt m_Mo_init 117 = sPut [(11, 24)] (.array .int) 120 := rfl
theorem i_Mo_init_120 : opAt m_Mo_init 120 = sAld 0 121 := rfl
theorem i_Mo_init_121 : opAt m_Mo_init 121 = sPush (.int (Int8.ofInt 48).toInt32) 123 := rfl
theorem i_Mo_init_123 : opAt m_Mo_init 123 = sNar 0 zI 125 := rfl
theorem i_Mo_init_125 : opAt m_Mo_init 125 = sPut [(11, 25)] (.array .int) 128 := rfl
theorem i_Mo_init_128 : opAt m_Mo_init 128 = sAld 0 129 := rfl
theorem i_Mo_init_129 : opAt m_Mo_init 129 = sPush (.int (Int8.ofInt 6).toInt32) 131 := rfl
theorem i_Mo_init_131 : opAt m_Mo_init 131 = sNar 0 zI 133 := rfl
theorem i_Mo_init_133 : opAt m_Mo_init 133 = sPut [(11, 28)] (.array .int) 136 := rfl
theorem i_Mo_init_136 : opAt m_Mo_init 136 = sAld 0 137 := rfl
theorem i_Mo_init_137 : opAt m_Mo_init 137 = sPush (.int (Int16.ofInt 288).toInt32) 140 := rfl
theorem i_Mo_init_140 : opAt m_Mo_init 140 = sNar 0 zI 142 := rfl
theorem i_Mo_init_142 : opAt m_Mo_init 142 = sPut [(11, 29)] (.array .int) 145 := rfl
theorem i_Mo_init_145 : opAt m_Mo_init 145 = sAld 0 146 := rfl
theorem i_Mo_init_146 : opAt m_Mo_init 146 = sPush (.int (Int16.ofInt 288).toInt32) 149 := rfl
theorem i_Mo_init_149 : opAt m_Mo_init 149 = sNar 0 zI 151 := rfl
theorem i_Mo_init_151 : opAt m_Mo_init 151 = sPut [(11, 30)] (.array .int) 154 := rfl
theorem i_Mo_init_154 : opAt m_Mo_init 154 = sAld 0 155 := rfl
theorem i_Mo_init_155 : opAt m_Mo_init 155 = sPush (.int (Int16.ofInt 288).toInt32) 158 := rfl
theorem i_Mo_init_158 : opAt m_Mo_init 158 = sNar 0 zI 160 := rfl
theorem i_Mo_init_160 : opAt m_Mo_init 160 = sPut [(11, 31)] (.array .int) 163 := rfl
theorem i_Mo_init_163 : opAt m_Mo_init 163 = sAld 0 164 := rfl
theorem i_Mo_init_164 : opAt m_Mo_init 164 = sPush (.int (Int8.ofInt 8).toInt32) 166 := rfl
theorem i_Mo_init_166 : opAt m_Mo_init 166 = sNar 0 zI 168 := rfl
theorem i_Mo_init_168 : opAt m_Mo_init 168 = sPut [(11, 32)] (.array .int) 171 := rfl
theorem i_Mo_init_171 : opAt m_Mo_init 171 = sAld 0 172 := rfl
theorem i_Mo_init_172 : opAt m_Mo_init 172 = sPush (.int (Int32.ofInt (-1))) 173 := rfl
theorem i_Mo_init_173 : opAt m_Mo_init 173 = sPut [(11, 26)] (.int) 176 := rfl
theorem i_Mo_init_176 : opAt m_Mo_init 176 = sVret := rfl
theorem i_Mo_letters_0 : opAt m_Mo_letters 0 = sPush (.int (Int32.ofInt 0)) 1 := rfl
theorem i_Mo_letters_1 : opAt m_Mo_letters 1 = sIst 3 2 := rfl
theorem i_Mo_letters_2 : opAt m_Mo_letters 2 = sPush (.int (Int32.ofInt 1)) 3 := rfl
theorem i_Mo_letters_3 : opAt m_Mo_letters 3 = sIst 4 5 := rfl
theorem i_Mo_letters_5 : opAt m_Mo_letters 5 = sLld 1 6 := rfl
theorem i_Mo_letters_6 : opAt m_Mo_letters 6 = sLst 5 8 := rfl
theorem i_Mo_letters_8 : opAt m_Mo_letters 8 = sPush (.int (Int32.ofInt 0)) 9 := rfl
theorem i_Mo_letters_9 : opAt m_Mo_letters 9 = sIst 7 11 := rfl
theorem i_Mo_letters_11 : opAt m_Mo_letters 11 = sIld 7 13 := rfl
theorem i_Mo_letters_13 : opAt m_Mo_letters 13 = sPush (.int (Int8.ofInt 8).toInt32) 15 := rfl
theorem i_Mo_letters_15 : opAt m_Mo_letters 15 = sCm .ge 83 18 := rfl
theorem i_Mo_letters_18 : opAt m_Mo_letters 18 = sLld 5 20 := rfl
theorem i_Mo_letters_20 : opAt m_Mo_letters 20 = sPush (.long (255)) 23 := rfl
theorem i_Mo_letters_23 : opAt m_Mo_letters 23 = sBL (fun x y => x &&& y) 24 := rfl
theorem i_Mo_letters_24 : opAt m_Mo_letters 24 = sLI 25 := rfl
theorem i_Mo_letters_25 : opAt m_Mo_letters 25 = sIst 8 27 := rfl
theorem i_Mo_letters_27 : opAt m_Mo_letters 27 = sLld 5 29 := rfl
theorem i_Mo_letters_29 : opAt m_Mo_letters 29 = sPush (.int (Int8.ofInt 8).toInt32) 31 := rfl
theorem i_Mo_letters_31 : opAt m_Mo_letters 31 = sSL (fun x y => (x.toUInt64 >>> (y.toInt64.toUInt64 &&& Int64.toUInt64 63)).toInt64) 32 := rfl
theorem i_Mo_letters_32 : opAt m_Mo_letters 32 = sLst 5 34 := rfl
theorem i_Mo_letters_34 : opAt m_Mo_letters 34 = sIld 4 36 := rfl
theorem i_Mo_letters_36 : opAt m_Mo_letters 36 = sIf .eq 61 39 := rfl
theorem i_Mo_letters_39 : opAt m_Mo_letters 39 = sIld 8 41 := rfl
theorem i_Mo_letters_41 : opAt m_Mo_letters 41 = sPush (.int (Int8.ofInt 126).toInt32) 43 := rfl
theorem i_Mo_letters_43 : opAt m_Mo_letters 43 = sCm .gt 61 46 := rfl
theorem i_Mo_letters_46 : opAt m_Mo_letters 46 = sIld 8 48 := rfl
theorem i_Mo_letters_48 : opAt m_Mo_letters 48 = sIf .eq 57 51 := rfl
theorem i_Mo_letters_51 : opAt m_Mo_letters 51 = sIld 3 52 := rfl
theorem i_Mo_letters_52 : opAt m_Mo_letters 52 = sIld 7 54 := rfl
theorem i_Mo_letters_54 : opAt m_Mo_letters 54 = sCm .ne 61 57 := rfl
theorem i_Mo_letters_57 : opAt m_Mo_letters 57 = sPush (.int (Int32.ofInt 1)) 58 := rfl
theorem i_Mo_letters_58 : opAt m_Mo_letters 58 = sGo 62 := rfl
theorem i_Mo_letters_61 : opAt m_Mo_letters 61 = sPush (.int (Int32.ofInt 0)) 62 := rfl
theorem i_Mo_letters_62 : opAt m_Mo_letters 62 = sIst 4 64 := rfl
theorem i_Mo_letters_64 : opAt m_Mo_letters 64 = sIld 3 65 := rfl
theorem i_Mo_letters_65 : opAt m_Mo_letters 65 = sIld 8 67 := rfl
theorem i_Mo_letters_67 : opAt m_Mo_letters 67 = sIf .le 74 70 := rfl
theorem i_Mo_letters_70 : opAt m_Mo_letters 70 = sPush (.int (Int32.ofInt 1)) 71 := rfl
theorem i_Mo_letters_71 : opAt m_Mo_letters 71 = sGo 75 := rfl
theorem i_Mo_letters_74 : opAt m_Mo_letters 74 = sPush (.int (Int32.ofInt 0)) 75 := rfl
theorem i_Mo_letters_75 : opAt m_Mo_letters 75 = sBI (fun x y => x + y) 76 := rfl
theorem i_Mo_letters_76 : opAt m_Mo_letters 76 = sIst 3 77 := rfl
theorem i_Mo_letters_77 : opAt m_Mo_letters 77 = sInc 7 1 80 := rfl
theorem i_Mo_letters_80 : opAt m_Mo_letters 80 = sGo 11 := rfl
theorem i_Mo_letters_83 : opAt m_Mo_letters 83 = sIld 4 85 := rfl
theorem i_Mo_letters_85 : opAt m_Mo_letters 85 = sIf .ne 91 88 := rfl
theorem i_Mo_letters_88 : opAt m_Mo_letters 88 = sPush (.int (Int8.ofInt (-102)).toInt32) 90 := rfl
theorem i_Mo_letters_90 : opAt m_Mo_letters 90 = sIret .int := rfl
theorem i_Mo_letters_91 : opAt m_Mo_letters 91 = sAld 0 92 := rfl
theorem i_Mo_letters_92 : opAt m_Mo_letters 92 = sGet [(11, 1)] 95 := rfl
theorem i_Mo_letters_95 : opAt m_Mo_letters 95 = sIld 3 96 := rfl
theorem i_Mo_letters_96 : opAt m_Mo_letters 96 = sBI (fun x y => x + y) 97 := rfl
theorem i_Mo_letters_97 : opAt m_Mo_letters 97 = sPush (.int (Int8.ofInt 40).toInt32) 99 := rfl
theorem i_Mo_letters_99 : opAt m_Mo_letters 99 = sCm .le 105 102 := rfl
theorem i_Mo_letters_102 : opAt m_Mo_letters 102 = sPush (.int (Int8.ofInt (-104)).toInt32) 104 := rfl
theorem i_Mo_letters_104 : opAt m_Mo_letters 104 = sIret .int := rfl
theorem i_Mo_letters_105 : opAt m_Mo_letters 105 = sPush (.int (Int32.ofInt 0)) 106 := rfl
theorem i_Mo_letters_106 : opAt m_Mo_letters 106 = sIst 7 108 := rfl
theorem i_Mo_letters_108 : opAt m_Mo_letters 108 = sIld 7 110 := rfl
theorem i_Mo_letters_110 : opAt m_Mo_letters 110 = sIld 3 111 := rfl
theorem i_Mo_letters_111 : opAt m_Mo_letters 111 = sCm .ge 151 114 := rfl
theorem i_Mo_letters_114 : opAt m_Mo_letters 114 = sAld 0 115 := rfl
theorem i_Mo_letters_115 : opAt m_Mo_letters 115 = sGet [(11, 0)] 118 := rfl
theorem i_Mo_letters_118 : opAt m_Mo_letters 118 = sAld 0 119 := rfl
theorem i_Mo_letters_119 : opAt m_Mo_letters 119 = sGet [(11, 1)] 122 := rfl
theorem i_Mo_letters_122 : opAt m_Mo_letters 122 = sLld 1 123 := rfl
theorem i_Mo_letters_123 : opAt m_Mo_letters 123 = sPush (.int (Int8.ofInt 8).toInt32) 125 := rfl
theorem i_Mo_letters_125 : opAt m_Mo_letters 125 = sIld 7 127 := rfl
theorem i_Mo_letters_127 : opAt m_Mo_letters 127 = sBI (fun x y => x * y) 128 := rfl
theorem i_Mo_letters_128 : opAt m_Mo_letters 128 = sSL (fun x y => (x.toUInt64 >>> (y.toInt64.toUInt64 &&& Int64.toUInt64 63)).toInt64) 129 := rfl
theorem i_Mo_letters_129 : opAt m_Mo_letters 129 = sPush (.long (255)) 132 := rfl
theorem i_Mo_letters_132 : opAt m_Mo_letters 132 = sBL (fun x y => x &&& y) 133 := rfl
theorem i_Mo_letters_133 : opAt m_Mo_letters 133 = sLI 134 := rfl
theorem i_Mo_letters_134 : opAt m_Mo_letters 134 = sIas 135 := rfl
theorem i_Mo_letters_135 : opAt m_Mo_letters 135 = sAld 0 136 := rfl
theorem i_Mo_letters_136 : opAt m_Mo_letters 136 = sDup 137 := rfl
theorem i_Mo_letters_137 : opAt m_Mo_letters 137 = sGet [(11, 1)] 140 := rfl
theorem i_Mo_letters_140 : opAt m_Mo_letters 140 = sPush (.int (Int32.ofInt 1)) 141 := rfl
theorem i_Mo_letters_141 : opAt m_Mo_letters 141 = sBI (fun x y => x + y) 142 := rfl
theorem i_Mo_letters_142 : opAt m_Mo_letters 142 = sPut [(11, 1)] (.int) 145 := rfl
theorem i_Mo_letters_145 : opAt m_Mo_letters 145 = sInc 7 1 148 := rfl
theorem i_Mo_letters_148 : opAt m_Mo_letters 148 = sGo 108 := rfl
theorem i_Mo_letters_151 : opAt m_Mo_letters 151 = sAld 0 152 := rfl
theorem i_Mo_letters_152 : opAt m_Mo_letters 152 = sGet [(11, 1)] 155 := rfl
theorem i_Mo_letters_155 : opAt m_Mo_letters 155 = sIret .int := rfl
theorem i_Mo_blank_0 : opAt m_Mo_blank 0 = sAld 0 1 := rfl
theorem i_Mo_blank_1 : opAt m_Mo_blank 1 = sGet [(11, 1)] 4 := rfl
theorem i_Mo_blank_4 : opAt m_Mo_blank 4 = sIst 1 5 := rfl
theorem i_Mo_blank_5 : opAt m_Mo_blank 5 = sAld 0 6 := rfl
theorem i_Mo_blank_6 : opAt m_Mo_blank 6 = sPush (.int (Int32.ofInt 0)) 7 := rfl
theorem i_Mo_blank_7 : opAt m_Mo_blank 7 = sPut [(11, 1)] (.int) 10 := rfl
theorem i_Mo_blank_10 : opAt m_Mo_blank 10 = sIld 1 11 := rfl
theorem i_Mo_blank_11 : opAt m_Mo_blank 11 = sIret .int := rfl
theorem i_Mo_fault_0 : opAt m_Mo_fault 0 = sAld 0 1 := rfl
theorem i_Mo_fault_1 : opAt m_Mo_fault 1 = sVir [(11, m_Mo_faultOf)] 0 0 4 := rfl
theorem i_Mo_fault_4 : opAt m_Mo_fault 4 = sIret .int := rfl
theorem i_Mo_faultOf_0 : opAt m_Mo_faultOf 0 = sAld 0 1 := rfl
theorem i_Mo_faultOf_1 : opAt m_Mo_faultOf 1 = sPush (.int (Int32.ofInt 0)) 2 := rfl
theorem i_Mo_faultOf_2 : opAt m_Mo_faultOf 2 = sPut [(11, 2)] (.int) 5 := rfl
theorem i_Mo_faultOf_5 : opAt m_Mo_faultOf 5 = sAld 0 6 := rfl
theorem i_Mo_faultOf_6 : opAt m_Mo_faultOf 6 = sPush (.int (Int32.ofInt 0)) 7 := rfl
theorem i_Mo_faultOf_7 : opAt m_Mo_faultOf 7 = sPut [(11, 3)] (.int) 10 := rfl
theorem i_Mo_faultOf_10 : opAt m_Mo_faultOf 10 = sPush (.int (Int32.ofInt 0)) 11 := rfl
theorem i_Mo_faultOf_11 : opAt m_Mo_faultOf 11 = sIst 1 12 := rfl
theorem i_Mo_faultOf_12 : opAt m_Mo_faultOf 12 = sIld 1 13 := rfl
theorem i_Mo_faultOf_13 : opAt m_Mo_faultOf 13 = sAld 0 14 := rfl
theorem i_Mo_faultOf_14 : opAt m_Mo_faultOf 14 = sGet [(11, 1)] 17 := rfl
theorem i_Mo_faultOf_17 : opAt m_Mo_faultOf 17 = sCm .ge 39 20 := rfl
theorem i_Mo_faultOf_20 : opAt m_Mo_faultOf 20 = sAld 0 21 := rfl
theorem i_Mo_faultOf_21 : opAt m_Mo_faultOf 21 = sAld 0 22 := rfl
theorem i_Mo_faultOf_22 : opAt m_Mo_faultOf 22 = sGet [(11, 0)] 25 := rfl
theorem i_Mo_faultOf_25 : opAt m_Mo_faultOf 25 = sIld 1 26 := rfl
theorem i_Mo_faultOf_26 : opAt m_Mo_faultOf 26 = sIal 27 := rfl
theorem i_Mo_faultOf_27 : opAt m_Mo_faultOf 27 = sVir [(11, m_Mo_go)] 0 1 30 := rfl
theorem i_Mo_faultOf_30 : opAt m_Mo_faultOf 30 = sIf .eq 39 33 := rfl
theorem i_Mo_faultOf_33 : opAt m_Mo_faultOf 33 = sInc 1 1 36 := rfl
theorem i_Mo_faultOf_36 : opAt m_Mo_faultOf 36 = sGo 12 := rfl
theorem i_Mo_faultOf_39 : opAt m_Mo_faultOf 39 = sIld 1 40 := rfl
theorem i_Mo_faultOf_40 : opAt m_Mo_faultOf 40 = sIret .int := rfl
theorem i_Mo_go_0 : opAt m_Mo_go 0 = sPush (.int (Int32.ofInt 4)) 1 := rfl
theorem i_Mo_go_1 : opAt m_Mo_go 1 = sAld 0 2 := rfl
theorem i_Mo_go_2 : opAt m_Mo_go 2 = sGet [(11, 3)] 5 := rfl
theorem i_Mo_go_5 : opAt m_Mo_go 5 = sBI (fun x y => x * y) 6 := rfl
theorem i_Mo_go_6 : opAt m_Mo_go 6 = sIst 2 7 := rfl
theorem i_Mo_go_7 : opAt m_Mo_go 7 = sAld 0 8 := rfl
theorem i_Mo_go_8 : opAt m_Mo_go 8 = sGet [(11, 2)] 11 := rfl
theorem i_Mo_go_11 : opAt m_Mo_go 11 = sSw [(0, 44), (1, 116), (2, 201), (3, 207), (4, 245)] 273 := rfl
theorem i_Mo_go_44 : opAt m_Mo_go 44 = sAld 0 45 := rfl
theorem i_Mo_go_45 : opAt m_Mo_go 45 = sGet [(11, 8)] 48 := rfl
theorem i_Mo_go_48 : opAt m_Mo_go 48 = sIld 2 49 := rfl
theorem i_Mo_go_49 : opAt m_Mo_go 49 = sIld 1 50 := rfl
theorem i_Mo_go_50 : opAt m_Mo_go 50 = sPush (.int (Int8.ofInt 103).toInt32) 52 := rfl
theorem i_Mo_go_52 : opAt m_Mo_go 52 = sCm .ne 59 55 := rfl
theorem i_Mo_go_55 : opAt m_Mo_go 55 = sPush (.int (Int32.ofInt 1)) 56 := rfl
theorem i_Mo_go_56 : opAt m_Mo_go 56 = sGo 80 := rfl
theorem i_Mo_go_59 : opAt m_Mo_go 59 = sIld 1 60 := rfl
theorem i_Mo_go_60 : opAt m_Mo_go 60 = sPush (.int (Int8.ofInt 114).toInt32) 62 := rfl
theorem i_Mo_go_62 : opAt m_Mo_go 62 = sCm .ne 69 65 := rfl
theorem i_Mo_go_65 : opAt m_Mo_go 65 = sPush (.int (Int32.ofInt 2)) 66 := rfl
theorem i_Mo_go_66 : opAt m_Mo_go 66 = sGo 80 := rfl
theorem i_Mo_go_69 : opAt m_Mo_go 69 = sIld 1 70 := rfl
theorem i_Mo_go_70 : opAt m_Mo_go 70 = sPush (.int (Int8.ofInt 116).toInt32) 72 := rfl
theorem i_Mo_go_72 : opAt m_Mo_go 72 = sCm .ne 79 75 := rfl
theorem i_Mo_go_75 : opAt m_Mo_go 75 = sPush (.int (Int32.ofInt 3)) 76 := rfl
theorem i_Mo_go_76 : opAt m_Mo_go 76 = sGo 80 := rfl
theorem i_Mo_go_79 : opAt m_Mo_go 79 = sPush (.int (Int32.ofInt 4)) 80 := rfl
theorem i_Mo_go_80 : opAt m_Mo_go 80 = sIas 81 := rfl
theorem i_Mo_go_81 : opAt m_Mo_go 81 = sAld 0 82 := rfl
theorem i_Mo_go_82 : opAt m_Mo_go 82 = sPush (.int (Int32.ofInt 1)) 83 := rfl
theorem i_Mo_go_83 : opAt m_Mo_go 83 = sPut [(11, 2)] (.int) 86 := rfl
theorem i_Mo_go_86 : opAt m_Mo_go 86 = sIld 1 87 := rfl
theorem i_Mo_go_87 : opAt m_Mo_go 87 = sPush (.int (Int8.ofInt 103).toInt32) 89 := rfl
theorem i_Mo_go_89 : opAt m_Mo_go 89 = sCm .eq 110 92 := rfl
theorem i_Mo_go_92 : opAt m_Mo_go 92 = sIld 1 93 := rfl
theorem i_Mo_go_93 : opAt m_Mo_go 93 = sPush (.int (Int8.ofInt 114).toInt32) 95 := rfl
theorem i_Mo_go_95 : opAt m_Mo_go 95 = sCm .eq 110 98 := rfl
theorem i_Mo_go_98 : opAt m_Mo_go 98 = sIld 1 99 := rfl
theorem i_Mo_go_99 : opAt m_Mo_go 99 = sPush (.int (Int8.ofInt 116).toInt32) 101 := rfl
theorem i_Mo_go_101 : opAt m_Mo_go 101 = sCm .eq 110 104 := rfl
theorem i_Mo_go_104 : opAt m_Mo_go 104 = sIld 1 105 := rfl
theorem i_Mo_go_105 : opAt m_Mo_go 105 = sPush (.int (Int8.ofInt 119).toInt32) 107 := rfl
theorem i_Mo_go_107 : opAt m_Mo_go 107 = sCm .ne 114 110 := rfl
theorem i_Mo_go_110 : opAt m_Mo_go 110 = sPush (.int (Int32.ofInt 1)) 111 := rfl
theorem i_Mo_go_111 : opAt m_Mo_go 111 = sGo 115 := rfl
theorem i_Mo_go_114 : opAt m_Mo_go 114 = sPush (.int (Int32.ofInt 0)) 115 := rfl
theorem i_Mo_go_115 : opAt m_Mo_go 115 = sIret .boolean := rfl
theorem i_Mo_go_116 : opAt m_Mo_go 116 = sAld 0 117 := rfl
theorem i_Mo_go_117 : opAt m_Mo_go 117 = sGet [(11, 8)] 120 := rfl
theorem i_Mo_go_120 : opAt m_Mo_go 120 = sIld 2 121 := rfl
theorem i_Mo_go_121 : opAt m_Mo_go 121 = sPush (.int (Int32.ofInt 1)) 122 := rfl
theorem i_Mo_go_122 : opAt m_Mo_go 122 = sBI (fun x y => x + y) 123 := rfl
theorem i_Mo_go_123 : opAt m_Mo_go 123 = sIld 1 124 := rfl
theorem i_Mo_go_124 : opAt m_Mo_go 124 = sPush (.int (Int8.ofInt 48).toInt32) 126 := rfl
theorem i_Mo_go_126 : opAt m_Mo_go 126 = sBI (fun x y => x - y) 127 := rfl
theorem i_Mo_go_127 : opAt m_Mo_go 127 = sIas 128 := rfl
theorem i_Mo_go_128 : opAt m_Mo_go 128 = sAld 0 129 := rfl
theorem i_Mo_go_129 : opAt m_Mo_go 129 = sGet [(11, 8)] 132 := rfl
theorem i_Mo_go_132 : opAt m_Mo_go 132 = sIld 2 133 := rfl
theorem i_Mo_go_133 : opAt m_Mo_go 133 = sPush (.int (Int32.ofInt 2)) 134 := rfl
theorem i_Mo_go_134 : opAt m_Mo_go 134 = sBI (fun x y => x + y) 135 := rfl
theorem i_Mo_go_135 : opAt m_Mo_go 135 = sPush (.int (Int32.ofInt (-1))) 136 := rfl
theorem i_Mo_go_136 : opAt m_Mo_go 136 = sIas 137 := rfl
theorem i_Mo_go_137 : opAt m_Mo_go 137 = sAld 0 138 := rfl
theorem i_Mo_go_138 : opAt m_Mo_go 138 = sGet [(11, 8)] 141 := rfl
theorem i_Mo_go_141 : opAt m_Mo_go 141 = sIld 2 142 := rfl
theorem i_Mo_go_142 : opAt m_Mo_go 142 = sPush (.int (Int32.ofInt 3)) 143 := rfl
theorem i_Mo_go_143 : opAt m_Mo_go 143 = sBI (fun x y => x + y) 144 := rfl
theorem i_Mo_go_144 : opAt m_Mo_go 144 = sPush (.int (Int32.ofInt (-1))) 145 := rfl
theorem i_Mo_go_145 : opAt m_Mo_go 145 = sIas 146 := rfl
theorem i_Mo_go_146 : opAt m_Mo_go 146 = sAld 0 147 := rfl
theorem i_Mo_go_147 : opAt m_Mo_go 147 = sAld 0 148 := rfl
theorem i_Mo_go_148 : opAt m_Mo_go 148 = sGet [(11, 8)] 151 := rfl
theorem i_Mo_go_151 : opAt m_Mo_go 151 = sIld 2 152 := rfl
theorem i_Mo_go_152 : opAt m_Mo_go 152 = sIal 153 := rfl
theorem i_Mo_go_153 : opAt m_Mo_go 153 = sPush (.int (Int32.ofInt 1)) 154 := rfl
theorem i_Mo_go_154 : opAt m_Mo_go 154 = sCm .ne 161 157 := rfl
theorem i_Mo_go_157 : opAt m_Mo_go 157 = sPush (.int (Int32.ofInt 2)) 158 := rfl
theorem i_Mo_go_158 : opAt m_Mo_go 158 = sGo 162 := rfl
theorem i_Mo_go_161 : opAt m_Mo_go 161 = sPush (.int (Int32.ofInt 3)) 162 := rfl
theorem i_Mo_go_162 : opAt m_Mo_go 162 = sPut [(11, 2)] (.int) 165 := rfl
theorem i_Mo_go_165 : opAt m_Mo_go 165 = sAld 0 166 := rfl
theorem i_Mo_go_166 : opAt m_Mo_go 166 = sDup 167 := rfl
theorem i_Mo_go_167 : opAt m_Mo_go 167 = sGet [(11, 3)] 170 := rfl
theorem i_Mo_go_170 : opAt m_Mo_go 170 = sAld 0 171 := rfl
theorem i_Mo_go_171 : opAt m_Mo_go 171 = sGet [(11, 8)] 174 := rfl
theorem i_Mo_go_174 : opAt m_Mo_go 174 = sIld 2 175 := rfl
theorem i_Mo_go_175 : opAt m_Mo_go 175 = sIal 176 := rfl
theorem i_Mo_go_176 : opAt m_Mo_go 176 = sPush (.int (Int32.ofInt 1)) 177 := rfl
theorem i_Mo_go_177 : opAt m_Mo_go 177 = sCm .ne 184 180 := rfl
theorem i_Mo_go_180 : opAt m_Mo_go 180 = sPush (.int (Int32.ofInt 1)) 181 := rfl
theorem i_Mo_go_181 : opAt m_Mo_go 181 = sGo 185 := rfl
theorem i_Mo_go_184 : opAt m_Mo_go 184 = sPush (.int (Int32.ofInt 0)) 185 := rfl
theorem i_Mo_go_185 : opAt m_Mo_go 185 = sBI (fun x y => x + y) 186 := rfl
theorem i_Mo_go_186 : opAt m_Mo_go 186 = sPut [(11, 3)] (.int) 189 := rfl
theorem i_Mo_go_189 : opAt m_Mo_go 189 = sIld 1 190 := rfl
theorem i_Mo_go_190 : opAt m_Mo_go 190 = sIL 191 := rfl
theorem i_Mo_go_191 : opAt m_Mo_go 191 = sPush (.long (48)) 194 := rfl
theorem i_Mo_go_194 : opAt m_Mo_go 194 = sPush (.long (55)) 197 := rfl
theorem i_Mo_go_197 : opAt m_Mo_go 197 = sSta m_Mo_in 0 3 200 := rfl
theorem i_Mo_go_200 : opAt m_Mo_go 200 = sIret .boolean := rfl
theorem i_Mo_go_201 : opAt m_Mo_go 201 = sAld 0 202 := rfl
theorem i_Mo_go_202 : opAt m_Mo_go 202 = sIld 1 203 := rfl
theorem i_Mo_go_203 : opAt m_Mo_go 203 = sVir [(11, m_Mo_endPart)] 0 1 206 := rfl
theorem i_Mo_go_206 : opAt m_Mo_go 206 = sIret .boolean := rfl
theorem i_Mo_go_207 : opAt m_Mo_go 207 = sAld 0 208 := rfl
theorem i_Mo_go_208 : opAt m_Mo_go 208 = sAld 0 209 := rfl
theorem i_Mo_go_209 : opAt m_Mo_go 209 = sGet [(11, 8)] 212 := rfl
theorem i_Mo_go_212 : opAt m_Mo_go 212 = sIld 2 213 := rfl
theorem i_Mo_go_213 : opAt m_Mo_go 213 = sIal 214 := rfl
theorem i_Mo_go_214 : opAt m_Mo_go 214 = sPush (.int (Int32.ofInt 4)) 215 := rfl
theorem i_Mo_go_215 : opAt m_Mo_go 215 = sCm .ne 222 218 := rfl
theorem i_Mo_go_218 : opAt m_Mo_go 218 = sPush (.int (Int32.ofInt 1)) 219 := rfl
theorem i_Mo_go_219 : opAt m_Mo_go 219 = sGo 223 := rfl
theorem i_Mo_go_222 : opAt m_Mo_go 222 = sPush (.int (Int32.ofInt 2)) 223 := rfl
theorem i_Mo_go_223 : opAt m_Mo_go 223 = sPush (.int (Int8.ofInt 19).toInt32) 225 := rfl
theorem i_Mo_go_225 : opAt m_Mo_go 225 = sVir [(11, m_Mo_number)] 0 2 228 := rfl
theorem i_Mo_go_228 : opAt m_Mo_go 228 = sAld 0 229 := rfl
theorem i_Mo_go_229 : opAt m_Mo_go 229 = sPush (.int (Int32.ofInt 4)) 230 := rfl
theorem i_Mo_go_230 : opAt m_Mo_go 230 = sPut [(11, 2)] (.int) 233 := rfl
theorem i_Mo_go_233 : opAt m_Mo_go 233 = sIld 1 234 := rfl
theorem i_Mo_go_234 : opAt m_Mo_go 234 = sPush (.int (Int8.ofInt 111).toInt32) 236 := rfl
theorem i_Mo_go_236 : opAt m_Mo_go 236 = sCm .ne 243 239 := rfl
theorem i_Mo_go_239 : opAt m_Mo_go 239 = sPush (.int (Int32.ofInt 1)) 240 := rfl
theorem i_Mo_go_240 : opAt m_Mo_go 240 = sGo 244 := rfl
theorem i_Mo_go_243 : opAt m_Mo_go 243 = sPush (.int (Int32.ofInt 0)) 244 := rfl
theorem i_Mo_go_244 : opAt m_Mo_go 244 = sIret .boolean := rfl
theorem i_Mo_go_245 : opAt m_Mo_go 245 = sIld 1 246 := rfl
theorem i_Mo_go_246 : opAt m_Mo_go 246 = sIL 247 := rfl
theorem i_Mo_go_247 : opAt m_Mo_go 247 = sPush (.long (48)) 250 := rfl
theorem i_Mo_go_250 : opAt m_Mo_go 250 = sPush (.long (57)) 253 := rfl
theorem i_Mo_go_253 : opAt m_Mo_go 253 = sSta m_Mo_in 0 3 256 := rfl
theorem i_Mo_go_256 : opAt m_Mo_go 256 = sIf .eq 267 259 := rfl
theorem i_Mo_go_259 : opAt m_Mo_go 259 = sAld 0 260 := rfl
theorem i_Mo_go_260 : opAt m_Mo_go 260 = sIld 1 261 := rfl
theorem i_Mo_go_261 : opAt m_Mo_go 261 = sVir [(11, m_Mo_goDigit)] 0 1 264 := rfl
theorem i_Mo_go_264 : opAt m_Mo_go 264 = sGo 272 := rfl
theorem i_Mo_go_267 : opAt m_Mo_go 267 = sAld 0 268 := rfl
theorem i_Mo_go_268 : opAt m_Mo_go 268 = sIld 1 269 := rfl
theorem i_Mo_go_269 : opAt m_Mo_go 269 = sVir [(11, m_Mo_goSecond)] 0 1 272 := rfl
theorem i_Mo_go_272 : opAt m_Mo_go 272 = sIret .boolean := rfl
theorem i_Mo_go_273 : opAt m_Mo_go 273 = sIld 1 274 := rfl
theorem i_Mo_go_274 : opAt m_Mo_go 274 = sIL 275 := rfl
theorem i_Mo_go_275 : opAt m_Mo_go 275 = sPush (.long (48)) 278 := rfl
theorem i_Mo_go_278 : opAt m_Mo_go 278 = sPush (.long (57)) 281 := rfl
theorem i_Mo_go_281 : opAt m_Mo_go 281 = sSta m_Mo_in 0 3 284 := rfl
theorem i_Mo_go_284 : opAt m_Mo_go 284 = sIf .eq 295 287 := rfl
theorem i_Mo_go_287 : opAt m_Mo_go 287 = sAld 0 288 := rfl
theorem i_Mo_go_288 : opAt m_Mo_go 288 = sIld 1 289 := rfl
theorem i_Mo_go_289 : opAt m_Mo_go 289 = sVir [(11, m_Mo_goDigit)] 0 1 292 := rfl
theorem i_Mo_go_292 : opAt m_Mo_go 292 = sGo 300 := rfl
theorem i_Mo_go_295 : opAt m_Mo_go 295 = sAld 0 296 := rfl
theorem i_Mo_go_296 : opAt m_Mo_go 296 = sIld 1 297 := rfl
theorem i_Mo_go_297 : opAt m_Mo_go 297 = sVir [(11, m_Mo_goEnd)] 0 1 300 := rfl
theorem i_Mo_go_300 : opAt m_Mo_go 300 = sIret .boolean := rfl
theorem i_Mo_in_0 : opAt m_Mo_in 0 = sLld 0 1 := rfl
theorem i_Mo_in_1 : opAt m_Mo_in 1 = sLld 2 2 := rfl
theorem i_Mo_in_2 : opAt m_Mo_in 2 = sCmp 3 := rfl
theorem i_Mo_in_3 : opAt m_Mo_in 3 = sIf .lt 17 6 := rfl
theorem i_Mo_in_6 : opAt m_Mo_in 6 = sLld 0 7 := rfl
theorem i_Mo_in_7 : opAt m_Mo_in 7 = sLld 4 9 := rfl
theorem i_Mo_in_9 : opAt m_Mo_in 9 = sCmp 10 := rfl
theorem i_Mo_in_10 : opAt m_Mo_in 10 = sIf .gt 17 13 := rfl
theorem i_Mo_in_13 : opAt m_Mo_in 13 = sPush (.int (Int32.ofInt 1)) 14 := rfl
theorem i_Mo_in_14 : opAt m_Mo_in 14 = sGo 18 := rfl
theorem i_Mo_in_17 : opAt m_Mo_in 17 = sPush (.int (Int32.ofInt 0)) 18 := rfl
theorem i_Mo_in_18 : opAt m_Mo_in 18 = sIret .boolean := rfl
theorem i_Mo_endPart_0 : opAt m_Mo_endPart 0 = sAld 0 1 := rfl
theorem i_Mo_endPart_1 : opAt m_Mo_endPart 1 = sPush (.int (Int32.ofInt 0)) 2 := rfl
theorem i_Mo_endPart_2 : opAt m_Mo_endPart 2 = sPut [(11, 2)] (.int) 5 := rfl
theorem i_Mo_endPart_5 : opAt m_Mo_endPart 5 = sIld 1 6 := rfl
theorem i_Mo_endPart_6 : opAt m_Mo_endPart 6 = sPush (.int (Int8.ofInt 44).toInt32) 8 := rfl
theorem i_Mo_endPart_8 : opAt m_Mo_endPart 8 = sCm .ne 23 11 := rfl
theorem i_Mo_endPart_11 : opAt m_Mo_endPart 11 = sAld 0 12 := rfl
theorem i_Mo_endPart_12 : opAt m_Mo_endPart 12 = sGet [(11, 3)] 15 := rfl
theorem i_Mo_endPart_15 : opAt m_Mo_endPart 15 = sPush (.int (Int32.ofInt 4)) 16 := rfl
theorem i_Mo_endPart_16 : opAt m_Mo_endPart 16 = sCm .ge 23 19 := rfl
theorem i_Mo_endPart_19 : opAt m_Mo_endPart 19 = sPush (.int (Int32.ofInt 1)) 20 := rfl
theorem i_Mo_endPart_20 : opAt m_Mo_endPart 20 = sGo 24 := rfl
theorem i_Mo_endPart_23 : opAt m_Mo_endPart 23 = sPush (.int (Int32.ofInt 0)) 24 := rfl
theorem i_Mo_endPart_24 : opAt m_Mo_endPart 24 = sIret .boolean := rfl
theorem i_Mo_number_0 : opAt m_Mo_number 0 = sAld 0 1 := rfl
theorem i_Mo_number_1 : opAt m_Mo_number 1 = sPush (.int (Int32.ofInt 0)) 2 := rfl
theorem i_Mo_number_2 : opAt m_Mo_number 2 = sPut [(11, 4)] (.int) 5 := rfl
theorem i_Mo_number_5 : opAt m_Mo_number 5 = sAld 0 6 := rfl
theorem i_Mo_number_6 : opAt m_Mo_number 6 = sPush (.int (Int32.ofInt 0)) 7 := rfl
theorem i_Mo_number_7 : opAt m_Mo_number 7 = sPut [(11, 5)] (.int) 10 := rfl
theorem i_Mo_number_10 : opAt m_Mo_number 10 = sAld 0 11 := rfl
theorem i_Mo_number_11 : opAt m_Mo_number 11 = sIld 1 12 := rfl
theorem i_Mo_number_12 : opAt m_Mo_number 12 = sPut [(11, 6)] (.int) 15 := rfl
theorem i_Mo_number_15 : opAt m_Mo_number 15 = sAld 0 16 := rfl
theorem i_Mo_number_16 : opAt m_Mo_number 16 = sIld 2 17 := rfl
theorem i_Mo_number_17 : opAt m_Mo_number 17 = sPut [(11, 7)] (.int) 20 := rfl
theorem i_Mo_number_20 : opAt m_Mo_number 20 = sVret := rfl
theorem i_Mo_goDigit_0 : opAt m_Mo_goDigit 0 = sPush (.int (Int8.ofInt 10).toInt32) 2 := rfl
theorem i_Mo_goDigit_2 : opAt m_Mo_goDigit 2 = sAld 0 3 := rfl
theorem i_Mo_goDigit_3 : opAt m_Mo_goDigit 3 = sGet [(11, 5)] 6 := rfl
theorem i_Mo_goDigit_6 : opAt m_Mo_goDigit 6 = sBI (fun x y => x * y) 7 := rfl
theorem i_Mo_goDigit_7 : opAt m_Mo_goDigit 7 = sIld 1 8 := rfl
theorem i_Mo_goDigit_8 : opAt m_Mo_goDigit 8 = sBI (fun x y => x + y) 9 := rfl
theorem i_Mo_goDigit_9 : opAt m_Mo_goDigit 9 = sPush (.int (Int8.ofInt 48).toInt32) 11 := rfl
theorem i_Mo_goDigit_11 : opAt m_Mo_goDigit 11 = sBI (fun x y => x - y) 12 := rfl
theorem i_Mo_goDigit_12 : opAt m_Mo_goDigit 12 = sIst 2 13 := rfl
theorem i_Mo_goDigit_13 : opAt m_Mo_goDigit 13 = sIld 1 14 := rfl
theorem i_Mo_goDigit_14 : opAt m_Mo_goDigit 14 = sIL 15 := rfl
theorem i_Mo_goDigit_15 : opAt m_Mo_goDigit 15 = sPush (.long (48)) 18 := rfl
theorem i_Mo_goDigit_18 : opAt m_Mo_goDigit 18 = sPush (.long (57)) 21 := rfl
theorem i_Mo_goDigit_21 : opAt m_Mo_goDigit 21 = sSta m_Mo_in 0 3 24 := rfl
theorem i_Mo_goDigit_24 : opAt m_Mo_goDigit 24 = sIf .eq 53 27 := rfl
theorem i_Mo_goDigit_27 : opAt m_Mo_goDigit 27 = sAld 0 28 := rfl
theorem i_Mo_goDigit_28 : opAt m_Mo_goDigit 28 = sGet [(11, 4)] 31 := rfl
theorem i_Mo_goDigit_31 : opAt m_Mo_goDigit 31 = sPush (.int (Int32.ofInt 2)) 32 := rfl
theorem i_Mo_goDigit_32 : opAt m_Mo_goDigit 32 = sCm .ge 53 35 := rfl
theorem i_Mo_goDigit_35 : opAt m_Mo_goDigit 35 = sAld 0 36 := rfl
theorem i_Mo_goDigit_36 : opAt m_Mo_goDigit 36 = sGet [(11, 4)] 39 := rfl
theorem i_Mo_goDigit_39 : opAt m_Mo_goDigit 39 = sIf .eq 49 42 := rfl
theorem i_Mo_goDigit_42 : opAt m_Mo_goDigit 42 = sAld 0 43 := rfl
theorem i_Mo_goDigit_43 : opAt m_Mo_goDigit 43 = sGet [(11, 5)] 46 := rfl
theorem i_Mo_goDigit_46 : opAt m_Mo_goDigit 46 = sIf .le 53 49 := rfl
theorem i_Mo_goDigit_49 : opAt m_Mo_goDigit 49 = sPush (.int (Int32.ofInt 1)) 50 := rfl
theorem i_Mo_goDigit_50 : opAt m_Mo_goDigit 50 = sGo 54 := rfl
theorem i_Mo_goDigit_53 : opAt m_Mo_goDigit 53 = sPush (.int (Int32.ofInt 0)) 54 := rfl
theorem i_Mo_goDigit_54 : opAt m_Mo_goDigit 54 = sIst 3 55 := rfl
theorem i_Mo_goDigit_55 : opAt m_Mo_goDigit 55 = sIld 2 56 := rfl
theorem i_Mo_goDigit_56 : opAt m_Mo_goDigit 56 = sIL 57 := rfl
theorem i_Mo_goDigit_57 : opAt m_Mo_goDigit 57 = sAld 0 58 := rfl
theorem i_Mo_goDigit_58 : opAt m_Mo_goDigit 58 = sGet [(11, 6)] 61 := rfl
theorem i_Mo_goDigit_61 : opAt m_Mo_goDigit 61 = sIL 62 := rfl
theorem i_Mo_goDigit_62 : opAt m_Mo_goDigit 62 = sAld 0 63 := rfl
theorem i_Mo_goDigit_63 : opAt m_Mo_goDigit 63 = sGet [(11, 7)] 66 := rfl
theorem i_Mo_goDigit_66 : opAt m_Mo_goDigit 66 = sIL 67 := rfl
theorem i_Mo_goDigit_67 : opAt m_Mo_goDigit 67 = sSta m_Mo_in 0 3 70 := rfl
theorem i_Mo_goDigit_70 : opAt m_Mo_goDigit 70 = sIf .ne 109 73 := rfl
theorem i_Mo_goDigit_73 : opAt m_Mo_goDigit 73 = sAld 0 74 := rfl
theorem i_Mo_goDigit_74 : opAt m_Mo_goDigit 74 = sGet [(11, 4)] 77 := rfl
theorem i_Mo_goDigit_77 : opAt m_Mo_goDigit 77 = sIf .ne 113 80 := rfl
theorem i_Mo_goDigit_80 : opAt m_Mo_goDigit 80 = sIld 2 81 := rfl
theorem i_Mo_goDigit_81 : opAt m_Mo_goDigit 81 = sIf .le 113 84 := rfl
theorem i_Mo_goDigit_84 : opAt m_Mo_goDigit 84 = sPush (.int (Int8.ofInt 10).toInt32) 86 := rfl
theorem i_Mo_goDigit_86 : opAt m_Mo_goDigit 86 = sIld 2 87 := rfl
theorem i_Mo_goDigit_87 : opAt m_Mo_goDigit 87 = sBI (fun x y => x * y) 88 := rfl
theorem i_Mo_goDigit_88 : opAt m_Mo_goDigit 88 = sAld 0 89 := rfl
theorem i_Mo_goDigit_89 : opAt m_Mo_goDigit 89 = sGet [(11, 7)] 92 := rfl
theorem i_Mo_goDigit_92 : opAt m_Mo_goDigit 92 = sCm .gt 113 95 := rfl
theorem i_Mo_goDigit_95 : opAt m_Mo_goDigit 95 = sPush (.int (Int8.ofInt 10).toInt32) 97 := rfl
theorem i_Mo_goDigit_97 : opAt m_Mo_goDigit 97 = sIld 2 98 := rfl
theorem i_Mo_goDigit_98 : opAt m_Mo_goDigit 98 = sBI (fun x y => x * y) 99 := rfl
theorem i_Mo_goDigit_99 : opAt m_Mo_goDigit 99 = sPush (.int (Int8.ofInt 9).toInt32) 101 := rfl
theorem i_Mo_goDigit_101 : opAt m_Mo_goDigit 101 = sBI (fun x y => x + y) 102 := rfl
theorem i_Mo_goDigit_102 : opAt m_Mo_goDigit 102 = sAld 0 103 := rfl
theorem i_Mo_goDigit_103 : opAt m_Mo_goDigit 103 = sGet [(11, 6)] 106 := rfl
theorem i_Mo_goDigit_106 : opAt m_Mo_goDigit 106 = sCm .lt 113 109 := rfl
theorem i_Mo_goDigit_109 : opAt m_Mo_goDigit 109 = sPush (.int (Int32.ofInt 1)) 110 := rfl
theorem i_Mo_goDigit_110 : opAt m_Mo_goDigit 110 = sGo 114 := rfl
theorem i_Mo_goDigit_113 : opAt m_Mo_goDigit 113 = sPush (.int (Int32.ofInt 0)) 114 := rfl
theorem i_Mo_goDigit_114 : opAt m_Mo_goDigit 114 = sIst 4 116 := rfl
theorem i_Mo_goDigit_116 : opAt m_Mo_goDigit 116 = sAld 0 117 := rfl
theorem i_Mo_goDigit_117 : opAt m_Mo_goDigit 117 = sIld 2 118 := rfl
theorem i_Mo_goDigit_118 : opAt m_Mo_goDigit 118 = sPut [(11, 5)] (.int) 121 := rfl
theorem i_Mo_goDigit_121 : opAt m_Mo_goDigit 121 = sAld 0 122 := rfl
theorem i_Mo_goDigit_122 : opAt m_Mo_goDigit 122 = sDup 123 := rfl
theorem i_Mo_goDigit_123 : opAt m_Mo_goDigit 123 = sGet [(11, 4)] 126 := rfl
theorem i_Mo_goDigit_126 : opAt m_Mo_goDigit 126 = sPush (.int (Int32.ofInt 1)) 127 := rfl
theorem i_Mo_goDigit_127 : opAt m_Mo_goDigit 127 = sBI (fun x y => x + y) 128 := rfl
theorem i_Mo_goDigit_128 : opAt m_Mo_goDigit 128 = sPut [(11, 4)] (.int) 131 := rfl
theorem i_Mo_goDigit_131 : opAt m_Mo_goDigit 131 = sIld 3 132 := rfl
theorem i_Mo_goDigit_132 : opAt m_Mo_goDigit 132 = sIf .eq 144 135 := rfl
theorem i_Mo_goDigit_135 : opAt m_Mo_goDigit 135 = sIld 4 137 := rfl
theorem i_Mo_goDigit_137 : opAt m_Mo_goDigit 137 = sIf .eq 144 140 := rfl
theorem i_Mo_goDigit_140 : opAt m_Mo_goDigit 140 = sPush (.int (Int32.ofInt 1)) 141 := rfl
theorem i_Mo_goDigit_141 : opAt m_Mo_goDigit 141 = sGo 145 := rfl
theorem i_Mo_goDigit_144 : opAt m_Mo_goDigit 144 = sPush (.int (Int32.ofInt 0)) 145 := rfl
theorem i_Mo_goDigit_145 : opAt m_Mo_goDigit 145 = sIret .boolean := rfl
theorem i_Mo_goSecond_0 : opAt m_Mo_goSecond 0 = sIld 1 1 := rfl
theorem i_Mo_goSecond_1 : opAt m_Mo_goSecond 1 = sPush (.int (Int8.ofInt 112).toInt32) 3 := rfl
theorem i_Mo_goSecond_3 : opAt m_Mo_goSecond 3 = sCm .ne 17 6 := rfl
theorem i_Mo_goSecond_6 : opAt m_Mo_goSecond 6 = sAld 0 7 := rfl
theorem i_Mo_goSecond_7 : opAt m_Mo_goSecond 7 = sVir [(11, m_Mo_isNumber)] 0 0 10 := rfl
theorem i_Mo_goSecond_10 : opAt m_Mo_goSecond 10 = sIf .eq 17 13 := rfl
theorem i_Mo_goSecond_13 : opAt m_Mo_goSecond 13 = sPush (.int (Int32.ofInt 1)) 14 := rfl
theorem i_Mo_goSecond_14 : opAt m_Mo_goSecond 14 = sGo 18 := rfl
theorem i_Mo_goSecond_17 : opAt m_Mo_goSecond 17 = sPush (.int (Int32.ofInt 0)) 18 := rfl
theorem i_Mo_goSecond_18 : opAt m_Mo_goSecond 18 = sIst 2 19 := rfl
theorem i_Mo_goSecond_19 : opAt m_Mo_goSecond 19 = sPush (.int (Int32.ofInt 4)) 20 := rfl
theorem i_Mo_goSecond_20 : opAt m_Mo_goSecond 20 = sAld 0 21 := rfl
theorem i_Mo_goSecond_21 : opAt m_Mo_goSecond 21 = sGet [(11, 3)] 24 := rfl
theorem i_Mo_goSecond_24 : opAt m_Mo_goSecond 24 = sBI (fun x y => x * y) 25 := rfl
theorem i_Mo_goSecond_25 : opAt m_Mo_goSecond 25 = sIst 3 26 := rfl
theorem i_Mo_goSecond_26 : opAt m_Mo_goSecond 26 = sAld 0 27 := rfl
theorem i_Mo_goSecond_27 : opAt m_Mo_goSecond 27 = sGet [(11, 8)] 30 := rfl
theorem i_Mo_goSecond_30 : opAt m_Mo_goSecond 30 = sIld 3 31 := rfl
theorem i_Mo_goSecond_31 : opAt m_Mo_goSecond 31 = sPush (.int (Int32.ofInt 2)) 32 := rfl
theorem i_Mo_goSecond_32 : opAt m_Mo_goSecond 32 = sBI (fun x y => x + y) 33 := rfl
theorem i_Mo_goSecond_33 : opAt m_Mo_goSecond 33 = sAld 0 34 := rfl
theorem i_Mo_goSecond_34 : opAt m_Mo_goSecond 34 = sGet [(11, 5)] 37 := rfl
theorem i_Mo_goSecond_37 : opAt m_Mo_goSecond 37 = sIas 38 := rfl
theorem i_Mo_goSecond_38 : opAt m_Mo_goSecond 38 = sAld 0 39 := rfl
theorem i_Mo_goSecond_39 : opAt m_Mo_goSecond 39 = sPush (.int (Int32.ofInt 0)) 40 := rfl
theorem i_Mo_goSecond_40 : opAt m_Mo_goSecond 40 = sAld 0 41 := rfl
theorem i_Mo_goSecond_41 : opAt m_Mo_goSecond 41 = sGet [(11, 8)] 44 := rfl
theorem i_Mo_goSecond_44 : opAt m_Mo_goSecond 44 = sIld 3 45 := rfl
theorem i_Mo_goSecond_45 : opAt m_Mo_goSecond 45 = sIal 46 := rfl
theorem i_Mo_goSecond_46 : opAt m_Mo_goSecond 46 = sPush (.int (Int32.ofInt 4)) 47 := rfl
theorem i_Mo_goSecond_47 : opAt m_Mo_goSecond 47 = sCm .ne 55 50 := rfl
theorem i_Mo_goSecond_50 : opAt m_Mo_goSecond 50 = sPush (.int (Int8.ofInt 9).toInt32) 52 := rfl
theorem i_Mo_goSecond_52 : opAt m_Mo_goSecond 52 = sGo 61 := rfl
theorem i_Mo_goSecond_55 : opAt m_Mo_goSecond 55 = sAld 0 56 := rfl
theorem i_Mo_goSecond_56 : opAt m_Mo_goSecond 56 = sGet [(11, 5)] 59 := rfl
theorem i_Mo_goSecond_59 : opAt m_Mo_goSecond 59 = sPush (.int (Int32.ofInt 1)) 60 := rfl
theorem i_Mo_goSecond_60 : opAt m_Mo_goSecond 60 = sBI (fun x y => x - y) 61 := rfl
theorem i_Mo_goSecond_61 : opAt m_Mo_goSecond 61 = sVir [(11, m_Mo_number)] 0 2 64 := rfl
theorem i_Mo_goSecond_64 : opAt m_Mo_goSecond 64 = sAld 0 65 := rfl
theorem i_Mo_goSecond_65 : opAt m_Mo_goSecond 65 = sPush (.int (Int32.ofInt 5)) 66 := rfl
theorem i_Mo_goSecond_66 : opAt m_Mo_goSecond 66 = sPut [(11, 2)] (.int) 69 := rfl
theorem i_Mo_goSecond_69 : opAt m_Mo_goSecond 69 = sIld 2 70 := rfl
theorem i_Mo_goSecond_70 : opAt m_Mo_goSecond 70 = sIret .boolean := rfl
theorem i_Mo_isNumber_0 : opAt m_Mo_isNumber 0 = sAld 0 1 := rfl
theorem i_Mo_isNumber_1 : opAt m_Mo_isNumber 1 = sGet [(11, 4)] 4 := rfl
theorem i_Mo_isNumber_4 : opAt m_Mo_isNumber 4 = sIf .le 32 7 := rfl
theorem i_Mo_isNumber_7 : opAt m_Mo_isNumber 7 = sAld 0 8 := rfl
theorem i_Mo_isNumber_8 : opAt m_Mo_isNumber 8 = sGet [(11, 5)] 11 := rfl
theorem i_Mo_isNumber_11 : opAt m_Mo_isNumber 11 = sIL 12 := rfl
theorem i_Mo_isNumber_12 : opAt m_Mo_isNumber 12 = sAld 0 13 := rfl
theorem i_Mo_isNumber_13 : opAt m_Mo_isNumber 13 = sGet [(11, 6)] 16 := rfl
theorem i_Mo_isNumber_16 : opAt m_Mo_isNumber 16 = sIL 17 := rfl
theorem i_Mo_isNumber_17 : opAt m_Mo_isNumber 17 = sAld 0 18 := rfl
theorem i_Mo_isNumber_18 : opAt m_Mo_isNumber 18 = sGet [(11, 7)] 21 := rfl
theorem i_Mo_isNumber_21 : opAt m_Mo_isNumber 21 = sIL 22 := rfl
theorem i_Mo_isNumber_22 : opAt m_Mo_isNumber 22 = sSta m_Mo_in 0 3 25 := rfl
theorem i_Mo_isNumber_25 : opAt m_Mo_isNumber 25 = sIf .eq 32 28 := rfl
theorem i_Mo_isNumber_28 : opAt m_Mo_isNumber 28 = sPush (.int (Int32.ofInt 1)) 29 := rfl
theorem i_Mo_isNumber_29 : opAt m_Mo_isNumber 29 = sGo 33 := rfl
theorem i_Mo_isNumber_32 : opAt m_Mo_isNumber 32 = sPush (.int (Int32.ofInt 0)) 33 := rfl
theorem i_Mo_isNumber_33 : opAt m_Mo_isNumber 33 = sIret .boolean := rfl
theorem i_Mo_goEnd_0 : opAt m_Mo_goEnd 0 = sAld 0 1 := rfl
theorem i_Mo_goEnd_1 : opAt m_Mo_goEnd 1 = sVir [(11, m_Mo_isNumber)] 0 0 4 := rfl
theorem i_Mo_goEnd_4 : opAt m_Mo_goEnd 4 = sIst 2 5 := rfl
theorem i_Mo_goEnd_5 : opAt m_Mo_goEnd 5 = sAld 0 6 := rfl
theorem i_Mo_goEnd_6 : opAt m_Mo_goEnd 6 = sGet [(11, 8)] 9 := rfl
theorem i_Mo_goEnd_9 : opAt m_Mo_goEnd 9 = sPush (.int (Int32.ofInt 4)) 10 := rfl
theorem i_Mo_goEnd_10 : opAt m_Mo_goEnd 10 = sAld 0 11 := rfl
theorem i_Mo_goEnd_11 : opAt m_Mo_goEnd 11 = sGet [(11, 3)] 14 := rfl
theorem i_Mo_goEnd_14 : opAt m_Mo_goEnd 14 = sBI (fun x y => x * y) 15 := rfl
theorem i_Mo_goEnd_15 : opAt m_Mo_goEnd 15 = sPush (.int (Int32.ofInt 3)) 16 := rfl
theorem i_Mo_goEnd_16 : opAt m_Mo_goEnd 16 = sBI (fun x y => x + y) 17 := rfl
theorem i_Mo_goEnd_17 : opAt m_Mo_goEnd 17 = sAld 0 18 := rfl
theorem i_Mo_goEnd_18 : opAt m_Mo_goEnd 18 = sGet [(11, 5)] 21 := rfl
theorem i_Mo_goEnd_21 : opAt m_Mo_goEnd 21 = sIas 22 := rfl
theorem i_Mo_goEnd_22 : opAt m_Mo_goEnd 22 = sAld 0 23 := rfl
theorem i_Mo_goEnd_23 : opAt m_Mo_goEnd 23 = sDup 24 := rfl
theorem i_Mo_goEnd_24 : opAt m_Mo_goEnd 24 = sGet [(11, 3)] 27 := rfl
theorem i_Mo_goEnd_27 : opAt m_Mo_goEnd 27 = sPush (.int (Int32.ofInt 1)) 28 := rfl
theorem i_Mo_goEnd_28 : opAt m_Mo_goEnd 28 = sBI (fun x y => x + y) 29 := rfl
theorem i_Mo_goEnd_29 : opAt m_Mo_goEnd 29 = sPut [(11, 3)] (.int) 32 := rfl
theorem i_Mo_goEnd_32 : opAt m_Mo_goEnd 32 = sAld 0 33 := rfl
theorem i_Mo_goEnd_33 : opAt m_Mo_goEnd 33 = sIld 1 34 := rfl
theorem i_Mo_goEnd_34 : opAt m_Mo_goEnd 34 = sVir [(11, m_Mo_endPart)] 0 1 37 := rfl
theorem i_Mo_goEnd_37 : opAt m_Mo_goEnd 37 = sIf .eq 48 40 := rfl
theorem i_Mo_goEnd_40 : opAt m_Mo_goEnd 40 = sIld 2 41 := rfl
theorem i_Mo_goEnd_41 : opAt m_Mo_goEnd 41 = sIf .eq 48 44 := rfl
theorem i_Mo_goEnd_44 : opAt m_Mo_goEnd 44 = sPush (.int (Int32.ofInt 1)) 45 := rfl
theorem i_Mo_goEnd_45 : opAt m_Mo_goEnd 45 = sGo 49 := rfl
theorem i_Mo_goEnd_48 : opAt m_Mo_goEnd 48 = sPush (.int (Int32.ofInt 0)) 49 := rfl
theorem i_Mo_goEnd_49 : opAt m_Mo_goEnd 49 = sIret .boolean := rfl
theorem i_Mo_machine_0 : opAt m_Mo_machine 0 = sAld 0 1 := rfl
theorem i_Mo_machine_1 : opAt m_Mo_machine 1 = sVir [(11, m_Mo_faultOf)] 0 0 4 := rfl
theorem i_Mo_machine_4 : opAt m_Mo_machine 4 = sAld 0 5 := rfl
theorem i_Mo_machine_5 : opAt m_Mo_machine 5 = sGet [(11, 1)] 8 := rfl
theorem i_Mo_machine_8 : opAt m_Mo_machine 8 = sCm .ne 38 11 := rfl
theorem i_Mo_machine_11 : opAt m_Mo_machine 11 = sAld 0 12 := rfl
theorem i_Mo_machine_12 : opAt m_Mo_machine 12 = sGet [(11, 2)] 15 := rfl
theorem i_Mo_machine_15 : opAt m_Mo_machine 15 = sPush (.int (Int32.ofInt 2)) 16 := rfl
theorem i_Mo_machine_16 : opAt m_Mo_machine 16 = sCm .eq 34 19 := rfl
theorem i_Mo_machine_19 : opAt m_Mo_machine 19 = sAld 0 20 := rfl
theorem i_Mo_machine_20 : opAt m_Mo_machine 20 = sGet [(11, 2)] 23 := rfl
theorem i_Mo_machine_23 : opAt m_Mo_machine 23 = sPush (.int (Int32.ofInt 5)) 24 := rfl
theorem i_Mo_machine_24 : opAt m_Mo_machine 24 = sCm .ne 38 27 := rfl
theorem i_Mo_machine_27 : opAt m_Mo_machine 27 = sAld 0 28 := rfl
theorem i_Mo_machine_28 : opAt m_Mo_machine 28 = sVir [(11, m_Mo_isNumber)] 0 0 31 := rfl
theorem i_Mo_machine_31 : opAt m_Mo_machine 31 = sIf .eq 38 34 := rfl
theorem i_Mo_machine_34 : opAt m_Mo_machine 34 = sPush (.int (Int32.ofInt 1)) 35 := rfl
theorem i_Mo_machine_35 : opAt m_Mo_machine 35 = sGo 39 := rfl
theorem i_Mo_machine_38 : opAt m_Mo_machine 38 = sPush (.int (Int32.ofInt 0)) 39 := rfl
theorem i_Mo_machine_39 : opAt m_Mo_machine 39 = sIst 1 40 := rfl
theorem i_Mo_machine_40 : opAt m_Mo_machine 40 = sIld 1 41 := rfl
theorem i_Mo_machine_41 : opAt m_Mo_machine 41 = sIf .ne 47 44 := rfl
theorem i_Mo_machine_44 : opAt m_Mo_machine 44 = sPush (.int (Int8.ofInt (-103)).toInt32) 46 := rfl
theorem i_Mo_machine_46 : opAt m_Mo_machine 46 = sIret .int := rfl
theorem i_Mo_machine_47 : opAt m_Mo_machine 47 = sAld 0 48 := rfl
theorem i_Mo_machine_48 : opAt m_Mo_machine 48 = sGet [(11, 9)] 51 := rfl
theorem i_Mo_machine_51 : opAt m_Mo_machine 51 = sPush (.int (Int8.ofInt 6).toInt32) 53 := rfl
theorem i_Mo_machine_53 : opAt m_Mo_machine 53 = sCm .ne 59 56 := rfl
theorem i_Mo_machine_56 : opAt m_Mo_machine 56 = sPush (.int (Int8.ofInt (-104)).toInt32) 58 := rfl
theorem i_Mo_machine_58 : opAt m_Mo_machine 58 = sIret .int := rfl
theorem i_Mo_machine_59 : opAt m_Mo_machine 59 = sAld 0 60 := rfl
theorem i_Mo_machine_60 : opAt m_Mo_machine 60 = sGet [(11, 2)] 63 := rfl
theorem i_Mo_machine_63 : opAt m_Mo_machine 63 = sPush (.int (Int32.ofInt 5)) 64 := rfl
theorem i_Mo_machine_64 : opAt m_Mo_machine 64 = sCm .ne 94 67 := rfl
theorem i_Mo_machine_67 : opAt m_Mo_machine 67 = sAld 0 68 := rfl
theorem i_Mo_machine_68 : opAt m_Mo_machine 68 = sGet [(11, 8)] 71 := rfl
theorem i_Mo_machine_71 : opAt m_Mo_machine 71 = sPush (.int (Int32.ofInt 4)) 72 := rfl
theorem i_Mo_machine_72 : opAt m_Mo_machine 72 = sAld 0 73 := rfl
theorem i_Mo_machine_73 : opAt m_Mo_machine 73 = sGet [(11, 3)] 76 := rfl
theorem i_Mo_machine_76 : opAt m_Mo_machine 76 = sBI (fun x y => x * y) 77 := rfl
theorem i_Mo_machine_77 : opAt m_Mo_machine 77 = sPush (.int (Int32.ofInt 3)) 78 := rfl
theorem i_Mo_machine_78 : opAt m_Mo_machine 78 = sBI (fun x y => x + y) 79 := rfl
theorem i_Mo_machine_79 : opAt m_Mo_machine 79 = sAld 0 80 := rfl
theorem i_Mo_machine_80 : opAt m_Mo_machine 80 = sGet [(11, 5)] 83 := rfl
theorem i_Mo_machine_83 : opAt m_Mo_machine 83 = sIas 84 := rfl
theorem i_Mo_machine_84 : opAt m_Mo_machine 84 = sAld 0 85 := rfl
theorem i_Mo_machine_85 : opAt m_Mo_machine 85 = sDup 86 := rfl
theorem i_Mo_machine_86 : opAt m_Mo_machine 86 = sGet [(11, 3)] 89 := rfl
theorem i_Mo_machine_89 : opAt m_Mo_machine 89 = sPush (.int (Int32.ofInt 1)) 90 := rfl
theorem i_Mo_machine_90 : opAt m_Mo_machine 90 = sBI (fun x y => x + y) 91 := rfl
theorem i_Mo_machine_91 : opAt m_Mo_machine 91 = sPut [(11, 3)] (.int) 94 := rfl
theorem i_Mo_machine_94 : opAt m_Mo_machine 94 = sPush (.int (Int32.ofInt 0)) 95 := rfl
theorem i_Mo_machine_95 : opAt m_Mo_machine 95 = sIst 2 96 := rfl
theorem i_Mo_machine_96 : opAt m_Mo_machine 96 = sIld 2 97 := rfl
theorem i_Mo_machine_97 : opAt m_Mo_machine 97 = sPush (.int (Int8.ofInt 16).toInt32) 99 := rfl
theorem i_Mo_machine_99 : opAt m_Mo_machine 99 = sCm .ge 128 102 := rfl
theorem i_Mo_machine_102 : opAt m_Mo_machine 102 = sAld 0 103 := rfl
theorem i_Mo_machine_103 : opAt m_Mo_machine 103 = sGet [(11, 11)] 106 := rfl
theorem i_Mo_machine_106 : opAt m_Mo_machine 106 = sPush (.int (Int8.ofInt 16).toInt32) 108 := rfl
theorem i_Mo_machine_108 : opAt m_Mo_machine 108 = sAld 0 109 := rfl
theorem i_Mo_machine_109 : opAt m_Mo_machine 109 = sGet [(11, 9)] 112 := rfl
theorem i_Mo_machine_112 : opAt m_Mo_machine 112 = sBI (fun x y => x * y) 113 := rfl
theorem i_Mo_machine_113 : opAt m_Mo_machine 113 = sIld 2 114 := rfl
theorem i_Mo_machine_114 : opAt m_Mo_machine 114 = sBI (fun x y => x + y) 115 := rfl
theorem i_Mo_machine_115 : opAt m_Mo_machine 115 = sAld 0 116 := rfl
theorem i_Mo_machine_116 : opAt m_Mo_machine 116 = sGet [(11, 8)] 119 := rfl
theorem i_Mo_machine_119 : opAt m_Mo_machine 119 = sIld 2 120 := rfl
theorem i_Mo_machine_120 : opAt m_Mo_machine 120 = sIal 121 := rfl
theorem i_Mo_machine_121 : opAt m_Mo_machine 121 = sIas 122 := rfl
theorem i_Mo_machine_122 : opAt m_Mo_machine 122 = sInc 2 1 125 := rfl
theorem i_Mo_machine_125 : opAt m_Mo_machine 125 = sGo 96 := rfl
theorem i_Mo_machine_128 : opAt m_Mo_machine 128 = sAld 0 129 := rfl
theorem i_Mo_machine_129 : opAt m_Mo_machine 129 = sGet [(11, 10)] 132 := rfl
theorem i_Mo_machine_132 : opAt m_Mo_machine 132 = sAld 0 133 := rfl
theorem i_Mo_machine_133 : opAt m_Mo_machine 133 = sGet [(11, 9)] 136 := rfl
theorem i_Mo_machine_136 : opAt m_Mo_machine 136 = sAld 0 137 := rfl
theorem i_Mo_machine_137 : opAt m_Mo_machine 137 = sGet [(11, 3)] 140 := rfl
theorem i_Mo_machine_140 : opAt m_Mo_machine 140 = sIas 141 := rfl
theorem i_Mo_machine_141 : opAt m_Mo_machine 141 = sAld 0 142 := rfl
theorem i_Mo_machine_142 : opAt m_Mo_machine 142 = sDup 143 := rfl
theorem i_Mo_machine_143 : opAt m_Mo_machine 143 = sGet [(11, 9)] 146 := rfl
theorem i_Mo_machine_146 : opAt m_Mo_machine 146 = sPush (.int (Int32.ofInt 1)) 147 := rfl
theorem i_Mo_machine_147 : opAt m_Mo_machine 147 = sBI (fun x y => x + y) 148 := rfl
theorem i_Mo_machine_148 : opAt m_Mo_machine 148 = sPut [(11, 9)] (.int) 151 := rfl
theorem i_Mo_machine_151 : opAt m_Mo_machine 151 = sAld 0 152 := rfl
theorem i_Mo_machine_152 : opAt m_Mo_machine 152 = sPush (.int (Int32.ofInt 0)) 153 := rfl
theorem i_Mo_machine_153 : opAt m_Mo_machine 153 = sPut [(11, 1)] (.int) 156 := rfl
theorem i_Mo_machine_156 : opAt m_Mo_machine 156 = sAld 0 157 := rfl
theorem i_Mo_machine_157 : opAt m_Mo_machine 157 = sGet [(11, 9)] 160 := rfl
theorem i_Mo_machine_160 : opAt m_Mo_machine 160 = sPush (.int (Int32.ofInt 1)) 161 := rfl
theorem i_Mo_machine_161 : opAt m_Mo_machine 161 = sBI (fun x y => x - y) 162 := rfl
theorem i_Mo_machine_162 : opAt m_Mo_machine 162 = sIret .int := rfl
theorem i_Mo_part_0 : opAt m_Mo_part 0 = sAld 0 1 := rfl
theorem i_Mo_part_1 : opAt m_Mo_part 1 = sIld 1 2 := rfl
theorem i_Mo_part_2 : opAt m_Mo_part 2 = sIld 2 3 := rfl
theorem i_Mo_part_3 : opAt m_Mo_part 3 = sVir [(11, m_Mo_isPartOf)] 0 2 6 := rfl
theorem i_Mo_part_6 : opAt m_Mo_part 6 = sIf .ne 12 9 := rfl
theorem i_Mo_part_9 : opAt m_Mo_part 9 = sPush (.int (Int8.ofInt (-101)).toInt32) 11 := rfl
theorem i_Mo_part_11 : opAt m_Mo_part 11 = sIret .int := rfl
theorem i_Mo_part_12 : opAt m_Mo_part 12 = sIld 3 13 := rfl
theorem i_Mo_part_13 : opAt m_Mo_part 13 = sIL 14 := rfl
theorem i_Mo_part_14 : opAt m_Mo_part 14 = sPush (.long (Int64.ofNat ((0 : Fin 2) : Nat))) 15 := rfl
theorem i_Mo_part_15 : opAt m_Mo_part 15 = sPush (.long (3)) 18 := rfl
theorem i_Mo_part_18 : opAt m_Mo_part 18 = sSta m_Mo_in 0 3 21 := rfl
theorem i_Mo_part_21 : opAt m_Mo_part 21 = sIf .eq 42 24 := rfl
theorem i_Mo_part_24 : opAt m_Mo_part 24 = sAld 0 25 := rfl
theorem i_Mo_part_25 : opAt m_Mo_part 25 = sGet [(11, 11)] 28 := rfl
theorem i_Mo_part_28 : opAt m_Mo_part 28 = sPush (.int (Int8.ofInt 16).toInt32) 30 := rfl
theorem i_Mo_part_30 : opAt m_Mo_part 30 = sIld 1 31 := rfl
theorem i_Mo_part_31 : opAt m_Mo_part 31 = sBI (fun x y => x * y) 32 := rfl
theorem i_Mo_part_32 : opAt m_Mo_part 32 = sPush (.int (Int32.ofInt 4)) 33 := rfl
theorem i_Mo_part_33 : opAt m_Mo_part 33 = sIld 2 34 := rfl
theorem i_Mo_part_34 : opAt m_Mo_part 34 = sBI (fun x y => x * y) 35 := rfl
theorem i_Mo_part_35 : opAt m_Mo_part 35 = sBI (fun x y => x + y) 36 := rfl
theorem i_Mo_part_36 : opAt m_Mo_part 36 = sIld 3 37 := rfl
theorem i_Mo_part_37 : opAt m_Mo_part 37 = sBI (fun x y => x + y) 38 := rfl
theorem i_Mo_part_38 : opAt m_Mo_part 38 = sIal 39 := rfl
theorem i_Mo_part_39 : opAt m_Mo_part 39 = sGo 44 := rfl
theorem i_Mo_part_42 : opAt m_Mo_part 42 = sPush (.int (Int8.ofInt (-102)).toInt32) 44 := rfl
theorem i_Mo_part_44 : opAt m_Mo_part 44 = sIret .int := rfl
theorem i_Mo_isPartOf_0 : opAt m_Mo_isPartOf 0 = sAld 0 1 := rfl
theorem i_Mo_isPartOf_1 : opAt m_Mo_isPartOf 1 = sIld 1 2 := rfl
theorem i_Mo_isPartOf_2 : opAt m_Mo_isPartOf 2 = sVir [(11, m_Mo_isMachine)] 0 1 5 := rfl
theorem i_Mo_isPartOf_5 : opAt m_Mo_isPartOf 5 = sIf .eq 30 8 := rfl
theorem i_Mo_isPartOf_8 : opAt m_Mo_isPartOf 8 = sIld 2 9 := rfl
theorem i_Mo_isPartOf_9 : opAt m_Mo_isPartOf 9 = sIL 10 := rfl
theorem i_Mo_isPartOf_10 : opAt m_Mo_isPartOf 10 = sPush (.long (Int64.ofNat ((0 : Fin 2) : Nat))) 11 := rfl
theorem i_Mo_isPartOf_11 : opAt m_Mo_isPartOf 11 = sAld 0 12 := rfl
theorem i_Mo_isPartOf_12 : opAt m_Mo_isPartOf 12 = sGet [(11, 10)] 15 := rfl
theorem i_Mo_isPartOf_15 : opAt m_Mo_isPartOf 15 = sIld 1 16 := rfl
theorem i_Mo_isPartOf_16 : opAt m_Mo_isPartOf 16 = sIal 17 := rfl
theorem i_Mo_isPartOf_17 : opAt m_Mo_isPartOf 17 = sPush (.int (Int32.ofInt 1)) 18 := rfl
theorem i_Mo_isPartOf_18 : opAt m_Mo_isPartOf 18 = sBI (fun x y => x - y) 19 := rfl
theorem i_Mo_isPartOf_19 : opAt m_Mo_isPartOf 19 = sIL 20 := rfl
theorem i_Mo_isPartOf_20 : opAt m_Mo_isPartOf 20 = sSta m_Mo_in 0 3 23 := rfl
theorem i_Mo_isPartOf_23 : opAt m_Mo_isPartOf 23 = sIf .eq 30 26 := rfl
theorem i_Mo_isPartOf_26 : opAt m_Mo_isPartOf 26 = sPush (.int (Int32.ofInt 1)) 27 := rfl
theorem i_Mo_isPartOf_27 : opAt m_Mo_isPartOf 27 = sGo 31 := rfl
theorem i_Mo_isPartOf_30 : opAt m_Mo_isPartOf 30 = sPush (.int (Int32.ofInt 0)) 31 := rfl
theorem i_Mo_isPartOf_31 : opAt m_Mo_isPartOf 31 = sIret .boolean := rfl
theorem i_Mo_isMachine_0 : opAt m_Mo_isMachine 0 = sIld 1 1 := rfl
theorem i_Mo_isMachine_1 : opAt m_Mo_isMachine 1 = sIL 2 := rfl
theorem i_Mo_isMachine_2 : opAt m_Mo_isMachine 2 = sPush (.long (Int64.ofNat ((0 : Fin 2) : Nat))) 3 := rfl
theorem i_Mo_isMachine_3 : opAt m_Mo_isMachine 3 = sAld 0 4 := rfl
theorem i_Mo_isMachine_4 : opAt m_Mo_isMachine 4 = sGet [(11, 9)] 7 := rfl
theorem i_Mo_isMachine_7 : opAt m_Mo_isMachine 7 = sPush (.int (Int32.ofInt 1)) 8 := rfl
theorem i_Mo_isMachine_8 : opAt m_Mo_isMachine 8 = sBI (fun x y => x - y) 9 := rfl
theorem i_Mo_isMachine_9 : opAt m_Mo_isMachine 9 = sIL 10 := rfl
theorem i_Mo_isMachine_10 : opAt m_Mo_isMachine 10 = sSta m_Mo_in 0 3 13 := rfl
theorem i_Mo_isMachine_13 : opAt m_Mo_isMachine 13 = sIret .boolean := rfl
theorem i_Mo_as_0 : opAt m_Mo_as 0 = sAld 0 1 := rfl
theorem i_Mo_as_1 : opAt m_Mo_as 1 = sIld 1 2 := rfl
theorem i_Mo_as_2 : opAt m_Mo_as 2 = sIld 2 3 := rfl
theorem i_Mo_as_3 : opAt m_Mo_as 3 = sVir [(11, m_Mo_isPartOf)] 0 2 6 := rfl
theorem i_Mo_as_6 : opAt m_Mo_as 6 = sIf .ne 12 9 := rfl
theorem i_Mo_as_9 : opAt m_Mo_as 9 = sPush (.int (Int8.ofInt (-101)).toInt32) 11 := rfl
theorem i_Mo_as_11 : opAt m_Mo_as 11 = sIret .int := rfl
theorem i_Mo_as_12 : opAt m_Mo_as 12 = sIld 3 13 := rfl
theorem i_Mo_as_13 : opAt m_Mo_as 13 = sIL 14 := rfl
theorem i_Mo_as_14 : opAt m_Mo_as 14 = sPush (.long (Int64.ofNat ((0 : Fin 2) : Nat))) 15 := rfl
theorem i_Mo_as_15 : opAt m_Mo_as 15 = sPush (.long (4)) 18 := rfl
theorem i_Mo_as_18 : opAt m_Mo_as 18 = sSta m_Mo_in 0 3 21 := rfl
theorem i_Mo_as_21 : opAt m_Mo_as 21 = sIf .ne 27 24 := rfl
theorem i_Mo_as_24 : opAt m_Mo_as 24 = sPush (.int (Int8.ofInt (-102)).toInt32) 26 := rfl
theorem i_Mo_as_26 : opAt m_Mo_as 26 = sIret .int := rfl
theorem i_Mo_as_27 : opAt m_Mo_as 27 = sAld 0 28 := rfl
theorem i_Mo_as_28 : opAt m_Mo_as 28 = sGet [(11, 11)] 31 := rfl
theorem i_Mo_as_31 : opAt m_Mo_as 31 = sPush (.int (Int8.ofInt 16).toInt32) 33 := rfl
theorem i_Mo_as_33 : opAt m_Mo_as 33 = sIld 1 34 := rfl
theorem i_Mo_as_34 : opAt m_Mo_as 34 = sBI (fun x y => x * y) 35 := rfl
theorem i_Mo_as_35 : opAt m_Mo_as 35 = sPush (.int (Int32.ofInt 4)) 36 := rfl
theorem i_Mo_as_36 : opAt m_Mo_as 36 = sIld 2 37 := rfl
theorem i_Mo_as_37 : opAt m_Mo_as 37 = sBI (fun x y => x * y) 38 := rfl
theorem i_Mo_as_38 : opAt m_Mo_as 38 = sBI (fun x y => x + y) 39 := rfl
theorem i_Mo_as_39 : opAt m_Mo_as 39 = sIal 40 := rfl
theorem i_Mo_as_40 : opAt m_Mo_as 40 = sIst 4 42 := rfl
theorem i_Mo_as_42 : opAt m_Mo_as 42 = sIld 3 43 := rfl
theorem i_Mo_as_43 : opAt m_Mo_as 43 = sIf .eq 63 46 := rfl
theorem i_Mo_as_46 : opAt m_Mo_as 46 = sIld 3 47 := rfl
theorem i_Mo_as_47 : opAt m_Mo_as 47 = sIld 4 49 := rfl
theorem i_Mo_as_49 : opAt m_Mo_as 49 = sCm .eq 63 52 := rfl
theorem i_Mo_as_52 : opAt m_Mo_as 52 = sIld 3 53 := rfl
theorem i_Mo_as_53 : opAt m_Mo_as 53 = sPush (.int (Int32.ofInt 2)) 54 := rfl
theorem i_Mo_as_54 : opAt m_Mo_as 54 = sCm .ne 67 57 := rfl
theorem i_Mo_as_57 : opAt m_Mo_as 57 = sIld 4 59 := rfl
theorem i_Mo_as_59 : opAt m_Mo_as 59 = sPush (.int (Int32.ofInt 3)) 60 := rfl
theorem i_Mo_as_60 : opAt m_Mo_as 60 = sCm .ne 67 63 := rfl
theorem i_Mo_as_63 : opAt m_Mo_as 63 = sPush (.int (Int32.ofInt 1)) 64 := rfl
theorem i_Mo_as_64 : opAt m_Mo_as 64 = sGo 68 := rfl
theorem i_Mo_as_67 : opAt m_Mo_as 67 = sPush (.int (Int32.ofInt 0)) 68 := rfl
theorem i_Mo_as_68 : opAt m_Mo_as 68 = sIst 5 70 := rfl
theorem i_Mo_as_70 : opAt m_Mo_as 70 = sIld 5 72 := rfl
theorem i_Mo_as_72 : opAt m_Mo_as 72 = sIf .eq 79 75 := rfl
theorem i_Mo_as_75 : opAt m_Mo_as 75 = sIld 2 76 := rfl
theorem i_Mo_as_76 : opAt m_Mo_as 76 = sGo 80 := rfl
theorem i_Mo_as_79 : opAt m_Mo_as 79 = sPush (.int (Int32.ofInt (-1))) 80 := rfl
theorem i_Mo_as_80 : opAt m_Mo_as 80 = sIret .int := rfl
theorem i_Mo_print_0 : opAt m_Mo_print 0 = sIld 1 1 := rfl
theorem i_Mo_print_1 : opAt m_Mo_print 1 = sIL 2 := rfl
theorem i_Mo_print_2 : opAt m_Mo_print 2 = sPush (.long (Int64.ofNat ((1 : Fin 2) : Nat))) 3 := rfl
theorem i_Mo_print_3 : opAt m_Mo_print 3 = sPush (.long (48)) 6 := rfl
theorem i_Mo_print_6 : opAt m_Mo_print 6 = sSta m_Mo_in 0 3 9 := rfl
theorem i_Mo_print_9 : opAt m_Mo_print 9 = sIf .ne 15 12 := rfl
theorem i_Mo_print_12 : opAt m_Mo_print 12 = sPush (.int (Int8.ofInt (-102)).toInt32) 14 := rfl
theorem i_Mo_print_14 : opAt m_Mo_print 14 = sIret .int := rfl
theorem i_Mo_print_15 : opAt m_Mo_print 15 = sAld 0 16 := rfl
theorem i_Mo_print_16 : opAt m_Mo_print 16 = sGet [(11, 12)] 19 := rfl
theorem i_Mo_print_19 : opAt m_Mo_print 19 = sPush (.int (Int8.ofInt 6).toInt32) 21 := rfl
theorem i_Mo_print_21 : opAt m_Mo_print 21 = sCm .ne 27 24 := rfl
theorem i_Mo_print_24 : opAt m_Mo_print 24 = sPush (.int (Int8.ofInt (-104)).toInt32) 26 := rfl
theorem i_Mo_print_26 : opAt m_Mo_print 26 = sIret .int := rfl
theorem i_Mo_print_27 : opAt m_Mo_print 27 = sAld 0 28 := rfl
theorem i_Mo_print_28 : opAt m_Mo_print 28 = sGet [(11, 13)] 31 := rfl
theorem i_Mo_print_31 : opAt m_Mo_print 31 = sAld 0 32 := rfl
theorem i_Mo_print_32 : opAt m_Mo_print 32 = sGet [(11, 12)] 35 := rfl
theorem i_Mo_print_35 : opAt m_Mo_print 35 = sIld 1 36 := rfl
theorem i_Mo_print_36 : opAt m_Mo_print 36 = sIas 37 := rfl
theorem i_Mo_print_37 : opAt m_Mo_print 37 = sPush (.int (Int32.ofInt 0)) 38 := rfl
theorem i_Mo_print_38 : opAt m_Mo_print 38 = sIst 2 39 := rfl
theorem i_Mo_print_39 : opAt m_Mo_print 39 = sIld 2 40 := rfl
theorem i_Mo_print_40 : opAt m_Mo_print 40 = sIld 1 41 := rfl
theorem i_Mo_print_41 : opAt m_Mo_print 41 = sCm .ge 95 44 := rfl
theorem i_Mo_print_44 : opAt m_Mo_print 44 = sAld 0 45 := rfl
theorem i_Mo_print_45 : opAt m_Mo_print 45 = sGet [(11, 14)] 48 := rfl
theorem i_Mo_print_48 : opAt m_Mo_print 48 = sPush (.int (Int8.ofInt 48).toInt32) 50 := rfl
theorem i_Mo_print_50 : opAt m_Mo_print 50 = sAld 0 51 := rfl
theorem i_Mo_print_51 : opAt m_Mo_print 51 = sGet [(11, 12)] 54 := rfl
theorem i_Mo_print_54 : opAt m_Mo_print 54 = sBI (fun x y => x * y) 55 := rfl
theorem i_Mo_print_55 : opAt m_Mo_print 55 = sIld 2 56 := rfl
theorem i_Mo_print_56 : opAt m_Mo_print 56 = sBI (fun x y => x + y) 57 := rfl
theorem i_Mo_print_57 : opAt m_Mo_print 57 = sIld 2 58 := rfl
theorem i_Mo_print_58 : opAt m_Mo_print 58 = sIas 59 := rfl
theorem i_Mo_print_59 : opAt m_Mo_print 59 = sAld 0 60 := rfl
theorem i_Mo_print_60 : opAt m_Mo_print 60 = sGet [(11, 15)] 63 := rfl
theorem i_Mo_print_63 : opAt m_Mo_print 63 = sPush (.int (Int8.ofInt 48).toInt32) 65 := rfl
theorem i_Mo_print_65 : opAt m_Mo_print 65 = sAld 0 66 := rfl
theorem i_Mo_print_66 : opAt m_Mo_print 66 = sGet [(11, 12)] 69 := rfl
theorem i_Mo_print_69 : opAt m_Mo_print 69 = sBI (fun x y => x * y) 70 := rfl
theorem i_Mo_print_70 : opAt m_Mo_print 70 = sIld 2 71 := rfl
theorem i_Mo_print_71 : opAt m_Mo_print 71 = sBI (fun x y => x + y) 72 := rfl
theorem i_Mo_print_72 : opAt m_Mo_print 72 = sPush (.int (Int32.ofInt 0)) 73 := rfl
theorem i_Mo_print_73 : opAt m_Mo_print 73 = sIas 74 := rfl
theorem i_Mo_print_74 : opAt m_Mo_print 74 = sAld 0 75 := rfl
theorem i_Mo_print_75 : opAt m_Mo_print 75 = sGet [(11, 16)] 78 := rfl
theorem i_Mo_print_78 : opAt m_Mo_print 78 = sPush (.int (Int8.ofInt 48).toInt32) 80 := rfl
theorem i_Mo_print_80 : opAt m_Mo_print 80 = sAld 0 81 := rfl
theorem i_Mo_print_81 : opAt m_Mo_print 81 = sGet [(11, 12)] 84 := rfl
theorem i_Mo_print_84 : opAt m_Mo_print 84 = sBI (fun x y => x * y) 85 := rfl
theorem i_Mo_print_85 : opAt m_Mo_print 85 = sIld 2 86 := rfl
theorem i_Mo_print_86 : opAt m_Mo_print 86 = sBI (fun x y => x + y) 87 := rfl
theorem i_Mo_print_87 : opAt m_Mo_print 87 = sPush (.int (Int32.ofInt 0)) 88 := rfl
theorem i_Mo_print_88 : opAt m_Mo_print 88 = sIas 89 := rfl
theorem i_Mo_print_89 : opAt m_Mo_print 89 = sInc 2 1 92 := rfl
theorem i_Mo_print_92 : opAt m_Mo_print 92 = sGo 39 := rfl
theorem i_Mo_print_95 : opAt m_Mo_print 95 = sAld 0 96 := rfl
theorem i_Mo_print_96 : opAt m_Mo_print 96 = sDup 97 := rfl
theorem i_Mo_print_97 : opAt m_Mo_print 97 = sGet [(11, 12)] 100 := rfl
theorem i_Mo_print_100 : opAt m_Mo_print 100 = sPush (.int (Int32.ofInt 1)) 101 := rfl
theorem i_Mo_print_101 : opAt m_Mo_print 101 = sBI (fun x y => x + y) 102 := rfl
theorem i_Mo_print_102 : opAt m_Mo_print 102 = sPut [(11, 12)] (.int) 105 := rfl
theorem i_Mo_print_105 : opAt m_Mo_print 105 = sAld 0 106 := rfl
theorem i_Mo_print_106 : opAt m_Mo_print 106 = sGet [(11, 12)] 109 := rfl
theorem i_Mo_print_109 : opAt m_Mo_print 109 = sPush (.int (Int32.ofInt 1)) 110 := rfl
theorem i_Mo_print_110 : opAt m_Mo_print 110 = sBI (fun x y => x - y) 111 := rfl
theorem i_Mo_print_111 : opAt m_Mo_print 111 = sIret .int := rfl
theorem i_Mo_run_0 : opAt m_Mo_run 0 = sAld 0 1 := rfl
theorem i_Mo_run_1 : opAt m_Mo_run 1 = sIld 1 2 := rfl
theorem i_Mo_run_2 : opAt m_Mo_run 2 = sVir [(11, m_Mo_isPrint)] 0 1 5 := rfl
theorem i_Mo_run_5 : opAt m_Mo_run 5 = sIf .eq 16 8 := rfl
theorem i_Mo_run_8 : opAt m_Mo_run 8 = sAld 0 9 := rfl
theorem i_Mo_run_9 : opAt m_Mo_run 9 = sIld 2 10 := rfl
theorem i_Mo_run_10 : opAt m_Mo_run 10 = sVir [(11, m_Mo_isMachine)] 0 1 13 := rfl
theorem i_Mo_run_13 : opAt m_Mo_run 13 = sIf .ne 19 16 := rfl
theorem i_Mo_run_16 : opAt m_Mo_run 16 = sPush (.int (Int8.ofInt (-101)).toInt32) 18 := rfl
theorem i_Mo_run_18 : opAt m_Mo_run 18 = sIret .int := rfl
theorem i_Mo_run_19 : opAt m_Mo_run 19 = sPush (.int (Int32.ofInt 0)) 20 := rfl
theorem i_Mo_run_20 : opAt m_Mo_run 20 = sIst 4 22 := rfl
theorem i_Mo_run_22 : opAt m_Mo_run 22 = sPush (.int (Int32.ofInt 0)) 23 := rfl
theorem i_Mo_run_23 : opAt m_Mo_run 23 = sIst 5 25 := rfl
theorem i_Mo_run_25 : opAt m_Mo_run 25 = sIld 5 27 := rfl
theorem i_Mo_run_27 : opAt m_Mo_run 27 = sAld 0 28 := rfl
theorem i_Mo_run_28 : opAt m_Mo_run 28 = sGet [(11, 13)] 31 := rfl
theorem i_Mo_run_31 : opAt m_Mo_run 31 = sIld 1 32 := rfl
theorem i_Mo_run_32 : opAt m_Mo_run 32 = sIal 33 := rfl
theorem i_Mo_run_33 : opAt m_Mo_run 33 = sCm .ge 167 36 := rfl
theorem i_Mo_run_36 : opAt m_Mo_run 36 = sIld 3 37 := rfl
theorem i_Mo_run_37 : opAt m_Mo_run 37 = sIf .eq 54 40 := rfl
theorem i_Mo_run_40 : opAt m_Mo_run 40 = sAld 0 41 := rfl
theorem i_Mo_run_41 : opAt m_Mo_run 41 = sGet [(11, 13)] 44 := rfl
theorem i_Mo_run_44 : opAt m_Mo_run 44 = sIld 1 45 := rfl
theorem i_Mo_run_45 : opAt m_Mo_run 45 = sIal 46 := rfl
theorem i_Mo_run_46 : opAt m_Mo_run 46 = sPush (.int (Int32.ofInt 1)) 47 := rfl
theorem i_Mo_run_47 : opAt m_Mo_run 47 = sBI (fun x y => x - y) 48 := rfl
theorem i_Mo_run_48 : opAt m_Mo_run 48 = sIld 5 50 := rfl
theorem i_Mo_run_50 : opAt m_Mo_run 50 = sBI (fun x y => x - y) 51 := rfl
theorem i_Mo_run_51 : opAt m_Mo_run 51 = sGo 56 := rfl
theorem i_Mo_run_54 : opAt m_Mo_run 54 = sIld 5 56 := rfl
theorem i_Mo_run_56 : opAt m_Mo_run 56 = sIst 6 58 := rfl
theorem i_Mo_run_58 : opAt m_Mo_run 58 = sPush (.int (Int8.ofInt 48).toInt32) 60 := rfl
theorem i_Mo_run_60 : opAt m_Mo_run 60 = sIld 1 61 := rfl
theorem i_Mo_run_61 : opAt m_Mo_run 61 = sBI (fun x y => x * y) 62 := rfl
theorem i_Mo_run_62 : opAt m_Mo_run 62 = sIld 5 64 := rfl
theorem i_Mo_run_64 : opAt m_Mo_run 64 = sBI (fun x y => x + y) 65 := rfl
theorem i_Mo_run_65 : opAt m_Mo_run 65 = sIst 7 67 := rfl
theorem i_Mo_run_67 : opAt m_Mo_run 67 = sAld 0 68 := rfl
theorem i_Mo_run_68 : opAt m_Mo_run 68 = sGet [(11, 15)] 71 := rfl
theorem i_Mo_run_71 : opAt m_Mo_run 71 = sIld 7 73 := rfl
theorem i_Mo_run_73 : opAt m_Mo_run 73 = sIal 74 := rfl
theorem i_Mo_run_74 : opAt m_Mo_run 74 = sIst 8 76 := rfl
theorem i_Mo_run_76 : opAt m_Mo_run 76 = sPush (.int (Int32.ofInt 0)) 77 := rfl
theorem i_Mo_run_77 : opAt m_Mo_run 77 = sIst 9 79 := rfl
theorem i_Mo_run_79 : opAt m_Mo_run 79 = sIld 9 81 := rfl
theorem i_Mo_run_81 : opAt m_Mo_run 81 = sAld 0 82 := rfl
theorem i_Mo_run_82 : opAt m_Mo_run 82 = sGet [(11, 10)] 85 := rfl
theorem i_Mo_run_85 : opAt m_Mo_run 85 = sIld 2 86 := rfl
theorem i_Mo_run_86 : opAt m_Mo_run 86 = sIal 87 := rfl
theorem i_Mo_run_87 : opAt m_Mo_run 87 = sCm .ge 140 90 := rfl
theorem i_Mo_run_90 : opAt m_Mo_run 90 = sAld 0 91 := rfl
theorem i_Mo_run_91 : opAt m_Mo_run 91 = sGet [(11, 15)] 94 := rfl
theorem i_Mo_run_94 : opAt m_Mo_run 94 = sIld 7 96 := rfl
theorem i_Mo_run_96 : opAt m_Mo_run 96 = sDup2 97 := rfl
theorem i_Mo_run_97 : opAt m_Mo_run 97 = sIal 98 := rfl
theorem i_Mo_run_98 : opAt m_Mo_run 98 = sAld 0 99 := rfl
theorem i_Mo_run_99 : opAt m_Mo_run 99 = sIld 2 100 := rfl
theorem i_Mo_run_100 : opAt m_Mo_run 100 = sIld 9 102 := rfl
theorem i_Mo_run_102 : opAt m_Mo_run 102 = sIld 6 104 := rfl
theorem i_Mo_run_104 : opAt m_Mo_run 104 = sVir [(11, m_Mo_marks)] 0 3 107 := rfl
theorem i_Mo_run_107 : opAt m_Mo_run 107 = sIf .eq 131 110 := rfl
theorem i_Mo_run_110 : opAt m_Mo_run 110 = sPush (.int (Int32.ofInt 1)) 111 := rfl
theorem i_Mo_run_111 : opAt m_Mo_run 111 = sAld 0 112 := rfl
theorem i_Mo_run_112 : opAt m_Mo_run 112 = sGet [(11, 11)] 115 := rfl
theorem i_Mo_run_115 : opAt m_Mo_run 115 = sPush (.int (Int8.ofInt 16).toInt32) 117 := rfl
theorem i_Mo_run_117 : opAt m_Mo_run 117 = sIld 2 118 := rfl
theorem i_Mo_run_118 : opAt m_Mo_run 118 = sBI (fun x y => x * y) 119 := rfl
theorem i_Mo_run_119 : opAt m_Mo_run 119 = sPush (.int (Int32.ofInt 4)) 120 := rfl
theorem i_Mo_run_120 : opAt m_Mo_run 120 = sIld 9 122 := rfl
theorem i_Mo_run_122 : opAt m_Mo_run 122 = sBI (fun x y => x * y) 123 := rfl
theorem i_Mo_run_123 : opAt m_Mo_run 123 = sBI (fun x y => x + y) 124 := rfl
theorem i_Mo_run_124 : opAt m_Mo_run 124 = sPush (.int (Int32.ofInt 1)) 125 := rfl
theorem i_Mo_run_125 : opAt m_Mo_run 125 = sBI (fun x y => x + y) 126 := rfl
theorem i_Mo_run_126 : opAt m_Mo_run 126 = sIal 127 := rfl
theorem i_Mo_run_127 : opAt m_Mo_run 127 = sBI (fun x y => x <<< (y &&& 31)) 128 := rfl
theorem i_Mo_run_128 : opAt m_Mo_run 128 = sGo 132 := rfl
theorem i_Mo_run_131 : opAt m_Mo_run 131 = sPush (.int (Int32.ofInt 0)) 132 := rfl
theorem i_Mo_run_132 : opAt m_Mo_run 132 = sBI (fun x y => x ||| y) 133 := rfl
theorem i_Mo_run_133 : opAt m_Mo_run 133 = sIas 134 := rfl
theorem i_Mo_run_134 : opAt m_Mo_run 134 = sInc 9 1 137 := rfl
theorem i_Mo_run_137 : opAt m_Mo_run 137 = sGo 79 := rfl
theorem i_Mo_run_140 : opAt m_Mo_run 140 = sIld 4 142 := rfl
theorem i_Mo_run_142 : opAt m_Mo_run 142 = sAld 0 143 := rfl
theorem i_Mo_run_143 : opAt m_Mo_run 143 = sGet [(11, 15)] 146 := rfl
theorem i_Mo_run_146 : opAt m_Mo_run 146 = sIld 7 148 := rfl
theorem i_Mo_run_148 : opAt m_Mo_run 148 = sIal 149 := rfl
theorem i_Mo_run_149 : opAt m_Mo_run 149 = sSta m_Mo_bitsOf 0 1 152 := rfl
theorem i_Mo_run_152 : opAt m_Mo_run 152 = sIld 8 154 := rfl
theorem i_Mo_run_154 : opAt m_Mo_run 154 = sSta m_Mo_bitsOf 0 1 157 := rfl
theorem i_Mo_run_157 : opAt m_Mo_run 157 = sBI (fun x y => x - y) 158 := rfl
theorem i_Mo_run_158 : opAt m_Mo_run 158 = sBI (fun x y => x + y) 159 := rfl
theorem i_Mo_run_159 : opAt m_Mo_run 159 = sIst 4 161 := rfl
theorem i_Mo_run_161 : opAt m_Mo_run 161 = sInc 5 1 164 := rfl
theorem i_Mo_run_164 : opAt m_Mo_run 164 = sGo 25 := rfl
theorem i_Mo_run_167 : opAt m_Mo_run 167 = sIld 4 169 := rfl
theorem i_Mo_run_169 : opAt m_Mo_run 169 = sIret .int := rfl
theorem i_Mo_isPrint_0 : opAt m_Mo_isPrint 0 = sIld 1 1 := rfl
theorem i_Mo_isPrint_1 : opAt m_Mo_isPrint 1 = sIL 2 := rfl
theorem i_Mo_isPrint_2 : opAt m_Mo_isPrint 2 = sPush (.long (Int64.ofNat ((0 : Fin 2) : Nat))) 3 := rfl
theorem i_Mo_isPrint_3 : opAt m_Mo_isPrint 3 = sAld 0 4 := rfl
theorem i_Mo_isPrint_4 : opAt m_Mo_isPrint 4 = sGet [(11, 12)] 7 := rfl
theorem i_Mo_isPrint_7 : opAt m_Mo_isPrint 7 = sPush (.int (Int32.ofInt 1)) 8 := rfl
theorem i_Mo_isPrint_8 : opAt m_Mo_isPrint 8 = sBI (fun x y => x - y) 9 := rfl
theorem i_Mo_isPrint_9 : opAt m_Mo_isPrint 9 = sIL 10 := rfl
theorem i_Mo_isPrint_10 : opAt m_Mo_isPrint 10 = sSta m_Mo_in 0 3 13 := rfl
theorem i_Mo_isPrint_13 : opAt m_Mo_isPrint 13 = sIret .boolean := rfl
theorem i_Mo_marks_0 : opAt m_Mo_marks 0 = sPush (.int (Int8.ofInt 16).toInt32) 2 := rfl
theorem i_Mo_marks_2 : opAt m_Mo_marks 2 = sIld 1 3 := rfl
theorem i_Mo_marks_3 : opAt m_Mo_marks 3 = sBI (fun x y => x * y) 4 := rfl
theorem i_Mo_marks_4 : opAt m_Mo_marks 4 = sPush (.int (Int32.ofInt 4)) 5 := rfl
theorem i_Mo_marks_5 : opAt m_Mo_marks 5 = sIld 2 6 := rfl
theorem i_Mo_marks_6 : opAt m_Mo_marks 6 = sBI (fun x y => x * y) 7 := rfl
theorem i_Mo_marks_7 : opAt m_Mo_marks 7 = sBI (fun x y => x + y) 8 := rfl
theorem i_Mo_marks_8 : opAt m_Mo_marks 8 = sIst 4 10 := rfl
theorem i_Mo_marks_10 : opAt m_Mo_marks 10 = sAld 0 11 := rfl
theorem i_Mo_marks_11 : opAt m_Mo_marks 11 = sGet [(11, 11)] 14 := rfl
theorem i_Mo_marks_14 : opAt m_Mo_marks 14 = sIld 4 16 := rfl
theorem i_Mo_marks_16 : opAt m_Mo_marks 16 = sIal 17 := rfl
theorem i_Mo_marks_17 : opAt m_Mo_marks 17 = sIst 5 19 := rfl
theorem i_Mo_marks_19 : opAt m_Mo_marks 19 = sAld 0 20 := rfl
theorem i_Mo_marks_20 : opAt m_Mo_marks 20 = sGet [(11, 11)] 23 := rfl
theorem i_Mo_marks_23 : opAt m_Mo_marks 23 = sIld 4 25 := rfl
theorem i_Mo_marks_25 : opAt m_Mo_marks 25 = sPush (.int (Int32.ofInt 2)) 26 := rfl
theorem i_Mo_marks_26 : opAt m_Mo_marks 26 = sBI (fun x y => x + y) 27 := rfl
theorem i_Mo_marks_27 : opAt m_Mo_marks 27 = sIal 28 := rfl
theorem i_Mo_marks_28 : opAt m_Mo_marks 28 = sIst 6 30 := rfl
theorem i_Mo_marks_30 : opAt m_Mo_marks 30 = sAld 0 31 := rfl
theorem i_Mo_marks_31 : opAt m_Mo_marks 31 = sGet [(11, 11)] 34 := rfl
theorem i_Mo_marks_34 : opAt m_Mo_marks 34 = sIld 4 36 := rfl
theorem i_Mo_marks_36 : opAt m_Mo_marks 36 = sPush (.int (Int32.ofInt 3)) 37 := rfl
theorem i_Mo_marks_37 : opAt m_Mo_marks 37 = sBI (fun x y => x + y) 38 := rfl
theorem i_Mo_marks_38 : opAt m_Mo_marks 38 = sIal 39 := rfl
theorem i_Mo_marks_39 : opAt m_Mo_marks 39 = sIst 7 41 := rfl
theorem i_Mo_marks_41 : opAt m_Mo_marks 41 = sIld 5 43 := rfl
theorem i_Mo_marks_43 : opAt m_Mo_marks 43 = sPush (.int (Int32.ofInt 1)) 44 := rfl
theorem i_Mo_marks_44 : opAt m_Mo_marks 44 = sCm .ne 49 47 := rfl
theorem i_Mo_marks_47 : opAt m_Mo_marks 47 = sPush (.int (Int32.ofInt 1)) 48 := rfl
theorem i_Mo_marks_48 : opAt m_Mo_marks 48 = sIret .boolean := rfl
theorem i_Mo_marks_49 : opAt m_Mo_marks 49 = sIld 5 51 := rfl
theorem i_Mo_marks_51 : opAt m_Mo_marks 51 = sPush (.int (Int32.ofInt 4)) 52 := rfl
theorem i_Mo_marks_52 : opAt m_Mo_marks 52 = sCm .ne 64 55 := rfl
theorem i_Mo_marks_55 : opAt m_Mo_marks 55 = sIld 6 57 := rfl
theorem i_Mo_marks_57 : opAt m_Mo_marks 57 = sIld 7 59 := rfl
theorem i_Mo_marks_59 : opAt m_Mo_marks 59 = sIld 3 60 := rfl
theorem i_Mo_marks_60 : opAt m_Mo_marks 60 = sSta m_Mo_isWound 0 3 63 := rfl
theorem i_Mo_marks_63 : opAt m_Mo_marks 63 = sIret .boolean := rfl
theorem i_Mo_marks_64 : opAt m_Mo_marks 64 = sIld 3 65 := rfl
theorem i_Mo_marks_65 : opAt m_Mo_marks 65 = sIld 6 67 := rfl
theorem i_Mo_marks_67 : opAt m_Mo_marks 67 = sDI (fun x y => x - x / y * y) 68 := rfl
theorem i_Mo_marks_68 : opAt m_Mo_marks 68 = sIld 7 70 := rfl
theorem i_Mo_marks_70 : opAt m_Mo_marks 70 = sCm .ne 77 73 := rfl
theorem i_Mo_marks_73 : opAt m_Mo_marks 73 = sPush (.int (Int32.ofInt 1)) 74 := rfl
theorem i_Mo_marks_74 : opAt m_Mo_marks 74 = sGo 78 := rfl
theorem i_Mo_marks_77 : opAt m_Mo_marks 77 = sPush (.int (Int32.ofInt 0)) 78 := rfl
theorem i_Mo_marks_78 : opAt m_Mo_marks 78 = sIst 8 80 := rfl
theorem i_Mo_marks_80 : opAt m_Mo_marks 80 = sIld 8 82 := rfl
theorem i_Mo_marks_82 : opAt m_Mo_marks 82 = sIf .eq 107 85 := rfl
theorem i_Mo_marks_85 : opAt m_Mo_marks 85 = sIld 5 87 := rfl
theorem i_Mo_marks_87 : opAt m_Mo_marks 87 = sPush (.int (Int32.ofInt 2)) 88 := rfl
theorem i_Mo_marks_88 : opAt m_Mo_marks 88 = sCm .eq 103 91 := rfl
theorem i_Mo_marks_91 : opAt m_Mo_marks 91 = sIld 3 92 := rfl
theorem i_Mo_marks_92 : opAt m_Mo_marks 92 = sIld 7 94 := rfl
theorem i_Mo_marks_94 : opAt m_Mo_marks 94 = sBI (fun x y => x - y) 95 := rfl
theorem i_Mo_marks_95 : opAt m_Mo_marks 95 = sIld 6 97 := rfl
theorem i_Mo_marks_97 : opAt m_Mo_marks 97 = sDI (fun x y => x / y) 98 := rfl
theorem i_Mo_marks_98 : opAt m_Mo_marks 98 = sPush (.int (Int32.ofInt 2)) 99 := rfl
theorem i_Mo_marks_99 : opAt m_Mo_marks 99 = sDI (fun x y => x - x / y * y) 100 := rfl
theorem i_Mo_marks_100 : opAt m_Mo_marks 100 = sIf .ne 107 103 := rfl
theorem i_Mo_marks_103 : opAt m_Mo_marks 103 = sPush (.int (Int32.ofInt 1)) 104 := rfl
theorem i_Mo_marks_104 : opAt m_Mo_marks 104 = sGo 108 := rfl
theorem i_Mo_marks_107 : opAt m_Mo_marks 107 = sPush (.int (Int32.ofInt 0)) 108 := rfl
theorem i_Mo_marks_108 : opAt m_Mo_marks 108 = sIret .boolean := rfl
theorem i_Mo_isWound_0 : opAt m_Mo_isWound 0 = sIld 0 1 := rfl
theorem i_Mo_isWound_1 : opAt m_Mo_isWound 1 = sIst 3 2 := rfl
theorem i_Mo_isWound_2 : opAt m_Mo_isWound 2 = sIld 0 3 := rfl
theorem i_Mo_isWound_3 : opAt m_Mo_isWound 3 = sIst 4 5 := rfl
theorem i_Mo_isWound_5 : opAt m_Mo_isWound 5 = sIld 3 6 := rfl
theorem i_Mo_isWound_6 : opAt m_Mo_isWound 6 = sIld 2 7 := rfl
theorem i_Mo_isWound_7 : opAt m_Mo_isWound 7 = sCm .ge 24 10 := rfl
theorem i_Mo_isWound_10 : opAt m_Mo_isWound 10 = sIld 4 12 := rfl
theorem i_Mo_isWound_12 : opAt m_Mo_isWound 12 = sIld 1 13 := rfl
theorem i_Mo_isWound_13 : opAt m_Mo_isWound 13 = sBI (fun x y => x + y) 14 := rfl
theorem i_Mo_isWound_14 : opAt m_Mo_isWound 14 = sIst 4 16 := rfl
theorem i_Mo_isWound_16 : opAt m_Mo_isWound 16 = sIld 3 17 := rfl
theorem i_Mo_isWound_17 : opAt m_Mo_isWound 17 = sIld 4 19 := rfl
theorem i_Mo_isWound_19 : opAt m_Mo_isWound 19 = sBI (fun x y => x + y) 20 := rfl
theorem i_Mo_isWound_20 : opAt m_Mo_isWound 20 = sIst 3 21 := rfl
theorem i_Mo_isWound_21 : opAt m_Mo_isWound 21 = sGo 5 := rfl
theorem i_Mo_isWound_24 : opAt m_Mo_isWound 24 = sIld 3 25 := rfl
theorem i_Mo_isWound_25 : opAt m_Mo_isWound 25 = sIld 2 26 := rfl
theorem i_Mo_isWound_26 : opAt m_Mo_isWound 26 = sCm .ne 33 29 := rfl
theorem i_Mo_isWound_29 : opAt m_Mo_isWound 29 = sPush (.int (Int32.ofInt 1)) 30 := rfl
theorem i_Mo_isWound_30 : opAt m_Mo_isWound 30 = sGo 34 := rfl
theorem i_Mo_isWound_33 : opAt m_Mo_isWound 33 = sPush (.int (Int32.ofInt 0)) 34 := rfl
theorem i_Mo_isWound_34 : opAt m_Mo_isWound 34 = sIret .boolean := rfl
theorem i_Mo_bitsOf_0 : opAt m_Mo_bitsOf 0 = sPush (.int (Int32.ofInt 0)) 1 := rfl
theorem i_Mo_bitsOf_1 : opAt m_Mo_bitsOf 1 = sIst 1 2 := rfl
theorem i_Mo_bitsOf_2 : opAt m_Mo_bitsOf 2 = sPush (.int (Int32.ofInt 0)) 3 := rfl
theorem i_Mo_bitsOf_3 : opAt m_Mo_bitsOf 3 = sIst 2 4 := rfl
theorem i_Mo_bitsOf_4 : opAt m_Mo_bitsOf 4 = sIld 2 5 := rfl
theorem i_Mo_bitsOf_5 : opAt m_Mo_bitsOf 5 = sPush (.int (Int8.ofInt 8).toInt32) 7 := rfl
theorem i_Mo_bitsOf_7 : opAt m_Mo_bitsOf 7 = sCm .ge 24 10 := rfl
theorem i_Mo_bitsOf_10 : opAt m_Mo_bitsOf 10 = sIld 1 11 := rfl
theorem i_Mo_bitsOf_11 : opAt m_Mo_bitsOf 11 = sIld 0 12 := rfl
theorem i_Mo_bitsOf_12 : opAt m_Mo_bitsOf 12 = sIld 2 13 := rfl
theorem i_Mo_bitsOf_13 : opAt m_Mo_bitsOf 13 = sBI (fun x y => x >>> (y &&& 31)) 14 := rfl
theorem i_Mo_bitsOf_14 : opAt m_Mo_bitsOf 14 = sPush (.int (Int32.ofInt 1)) 15 := rfl
theorem i_Mo_bitsOf_15 : opAt m_Mo_bitsOf 15 = sBI (fun x y => x &&& y) 16 := rfl
theorem i_Mo_bitsOf_16 : opAt m_Mo_bitsOf 16 = sBI (fun x y => x + y) 17 := rfl
theorem i_Mo_bitsOf_17 : opAt m_Mo_bitsOf 17 = sIst 1 18 := rfl
theorem i_Mo_bitsOf_18 : opAt m_Mo_bitsOf 18 = sInc 2 1 21 := rfl
theorem i_Mo_bitsOf_21 : opAt m_Mo_bitsOf 21 = sGo 4 := rfl
theorem i_Mo_bitsOf_24 : opAt m_Mo_bitsOf 24 = sIld 1 25 := rfl
theorem i_Mo_bitsOf_25 : opAt m_Mo_bitsOf 25 = sIret .int := rfl
theorem i_Mo_mend_0 : opAt m_Mo_mend 0 = sAld 0 1 := rfl
theorem i_Mo_mend_1 : opAt m_Mo_mend 1 = sIld 1 2 := rfl
theorem i_Mo_mend_2 : opAt m_Mo_mend 2 = sVir [(11, m_Mo_isPrint)] 0 1 5 := rfl
theorem i_Mo_mend_5 : opAt m_Mo_mend 5 = sIf .ne 11 8 := rfl
theorem i_Mo_mend_8 : opAt m_Mo_mend 8 = sPush (.int (Int8.ofInt (-101)).toInt32) 10 := rfl
theorem i_Mo_mend_10 : opAt m_Mo_mend 10 = sIret .int := rfl
theorem i_Mo_mend_11 : opAt m_Mo_mend 11 = sAld 0 12 := rfl
theorem i_Mo_mend_12 : opAt m_Mo_mend 12 = sGet [(11, 13)] 15 := rfl
theorem i_Mo_mend_15 : opAt m_Mo_mend 15 = sIld 1 16 := rfl
theorem i_Mo_mend_16 : opAt m_Mo_mend 16 = sIal 17 := rfl
theorem i_Mo_mend_17 : opAt m_Mo_mend 17 = sIst 4 19 := rfl
theorem i_Mo_mend_19 : opAt m_Mo_mend 19 = sIld 2 20 := rfl
theorem i_Mo_mend_20 : opAt m_Mo_mend 20 = sIL 21 := rfl
theorem i_Mo_mend_21 : opAt m_Mo_mend 21 = sPush (.long (Int64.ofNat ((0 : Fin 2) : Nat))) 22 := rfl
theorem i_Mo_mend_22 : opAt m_Mo_mend 22 = sIld 4 24 := rfl
theorem i_Mo_mend_24 : opAt m_Mo_mend 24 = sPush (.int (Int32.ofInt 1)) 25 := rfl
theorem i_Mo_mend_25 : opAt m_Mo_mend 25 = sBI (fun x y => x - y) 26 := rfl
theorem i_Mo_mend_26 : opAt m_Mo_mend 26 = sIL 27 := rfl
theorem i_Mo_mend_27 : opAt m_Mo_mend 27 = sSta m_Mo_in 0 3 30 := rfl
theorem i_Mo_mend_30 : opAt m_Mo_mend 30 = sIf .eq 58 33 := rfl
theorem i_Mo_mend_33 : opAt m_Mo_mend 33 = sIld 3 34 := rfl
theorem i_Mo_mend_34 : opAt m_Mo_mend 34 = sIL 35 := rfl
theorem i_Mo_mend_35 : opAt m_Mo_mend 35 = sIld 2 36 := rfl
theorem i_Mo_mend_36 : opAt m_Mo_mend 36 = sIL 37 := rfl
theorem i_Mo_mend_37 : opAt m_Mo_mend 37 = sIld 4 39 := rfl
theorem i_Mo_mend_39 : opAt m_Mo_mend 39 = sPush (.int (Int32.ofInt 1)) 40 := rfl
theorem i_Mo_mend_40 : opAt m_Mo_mend 40 = sBI (fun x y => x - y) 41 := rfl
theorem i_Mo_mend_41 : opAt m_Mo_mend 41 = sIL 42 := rfl
theorem i_Mo_mend_42 : opAt m_Mo_mend 42 = sSta m_Mo_in 0 3 45 := rfl
theorem i_Mo_mend_45 : opAt m_Mo_mend 45 = sIf .eq 58 48 := rfl
theorem i_Mo_mend_48 : opAt m_Mo_mend 48 = sIld 3 49 := rfl
theorem i_Mo_mend_49 : opAt m_Mo_mend 49 = sIld 2 50 := rfl
theorem i_Mo_mend_50 : opAt m_Mo_mend 50 = sBI (fun x y => x - y) 51 := rfl
theorem i_Mo_mend_51 : opAt m_Mo_mend 51 = sPush (.int (Int32.ofInt 1)) 52 := rfl
theorem i_Mo_mend_52 : opAt m_Mo_mend 52 = sBI (fun x y => x + y) 53 := rfl
theorem i_Mo_mend_53 : opAt m_Mo_mend 53 = sIld 4 55 := rfl
theorem i_Mo_mend_55 : opAt m_Mo_mend 55 = sCm .ne 61 58 := rfl
theorem i_Mo_mend_58 : opAt m_Mo_mend 58 = sPush (.int (Int8.ofInt (-102)).toInt32) 60 := rfl
theorem i_Mo_mend_60 : opAt m_Mo_mend 60 = sIret .int := rfl
theorem i_Mo_mend_61 : opAt m_Mo_mend 61 = sIld 3 62 := rfl
theorem i_Mo_mend_62 : opAt m_Mo_mend 62 = sIld 2 63 := rfl
theorem i_Mo_mend_63 : opAt m_Mo_mend 63 = sBI (fun x y => x - y) 64 := rfl
theorem i_Mo_mend_64 : opAt m_Mo_mend 64 = sPush (.int (Int32.ofInt 1)) 65 := rfl
theorem i_Mo_mend_65 : opAt m_Mo_mend 65 = sBI (fun x y => x + y) 66 := rfl
theorem i_Mo_mend_66 : opAt m_Mo_mend 66 = sIst 5 68 := rfl
theorem i_Mo_mend_68 : opAt m_Mo_mend 68 = sIld 2 69 := rfl
theorem i_Mo_mend_69 : opAt m_Mo_mend 69 = sIst 6 71 := rfl
theorem i_Mo_mend_71 : opAt m_Mo_mend 71 = sIld 6 73 := rfl
theorem i_Mo_mend_73 : opAt m_Mo_mend 73 = sIld 5 75 := rfl
theorem i_Mo_mend_75 : opAt m_Mo_mend 75 = sBI (fun x y => x + y) 76 := rfl
theorem i_Mo_mend_76 : opAt m_Mo_mend 76 = sIld 4 78 := rfl
theorem i_Mo_mend_78 : opAt m_Mo_mend 78 = sCm .ge 168 81 := rfl
theorem i_Mo_mend_81 : opAt m_Mo_mend 81 = sAld 0 82 := rfl
theorem i_Mo_mend_82 : opAt m_Mo_mend 82 = sGet [(11, 14)] 85 := rfl
theorem i_Mo_mend_85 : opAt m_Mo_mend 85 = sPush (.int (Int8.ofInt 48).toInt32) 87 := rfl
theorem i_Mo_mend_87 : opAt m_Mo_mend 87 = sIld 1 88 := rfl
theorem i_Mo_mend_88 : opAt m_Mo_mend 88 = sBI (fun x y => x * y) 89 := rfl
theorem i_Mo_mend_89 : opAt m_Mo_mend 89 = sIld 6 91 := rfl
theorem i_Mo_mend_91 : opAt m_Mo_mend 91 = sBI (fun x y => x + y) 92 := rfl
theorem i_Mo_mend_92 : opAt m_Mo_mend 92 = sAld 0 93 := rfl
theorem i_Mo_mend_93 : opAt m_Mo_mend 93 = sGet [(11, 14)] 96 := rfl
theorem i_Mo_mend_96 : opAt m_Mo_mend 96 = sPush (.int (Int8.ofInt 48).toInt32) 98 := rfl
theorem i_Mo_mend_98 : opAt m_Mo_mend 98 = sIld 1 99 := rfl
theorem i_Mo_mend_99 : opAt m_Mo_mend 99 = sBI (fun x y => x * y) 100 := rfl
theorem i_Mo_mend_100 : opAt m_Mo_mend 100 = sIld 6 102 := rfl
theorem i_Mo_mend_102 : opAt m_Mo_mend 102 = sBI (fun x y => x + y) 103 := rfl
theorem i_Mo_mend_103 : opAt m_Mo_mend 103 = sIld 5 105 := rfl
theorem i_Mo_mend_105 : opAt m_Mo_mend 105 = sBI (fun x y => x + y) 106 := rfl
theorem i_Mo_mend_106 : opAt m_Mo_mend 106 = sIal 107 := rfl
theorem i_Mo_mend_107 : opAt m_Mo_mend 107 = sIas 108 := rfl
theorem i_Mo_mend_108 : opAt m_Mo_mend 108 = sAld 0 109 := rfl
theorem i_Mo_mend_109 : opAt m_Mo_mend 109 = sGet [(11, 15)] 112 := rfl
theorem i_Mo_mend_112 : opAt m_Mo_mend 112 = sPush (.int (Int8.ofInt 48).toInt32) 114 := rfl
theorem i_Mo_mend_114 : opAt m_Mo_mend 114 = sIld 1 115 := rfl
theorem i_Mo_mend_115 : opAt m_Mo_mend 115 = sBI (fun x y => x * y) 116 := rfl
theorem i_Mo_mend_116 : opAt m_Mo_mend 116 = sIld 6 118 := rfl
theorem i_Mo_mend_118 : opAt m_Mo_mend 118 = sBI (fun x y => x + y) 119 := rfl
theorem i_Mo_mend_119 : opAt m_Mo_mend 119 = sAld 0 120 := rfl
theorem i_Mo_mend_120 : opAt m_Mo_mend 120 = sGet [(11, 15)] 123 := rfl
theorem i_Mo_mend_123 : opAt m_Mo_mend 123 = sPush (.int (Int8.ofInt 48).toInt32) 125 := rfl
theorem i_Mo_mend_125 : opAt m_Mo_mend 125 = sIld 1 126 := rfl
theorem i_Mo_mend_126 : opAt m_Mo_mend 126 = sBI (fun x y => x * y) 127 := rfl
theorem i_Mo_mend_127 : opAt m_Mo_mend 127 = sIld 6 129 := rfl
theorem i_Mo_mend_129 : opAt m_Mo_mend 129 = sBI (fun x y => x + y) 130 := rfl
theorem i_Mo_mend_130 : opAt m_Mo_mend 130 = sIld 5 132 := rfl
theorem i_Mo_mend_132 : opAt m_Mo_mend 132 = sBI (fun x y => x + y) 133 := rfl
theorem i_Mo_mend_133 : opAt m_Mo_mend 133 = sIal 134 := rfl
theorem i_Mo_mend_134 : opAt m_Mo_mend 134 = sIas 135 := rfl
theorem i_Mo_mend_135 : opAt m_Mo_mend 135 = sAld 0 136 := rfl
theorem i_Mo_mend_136 : opAt m_Mo_mend 136 = sGet [(11, 16)] 139 := rfl
theorem i_Mo_mend_139 : opAt m_Mo_mend 139 = sPush (.int (Int8.ofInt 48).toInt32) 141 := rfl
theorem i_Mo_mend_141 : opAt m_Mo_mend 141 = sIld 1 142 := rfl
theorem i_Mo_mend_142 : opAt m_Mo_mend 142 = sBI (fun x y => x * y) 143 := rfl
theorem i_Mo_mend_143 : opAt m_Mo_mend 143 = sIld 6 145 := rfl
theorem i_Mo_mend_145 : opAt m_Mo_mend 145 = sBI (fun x y => x + y) 146 := rfl
theorem i_Mo_mend_146 : opAt m_Mo_mend 146 = sAld 0 147 := rfl
theorem i_Mo_mend_147 : opAt m_Mo_mend 147 = sGet [(11, 16)] 150 := rfl
theorem i_Mo_mend_150 : opAt m_Mo_mend 150 = sPush (.int (Int8.ofInt 48).toInt32) 152 := rfl
theorem i_Mo_mend_152 : opAt m_Mo_mend 152 = sIld 1 153 := rfl
theorem i_Mo_mend_153 : opAt m_Mo_mend 153 = sBI (fun x y => x * y) 154 := rfl
theorem i_Mo_mend_154 : opAt m_Mo_mend 154 = sIld 6 156 := rfl
theorem i_Mo_mend_156 : opAt m_Mo_mend 156 = sBI (fun x y => x + y) 157 := rfl
theorem i_Mo_mend_157 : opAt m_Mo_mend 157 = sIld 5 159 := rfl
theorem i_Mo_mend_159 : opAt m_Mo_mend 159 = sBI (fun x y => x + y) 160 := rfl
theorem i_Mo_mend_160 : opAt m_Mo_mend 160 = sIal 161 := rfl
theorem i_Mo_mend_161 : opAt m_Mo_mend 161 = sIas 162 := rfl
theorem i_Mo_mend_162 : opAt m_Mo_mend 162 = sInc 6 1 165 := rfl
theorem i_Mo_mend_165 : opAt m_Mo_mend 165 = sGo 71 := rfl
theorem i_Mo_mend_168 : opAt m_Mo_mend 168 = sAld 0 169 := rfl
theorem i_Mo_mend_169 : opAt m_Mo_mend 169 = sGet [(11, 13)] 172 := rfl
theorem i_Mo_mend_172 : opAt m_Mo_mend 172 = sIld 1 173 := rfl
theorem i_Mo_mend_173 : opAt m_Mo_mend 173 = sIld 4 175 := rfl
theorem i_Mo_mend_175 : opAt m_Mo_mend 175 = sIld 5 177 := rfl
theorem i_Mo_mend_177 : opAt m_Mo_mend 177 = sBI (fun x y => x - y) 178 := rfl
theorem i_Mo_mend_178 : opAt m_Mo_mend 178 = sIas 179 := rfl
theorem i_Mo_mend_179 : opAt m_Mo_mend 179 = sAld 0 180 := rfl
theorem i_Mo_mend_180 : opAt m_Mo_mend 180 = sGet [(11, 13)] 183 := rfl
theorem i_Mo_mend_183 : opAt m_Mo_mend 183 = sIld 1 184 := rfl
theorem i_Mo_mend_184 : opAt m_Mo_mend 184 = sIal 185 := rfl
theorem i_Mo_mend_185 : opAt m_Mo_mend 185 = sIret .int := rfl
theorem i_Mo_copy_0 : opAt m_Mo_copy 0 = sAld 0 1 := rfl
theorem i_Mo_copy_1 : opAt m_Mo_copy 1 = sIld 1 2 := rfl
theorem i_Mo_copy_2 : opAt m_Mo_copy 2 = sVir [(11, m_Mo_isPrint)] 0 1 5 := rfl
theorem i_Mo_copy_5 : opAt m_Mo_copy 5 = sIf .ne 11 8 := rfl
theorem i_Mo_copy_8 : opAt m_Mo_copy 8 = sPush (.int (Int8.ofInt (-101)).toInt32) 10 := rfl
theorem i_Mo_copy_10 : opAt m_Mo_copy 10 = sIret .int := rfl
theorem i_Mo_copy_11 : opAt m_Mo_copy 11 = sAld 0 12 := rfl
theorem i_Mo_copy_12 : opAt m_Mo_copy 12 = sGet [(11, 12)] 15 := rfl
theorem i_Mo_copy_15 : opAt m_Mo_copy 15 = sPush (.int (Int8.ofInt 6).toInt32) 17 := rfl
theorem i_Mo_copy_17 : opAt m_Mo_copy 17 = sCm .ne 23 20 := rfl
theorem i_Mo_copy_20 : opAt m_Mo_copy 20 = sPush (.int (Int8.ofInt (-104)).toInt32) 22 := rfl
theorem i_Mo_copy_22 : opAt m_Mo_copy 22 = sIret .int := rfl
theorem i_Mo_copy_23 : opAt m_Mo_copy 23 = sAld 0 24 := rfl
theorem i_Mo_copy_24 : opAt m_Mo_copy 24 = sGet [(11, 13)] 27 := rfl
theorem i_Mo_copy_27 : opAt m_Mo_copy 27 = sAld 0 28 := rfl
theorem i_Mo_copy_28 : opAt m_Mo_copy 28 = sGet [(11, 12)] 31 := rfl
theorem i_Mo_copy_31 : opAt m_Mo_copy 31 = sAld 0 32 := rfl
theorem i_Mo_copy_32 : opAt m_Mo_copy 32 = sGet [(11, 13)] 35 := rfl
theorem i_Mo_copy_35 : opAt m_Mo_copy 35 = sIld 1 36 := rfl
theorem i_Mo_copy_36 : opAt m_Mo_copy 36 = sIal 37 := rfl
theorem i_Mo_copy_37 : opAt m_Mo_copy 37 = sIas 38 := rfl
theorem i_Mo_copy_38 : opAt m_Mo_copy 38 = sPush (.int (Int32.ofInt 0)) 39 := rfl
theorem i_Mo_copy_39 : opAt m_Mo_copy 39 = sIst 2 40 := rfl
theorem i_Mo_copy_40 : opAt m_Mo_copy 40 = sIld 2 41 := rfl
theorem i_Mo_copy_41 : opAt m_Mo_copy 41 = sAld 0 42 := rfl
theorem i_Mo_copy_42 : opAt m_Mo_copy 42 = sGet [(11, 13)] 45 := rfl
theorem i_Mo_copy_45 : opAt m_Mo_copy 45 = sIld 1 46 := rfl
theorem i_Mo_copy_46 : opAt m_Mo_copy 46 = sIal 47 := rfl
theorem i_Mo_copy_47 : opAt m_Mo_copy 47 = sCm .ge 133 50 := rfl
theorem i_Mo_copy_50 : opAt m_Mo_copy 50 = sAld 0 51 := rfl
theorem i_Mo_copy_51 : opAt m_Mo_copy 51 = sGet [(11, 14)] 54 := rfl
theorem i_Mo_copy_54 : opAt m_Mo_copy 54 = sPush (.int (Int8.ofInt 48).toInt32) 56 := rfl
theorem i_Mo_copy_56 : opAt m_Mo_copy 56 = sAld 0 57 := rfl
theorem i_Mo_copy_57 : opAt m_Mo_copy 57 = sGet [(11, 12)] 60 := rfl
theorem i_Mo_copy_60 : opAt m_Mo_copy 60 = sBI (fun x y => x * y) 61 := rfl
theorem i_Mo_copy_61 : opAt m_Mo_copy 61 = sIld 2 62 := rfl
theorem i_Mo_copy_62 : opAt m_Mo_copy 62 = sBI (fun x y => x + y) 63 := rfl
theorem i_Mo_copy_63 : opAt m_Mo_copy 63 = sAld 0 64 := rfl
theorem i_Mo_copy_64 : opAt m_Mo_copy 64 = sGet [(11, 14)] 67 := rfl
theorem i_Mo_copy_67 : opAt m_Mo_copy 67 = sPush (.int (Int8.ofInt 48).toInt32) 69 := rfl
theorem i_Mo_copy_69 : opAt m_Mo_copy 69 = sIld 1 70 := rfl
theorem i_Mo_copy_70 : opAt m_Mo_copy 70 = sBI (fun x y => x * y) 71 := rfl
theorem i_Mo_copy_71 : opAt m_Mo_copy 71 = sIld 2 72 := rfl
theorem i_Mo_copy_72 : opAt m_Mo_copy 72 = sBI (fun x y => x + y) 73 := rfl
theorem i_Mo_copy_73 : opAt m_Mo_copy 73 = sIal 74 := rfl
theorem i_Mo_copy_74 : opAt m_Mo_copy 74 = sIas 75 := rfl
theorem i_Mo_copy_75 : opAt m_Mo_copy 75 = sAld 0 76 := rfl
theorem i_Mo_copy_76 : opAt m_Mo_copy 76 = sGet [(11, 15)] 79 := rfl
theorem i_Mo_copy_79 : opAt m_Mo_copy 79 = sPush (.int (Int8.ofInt 48).toInt32) 81 := rfl
theorem i_Mo_copy_81 : opAt m_Mo_copy 81 = sAld 0 82 := rfl
theorem i_Mo_copy_82 : opAt m_Mo_copy 82 = sGet [(11, 12)] 85 := rfl
theorem i_Mo_copy_85 : opAt m_Mo_copy 85 = sBI (fun x y => x * y) 86 := rfl
theorem i_Mo_copy_86 : opAt m_Mo_copy 86 = sIld 2 87 := rfl
theorem i_Mo_copy_87 : opAt m_Mo_copy 87 = sBI (fun x y => x + y) 88 := rfl
theorem i_Mo_copy_88 : opAt m_Mo_copy 88 = sPush (.int (Int32.ofInt 0)) 89 := rfl
theorem i_Mo_copy_89 : opAt m_Mo_copy 89 = sIas 90 := rfl
theorem i_Mo_copy_90 : opAt m_Mo_copy 90 = sAld 0 91 := rfl
theorem i_Mo_copy_91 : opAt m_Mo_copy 91 = sGet [(11, 16)] 94 := rfl
theorem i_Mo_copy_94 : opAt m_Mo_copy 94 = sPush (.int (Int8.ofInt 48).toInt32) 96 := rfl
theorem i_Mo_copy_96 : opAt m_Mo_copy 96 = sAld 0 97 := rfl
theorem i_Mo_copy_97 : opAt m_Mo_copy 97 = sGet [(11, 12)] 100 := rfl
theorem i_Mo_copy_100 : opAt m_Mo_copy 100 = sBI (fun x y => x * y) 101 := rfl
theorem i_Mo_copy_101 : opAt m_Mo_copy 101 = sIld 2 102 := rfl
theorem i_Mo_copy_102 : opAt m_Mo_copy 102 = sBI (fun x y => x + y) 103 := rfl
theorem i_Mo_copy_103 : opAt m_Mo_copy 103 = sAld 0 104 := rfl
theorem i_Mo_copy_104 : opAt m_Mo_copy 104 = sGet [(11, 15)] 107 := rfl
theorem i_Mo_copy_107 : opAt m_Mo_copy 107 = sPush (.int (Int8.ofInt 48).toInt32) 109 := rfl
theorem i_Mo_copy_109 : opAt m_Mo_copy 109 = sIld 1 110 := rfl
theorem i_Mo_copy_110 : opAt m_Mo_copy 110 = sBI (fun x y => x * y) 111 := rfl
theorem i_Mo_copy_111 : opAt m_Mo_copy 111 = sIld 2 112 := rfl
theorem i_Mo_copy_112 : opAt m_Mo_copy 112 = sBI (fun x y => x + y) 113 := rfl
theorem i_Mo_copy_113 : opAt m_Mo_copy 113 = sIal 114 := rfl
theorem i_Mo_copy_114 : opAt m_Mo_copy 114 = sAld 0 115 := rfl
theorem i_Mo_copy_115 : opAt m_Mo_copy 115 = sGet [(11, 16)] 118 := rfl
theorem i_Mo_copy_118 : opAt m_Mo_copy 118 = sPush (.int (Int8.ofInt 48).toInt32) 120 := rfl
theorem i_Mo_copy_120 : opAt m_Mo_copy 120 = sIld 1 121 := rfl
theorem i_Mo_copy_121 : opAt m_Mo_copy 121 = sBI (fun x y => x * y) 122 := rfl
theorem i_Mo_copy_122 : opAt m_Mo_copy 122 = sIld 2 123 := rfl
theorem i_Mo_copy_123 : opAt m_Mo_copy 123 = sBI (fun x y => x + y) 124 := rfl
theorem i_Mo_copy_124 : opAt m_Mo_copy 124 = sIal 125 := rfl
theorem i_Mo_copy_125 : opAt m_Mo_copy 125 = sBI (fun x y => x ||| y) 126 := rfl
theorem i_Mo_copy_126 : opAt m_Mo_copy 126 = sIas 127 := rfl
theorem i_Mo_copy_127 : opAt m_Mo_copy 127 = sInc 2 1 130 := rfl
theorem i_Mo_copy_130 : opAt m_Mo_copy 130 = sGo 40 := rfl
theorem i_Mo_copy_133 : opAt m_Mo_copy 133 = sAld 0 134 := rfl
theorem i_Mo_copy_134 : opAt m_Mo_copy 134 = sDup 135 := rfl
theorem i_Mo_copy_135 : opAt m_Mo_copy 135 = sGet [(11, 12)] 138 := rfl
theorem i_Mo_copy_138 : opAt m_Mo_copy 138 = sPush (.int (Int32.ofInt 1)) 139 := rfl
theorem i_Mo_copy_139 : opAt m_Mo_copy 139 = sBI (fun x y => x + y) 140 := rfl
theorem i_Mo_copy_140 : opAt m_Mo_copy 140 = sPut [(11, 12)] (.int) 143 := rfl
theorem i_Mo_copy_143 : opAt m_Mo_copy 143 = sAld 0 144 := rfl
theorem i_Mo_copy_144 : opAt m_Mo_copy 144 = sGet [(11, 12)] 147 := rfl
theorem i_Mo_copy_147 : opAt m_Mo_copy 147 = sPush (.int (Int32.ofInt 1)) 148 := rfl
theorem i_Mo_copy_148 : opAt m_Mo_copy 148 = sBI (fun x y => x - y) 149 := rfl
theorem i_Mo_copy_149 : opAt m_Mo_copy 149 = sIret .int := rfl
theorem i_Mo_mark_0 : opAt m_Mo_mark 0 = sAld 0 1 := rfl
theorem i_Mo_mark_1 : opAt m_Mo_mark 1 = sIld 1 2 := rfl
theorem i_Mo_mark_2 : opAt m_Mo_mark 2 = sIld 2 3 := rfl
theorem i_Mo_mark_3 : opAt m_Mo_mark 3 = sVir [(11, m_Mo_isPicture)] 0 2 6 := rfl
theorem i_Mo_mark_6 : opAt m_Mo_mark 6 = sIf .ne 12 9 := rfl
theorem i_Mo_mark_9 : opAt m_Mo_mark 9 = sPush (.int (Int8.ofInt (-101)).toInt32) 11 := rfl
theorem i_Mo_mark_11 : opAt m_Mo_mark 11 = sIret .int := rfl
theorem i_Mo_mark_12 : opAt m_Mo_mark 12 = sIld 3 13 := rfl
theorem i_Mo_mark_13 : opAt m_Mo_mark 13 = sSta m_Mo_isSide 0 1 16 := rfl
theorem i_Mo_mark_16 : opAt m_Mo_mark 16 = sIf .eq 30 19 := rfl
theorem i_Mo_mark_19 : opAt m_Mo_mark 19 = sIld 4 21 := rfl
theorem i_Mo_mark_21 : opAt m_Mo_mark 21 = sIL 22 := rfl
theorem i_Mo_mark_22 : opAt m_Mo_mark 22 = sPush (.long (Int64.ofNat ((0 : Fin 2) : Nat))) 23 := rfl
theorem i_Mo_mark_23 : opAt m_Mo_mark 23 = sPush (.long (Int64.ofNat ((1 : Fin 2) : Nat))) 24 := rfl
theorem i_Mo_mark_24 : opAt m_Mo_mark 24 = sSta m_Mo_in 0 3 27 := rfl
theorem i_Mo_mark_27 : opAt m_Mo_mark 27 = sIf .ne 33 30 := rfl
theorem i_Mo_mark_30 : opAt m_Mo_mark 30 = sPush (.int (Int8.ofInt (-102)).toInt32) 32 := rfl
theorem i_Mo_mark_32 : opAt m_Mo_mark 32 = sIret .int := rfl
theorem i_Mo_mark_33 : opAt m_Mo_mark 33 = sPush (.int (Int8.ofInt 48).toInt32) 35 := rfl
theorem i_Mo_mark_35 : opAt m_Mo_mark 35 = sIld 1 36 := rfl
theorem i_Mo_mark_36 : opAt m_Mo_mark 36 = sBI (fun x y => x * y) 37 := rfl
theorem i_Mo_mark_37 : opAt m_Mo_mark 37 = sIld 2 38 := rfl
theorem i_Mo_mark_38 : opAt m_Mo_mark 38 = sBI (fun x y => x + y) 39 := rfl
theorem i_Mo_mark_39 : opAt m_Mo_mark 39 = sIst 6 41 := rfl
theorem i_Mo_mark_41 : opAt m_Mo_mark 41 = sIld 4 43 := rfl
theorem i_Mo_mark_43 : opAt m_Mo_mark 43 = sIf .ne 56 46 := rfl
theorem i_Mo_mark_46 : opAt m_Mo_mark 46 = sAld 0 47 := rfl
theorem i_Mo_mark_47 : opAt m_Mo_mark 47 = sGet [(11, 15)] 50 := rfl
theorem i_Mo_mark_50 : opAt m_Mo_mark 50 = sIld 6 52 := rfl
theorem i_Mo_mark_52 : opAt m_Mo_mark 52 = sIal 53 := rfl
theorem i_Mo_mark_53 : opAt m_Mo_mark 53 = sGo 63 := rfl
theorem i_Mo_mark_56 : opAt m_Mo_mark 56 = sAld 0 57 := rfl
theorem i_Mo_mark_57 : opAt m_Mo_mark 57 = sGet [(11, 16)] 60 := rfl
theorem i_Mo_mark_60 : opAt m_Mo_mark 60 = sIld 6 62 := rfl
theorem i_Mo_mark_62 : opAt m_Mo_mark 62 = sIal 63 := rfl
theorem i_Mo_mark_63 : opAt m_Mo_mark 63 = sIst 7 65 := rfl
theorem i_Mo_mark_65 : opAt m_Mo_mark 65 = sIld 7 67 := rfl
theorem i_Mo_mark_67 : opAt m_Mo_mark 67 = sIld 3 68 := rfl
theorem i_Mo_mark_68 : opAt m_Mo_mark 68 = sBI (fun x y => x >>> (y &&& 31)) 69 := rfl
theorem i_Mo_mark_69 : opAt m_Mo_mark 69 = sPush (.int (Int32.ofInt 1)) 70 := rfl
theorem i_Mo_mark_70 : opAt m_Mo_mark 70 = sBI (fun x y => x &&& y) 71 := rfl
theorem i_Mo_mark_71 : opAt m_Mo_mark 71 = sPush (.int (Int32.ofInt 1)) 72 := rfl
theorem i_Mo_mark_72 : opAt m_Mo_mark 72 = sCm .ne 79 75 := rfl
theorem i_Mo_mark_75 : opAt m_Mo_mark 75 = sPush (.int (Int32.ofInt 1)) 76 := rfl
theorem i_Mo_mark_76 : opAt m_Mo_mark 76 = sGo 80 := rfl
theorem i_Mo_mark_79 : opAt m_Mo_mark 79 = sPush (.int (Int32.ofInt 0)) 80 := rfl
theorem i_Mo_mark_80 : opAt m_Mo_mark 80 = sIst 8 82 := rfl
theorem i_Mo_mark_82 : opAt m_Mo_mark 82 = sIld 8 84 := rfl
theorem i_Mo_mark_84 : opAt m_Mo_mark 84 = sIld 5 86 := rfl
theorem i_Mo_mark_86 : opAt m_Mo_mark 86 = sCm .ne 91 89 := rfl
theorem i_Mo_mark_89 : opAt m_Mo_mark 89 = sPush (.int (Int32.ofInt 0)) 90 := rfl
theorem i_Mo_mark_90 : opAt m_Mo_mark 90 = sIret .int := rfl
theorem i_Mo_mark_91 : opAt m_Mo_mark 91 = sIld 7 93 := rfl
theorem i_Mo_mark_93 : opAt m_Mo_mark 93 = sIld 5 95 := rfl
theorem i_Mo_mark_95 : opAt m_Mo_mark 95 = sIf .eq 104 98 := rfl
theorem i_Mo_mark_98 : opAt m_Mo_mark 98 = sPush (.int (Int32.ofInt 1)) 99 := rfl
theorem i_Mo_mark_99 : opAt m_Mo_mark 99 = sIld 3 100 := rfl
theorem i_Mo_mark_100 : opAt m_Mo_mark 100 = sBI (fun x y => x <<< (y &&& 31)) 101 := rfl
theorem i_Mo_mark_101 : opAt m_Mo_mark 101 = sGo 108 := rfl
theorem i_Mo_mark_104 : opAt m_Mo_mark 104 = sPush (.int (Int32.ofInt 1)) 105 := rfl
theorem i_Mo_mark_105 : opAt m_Mo_mark 105 = sIld 3 106 := rfl
theorem i_Mo_mark_106 : opAt m_Mo_mark 106 = sBI (fun x y => x <<< (y &&& 31)) 107 := rfl
theorem i_Mo_mark_107 : opAt m_Mo_mark 107 = sUI (fun x => -x) 108 := rfl
theorem i_Mo_mark_108 : opAt m_Mo_mark 108 = sBI (fun x y => x + y) 109 := rfl
theorem i_Mo_mark_109 : opAt m_Mo_mark 109 = sIst 7 111 := rfl
theorem i_Mo_mark_111 : opAt m_Mo_mark 111 = sAld 0 112 := rfl
theorem i_Mo_mark_112 : opAt m_Mo_mark 112 = sGet [(11, 15)] 115 := rfl
theorem i_Mo_mark_115 : opAt m_Mo_mark 115 = sIld 6 117 := rfl
theorem i_Mo_mark_117 : opAt m_Mo_mark 117 = sIld 4 119 := rfl
theorem i_Mo_mark_119 : opAt m_Mo_mark 119 = sIf .ne 127 122 := rfl
theorem i_Mo_mark_122 : opAt m_Mo_mark 122 = sIld 7 124 := rfl
theorem i_Mo_mark_124 : opAt m_Mo_mark 124 = sGo 134 := rfl
theorem i_Mo_mark_127 : opAt m_Mo_mark 127 = sAld 0 128 := rfl
theorem i_Mo_mark_128 : opAt m_Mo_mark 128 = sGet [(11, 15)] 131 := rfl
theorem i_Mo_mark_131 : opAt m_Mo_mark 131 = sIld 6 133 := rfl
theorem i_Mo_mark_133 : opAt m_Mo_mark 133 = sIal 134 := rfl
theorem i_Mo_mark_134 : opAt m_Mo_mark 134 = sIas 135 := rfl
theorem i_Mo_mark_135 : opAt m_Mo_mark 135 = sAld 0 136 := rfl
theorem i_Mo_mark_136 : opAt m_Mo_mark 136 = sGet [(11, 16)] 139 := rfl
theorem i_Mo_mark_139 : opAt m_Mo_mark 139 = sIld 6 141 := rfl
theorem i_Mo_mark_141 : opAt m_Mo_mark 141 = sIld 4 143 := rfl
theorem i_Mo_mark_143 : opAt m_Mo_mark 143 = sIf .ne 156 146 := rfl
theorem i_Mo_mark_146 : opAt m_Mo_mark 146 = sAld 0 147 := rfl
theorem i_Mo_mark_147 : opAt m_Mo_mark 147 = sGet [(11, 16)] 150 := rfl
theorem i_Mo_mark_150 : opAt m_Mo_mark 150 = sIld 6 152 := rfl
theorem i_Mo_mark_152 : opAt m_Mo_mark 152 = sIal 153 := rfl
theorem i_Mo_mark_153 : opAt m_Mo_mark 153 = sGo 158 := rfl
theorem i_Mo_mark_156 : opAt m_Mo_mark 156 = sIld 7 158 := rfl
theorem i_Mo_mark_158 : opAt m_Mo_mark 158 = sIas 159 := rfl
theorem i_Mo_mark_159 : opAt m_Mo_mark 159 = sPush (.int (Int32.ofInt 1)) 160 := rfl
theorem i_Mo_mark_160 : opAt m_Mo_mark 160 = sIret .int := rfl
theorem i_Mo_isPicture_0 : opAt m_Mo_isPicture 0 = sAld 0 1 := rfl
theorem i_Mo_isPicture_1 : opAt m_Mo_isPicture 1 = sIld 1 2 := rfl
theorem i_Mo_isPicture_2 : opAt m_Mo_isPicture 2 = sVir [(11, m_Mo_isPrint)] 0 1 5 := rfl
theorem i_Mo_isPicture_5 : opAt m_Mo_isPicture 5 = sIf .eq 30 8 := rfl
theorem i_Mo_isPicture_8 : opAt m_Mo_isPicture 8 = sIld 2 9 := rfl
theorem i_Mo_isPicture_9 : opAt m_Mo_isPicture 9 = sIL 10 := rfl
theorem i_Mo_isPicture_10 : opAt m_Mo_isPicture 10 = sPush (.long (Int64.ofNat ((0 : Fin 2) : Nat))) 11 := rfl
theorem i_Mo_isPicture_11 : opAt m_Mo_isPicture 11 = sAld 0 12 := rfl
theorem i_Mo_isPicture_12 : opAt m_Mo_isPicture 12 = sGet [(11, 13)] 15 := rfl
theorem i_Mo_isPicture_15 : opAt m_Mo_isPicture 15 = sIld 1 16 := rfl
theorem i_Mo_isPicture_16 : opAt m_Mo_isPicture 16 = sIal 17 := rfl
theorem i_Mo_isPicture_17 : opAt m_Mo_isPicture 17 = sPush (.int (Int32.ofInt 1)) 18 := rfl
theorem i_Mo_isPicture_18 : opAt m_Mo_isPicture 18 = sBI (fun x y => x - y) 19 := rfl
theorem i_Mo_isPicture_19 : opAt m_Mo_isPicture 19 = sIL 20 := rfl
theorem i_Mo_isPicture_20 : opAt m_Mo_isPicture 20 = sSta m_Mo_in 0 3 23 := rfl
theorem i_Mo_isPicture_23 : opAt m_Mo_isPicture 23 = sIf .eq 30 26 := rfl
theorem i_Mo_isPicture_26 : opAt m_Mo_isPicture 26 = sPush (.int (Int32.ofInt 1)) 27 := rfl
theorem i_Mo_isPicture_27 : opAt m_Mo_isPicture 27 = sGo 31 := rfl
theorem i_Mo_isPicture_30 : opAt m_Mo_isPicture 30 = sPush (.int (Int32.ofInt 0)) 31 := rfl
theorem i_Mo_isPicture_31 : opAt m_Mo_isPicture 31 = sIret .boolean := rfl
theorem i_Mo_isSide_0 : opAt m_Mo_isSide 0 = sIld 0 1 := rfl
theorem i_Mo_isSide_1 : opAt m_Mo_isSide 1 = sIL 2 := rfl
theorem i_Mo_isSide_2 : opAt m_Mo_isSide 2 = sPush (.long (Int64.ofNat ((0 : Fin 2) : Nat))) 3 := rfl
theorem i_Mo_isSide_3 : opAt m_Mo_isSide 3 = sPush (.long (7)) 6 := rfl
theorem i_Mo_isSide_6 : opAt m_Mo_isSide 6 = sSta m_Mo_in 0 3 9 := rfl
theorem i_Mo_isSide_9 : opAt m_Mo_isSide 9 = sIret .boolean := rfl
theorem i_Mo_length_0 : opAt m_Mo_length 0 = sAld 0 1 := rfl
theorem i_Mo_length_1 : opAt m_Mo_length 1 = sIld 1 2 := rfl
theorem i_Mo_length_2 : opAt m_Mo_length 2 = sVir [(11, m_Mo_isPrint)] 0 1 5 := rfl
theorem i_Mo_length_5 : opAt m_Mo_length 5 = sIf .eq 17 8 := rfl
theorem i_Mo_length_8 : opAt m_Mo_length 8 = sAld 0 9 := rfl
theorem i_Mo_length_9 : opAt m_Mo_length 9 = sGet [(11, 13)] 12 := rfl
theorem i_Mo_length_12 : opAt m_Mo_length 12 = sIld 1 13 := rfl
theorem i_Mo_length_13 : opAt m_Mo_length 13 = sIal 14 := rfl
theorem i_Mo_length_14 : opAt m_Mo_length 14 = sGo 19 := rfl
theorem i_Mo_length_17 : opAt m_Mo_length 17 = sPush (.int (Int8.ofInt (-101)).toInt32) 19 := rfl
theorem i_Mo_length_19 : opAt m_Mo_length 19 = sIret .int := rfl
