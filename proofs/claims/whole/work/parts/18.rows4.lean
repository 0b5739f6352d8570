/-! EACH INSTRUCTION AS A STEP -/
theorem i_Mo_layTree_0 : opAt m_Mo_layTree 0 = sAld 0 1 := rfl
theorem i_Mo_layTree_1 : opAt m_Mo_layTree 1 = sGet [(11, 12)] 4 := rfl
theorem i_Mo_layTree_4 : opAt m_Mo_layTree 4 = sPush (.int (Int32.ofInt 1)) 5 := rfl
theorem i_Mo_layTree_5 : opAt m_Mo_layTree 5 = sBI (fun x y => x + y) 6 := rfl
theorem i_Mo_layTree_6 : opAt m_Mo_layTree 6 = sIst 2 7 := rfl
theorem i_Mo_layTree_7 : opAt m_Mo_layTree 7 = sPush (.int (Int32.ofInt 1)) 8 := rfl
theorem i_Mo_layTree_8 : opAt m_Mo_layTree 8 = sIst 3 9 := rfl
theorem i_Mo_layTree_9 : opAt m_Mo_layTree 9 = sPush (.int (Int32.ofInt 0)) 10 := rfl
theorem i_Mo_layTree_10 : opAt m_Mo_layTree 10 = sIst 4 12 := rfl
theorem i_Mo_layTree_12 : opAt m_Mo_layTree 12 = sIld 4 14 := rfl
theorem i_Mo_layTree_14 : opAt m_Mo_layTree 14 = sAld 0 15 := rfl
theorem i_Mo_layTree_15 : opAt m_Mo_layTree 15 = sGet [(11, 12)] 18 := rfl
theorem i_Mo_layTree_18 : opAt m_Mo_layTree 18 = sCm .ge 95 21 := rfl
theorem i_Mo_layTree_21 : opAt m_Mo_layTree 21 = sIld 3 22 := rfl
theorem i_Mo_layTree_22 : opAt m_Mo_layTree 22 = sIld 2 23 := rfl
theorem i_Mo_layTree_23 : opAt m_Mo_layTree 23 = sBI (fun x y => x * y) 24 := rfl
theorem i_Mo_layTree_24 : opAt m_Mo_layTree 24 = sIst 3 25 := rfl
theorem i_Mo_layTree_25 : opAt m_Mo_layTree 25 = sPush (.int (Int32.ofInt 0)) 26 := rfl
theorem i_Mo_layTree_26 : opAt m_Mo_layTree 26 = sIst 5 28 := rfl
theorem i_Mo_layTree_28 : opAt m_Mo_layTree 28 = sIld 5 30 := rfl
theorem i_Mo_layTree_30 : opAt m_Mo_layTree 30 = sAld 0 31 := rfl
theorem i_Mo_layTree_31 : opAt m_Mo_layTree 31 = sGet [(11, 12)] 34 := rfl
theorem i_Mo_layTree_34 : opAt m_Mo_layTree 34 = sCm .gt 89 37 := rfl
theorem i_Mo_layTree_37 : opAt m_Mo_layTree 37 = sAld 0 38 := rfl
theorem i_Mo_layTree_38 : opAt m_Mo_layTree 38 = sGet [(11, 21)] 41 := rfl
theorem i_Mo_layTree_41 : opAt m_Mo_layTree 41 = sPush (.int (Int8.ofInt 7).toInt32) 43 := rfl
theorem i_Mo_layTree_43 : opAt m_Mo_layTree 43 = sIld 4 45 := rfl
theorem i_Mo_layTree_45 : opAt m_Mo_layTree 45 = sBI (fun x y => x * y) 46 := rfl
theorem i_Mo_layTree_46 : opAt m_Mo_layTree 46 = sIld 5 48 := rfl
theorem i_Mo_layTree_48 : opAt m_Mo_layTree 48 = sBI (fun x y => x + y) 49 := rfl
theorem i_Mo_layTree_49 : opAt m_Mo_layTree 49 = sIld 5 51 := rfl
theorem i_Mo_layTree_51 : opAt m_Mo_layTree 51 = sIld 4 53 := rfl
theorem i_Mo_layTree_53 : opAt m_Mo_layTree 53 = sCm .ne 60 56 := rfl
theorem i_Mo_layTree_56 : opAt m_Mo_layTree 56 = sPush (.int (Int32.ofInt 0)) 57 := rfl
theorem i_Mo_layTree_57 : opAt m_Mo_layTree 57 = sGo 82 := rfl
theorem i_Mo_layTree_60 : opAt m_Mo_layTree 60 = sAld 0 61 := rfl
theorem i_Mo_layTree_61 : opAt m_Mo_layTree 61 = sIld 4 63 := rfl
theorem i_Mo_layTree_63 : opAt m_Mo_layTree 63 = sIld 5 65 := rfl
theorem i_Mo_layTree_65 : opAt m_Mo_layTree 65 = sAld 0 66 := rfl
theorem i_Mo_layTree_66 : opAt m_Mo_layTree 66 = sGet [(11, 12)] 69 := rfl
theorem i_Mo_layTree_69 : opAt m_Mo_layTree 69 = sCm .ne 76 72 := rfl
theorem i_Mo_layTree_72 : opAt m_Mo_layTree 72 = sPush (.int (Int32.ofInt (-1))) 73 := rfl
theorem i_Mo_layTree_73 : opAt m_Mo_layTree 73 = sGo 78 := rfl
theorem i_Mo_layTree_76 : opAt m_Mo_layTree 76 = sIld 5 78 := rfl
theorem i_Mo_layTree_78 : opAt m_Mo_layTree 78 = sIld 1 79 := rfl
theorem i_Mo_layTree_79 : opAt m_Mo_layTree 79 = sVir [(11, m_Mo_lacksOf)] 0 3 82 := rfl
theorem i_Mo_layTree_82 : opAt m_Mo_layTree 82 = sIas 83 := rfl
theorem i_Mo_layTree_83 : opAt m_Mo_layTree 83 = sInc 5 1 86 := rfl
theorem i_Mo_layTree_86 : opAt m_Mo_layTree 86 = sGo 28 := rfl
theorem i_Mo_layTree_89 : opAt m_Mo_layTree 89 = sInc 4 1 92 := rfl
theorem i_Mo_layTree_92 : opAt m_Mo_layTree 92 = sGo 12 := rfl
theorem i_Mo_layTree_95 : opAt m_Mo_layTree 95 = sPush (.int (Int32.ofInt (-1))) 96 := rfl
theorem i_Mo_layTree_96 : opAt m_Mo_layTree 96 = sIst 4 98 := rfl
theorem i_Mo_layTree_98 : opAt m_Mo_layTree 98 = sPush (.int (Int32.ofInt 0)) 99 := rfl
theorem i_Mo_layTree_99 : opAt m_Mo_layTree 99 = sIst 5 101 := rfl
theorem i_Mo_layTree_101 : opAt m_Mo_layTree 101 = sIld 5 103 := rfl
theorem i_Mo_layTree_103 : opAt m_Mo_layTree 103 = sIld 3 104 := rfl
theorem i_Mo_layTree_104 : opAt m_Mo_layTree 104 = sCm .ge 274 107 := rfl
theorem i_Mo_layTree_107 : opAt m_Mo_layTree 107 = sIld 5 109 := rfl
theorem i_Mo_layTree_109 : opAt m_Mo_layTree 109 = sIst 6 111 := rfl
theorem i_Mo_layTree_111 : opAt m_Mo_layTree 111 = sPush (.int (Int32.ofInt 0)) 112 := rfl
theorem i_Mo_layTree_112 : opAt m_Mo_layTree 112 = sIst 7 114 := rfl
theorem i_Mo_layTree_114 : opAt m_Mo_layTree 114 = sPush (.int (Int32.ofInt 1)) 115 := rfl
theorem i_Mo_layTree_115 : opAt m_Mo_layTree 115 = sIst 8 117 := rfl
theorem i_Mo_layTree_117 : opAt m_Mo_layTree 117 = sAld 0 118 := rfl
theorem i_Mo_layTree_118 : opAt m_Mo_layTree 118 = sGet [(11, 12)] 121 := rfl
theorem i_Mo_layTree_121 : opAt m_Mo_layTree 121 = sPush (.int (Int32.ofInt 1)) 122 := rfl
theorem i_Mo_layTree_122 : opAt m_Mo_layTree 122 = sBI (fun x y => x - y) 123 := rfl
theorem i_Mo_layTree_123 : opAt m_Mo_layTree 123 = sIst 9 125 := rfl
theorem i_Mo_layTree_125 : opAt m_Mo_layTree 125 = sIld 9 127 := rfl
theorem i_Mo_layTree_127 : opAt m_Mo_layTree 127 = sIf .lt 207 130 := rfl
theorem i_Mo_layTree_130 : opAt m_Mo_layTree 130 = sIld 6 132 := rfl
theorem i_Mo_layTree_132 : opAt m_Mo_layTree 132 = sIld 2 133 := rfl
theorem i_Mo_layTree_133 : opAt m_Mo_layTree 133 = sDI (fun x y => x - x / y * y) 134 := rfl
theorem i_Mo_layTree_134 : opAt m_Mo_layTree 134 = sIst 10 136 := rfl
theorem i_Mo_layTree_136 : opAt m_Mo_layTree 136 = sIld 6 138 := rfl
theorem i_Mo_layTree_138 : opAt m_Mo_layTree 138 = sIld 2 139 := rfl
theorem i_Mo_layTree_139 : opAt m_Mo_layTree 139 = sDI (fun x y => x / y) 140 := rfl
theorem i_Mo_layTree_140 : opAt m_Mo_layTree 140 = sIst 6 142 := rfl
theorem i_Mo_layTree_142 : opAt m_Mo_layTree 142 = sIld 8 144 := rfl
theorem i_Mo_layTree_144 : opAt m_Mo_layTree 144 = sIf .eq 158 147 := rfl
theorem i_Mo_layTree_147 : opAt m_Mo_layTree 147 = sIld 10 149 := rfl
theorem i_Mo_layTree_149 : opAt m_Mo_layTree 149 = sIld 9 151 := rfl
theorem i_Mo_layTree_151 : opAt m_Mo_layTree 151 = sCm .eq 158 154 := rfl
theorem i_Mo_layTree_154 : opAt m_Mo_layTree 154 = sPush (.int (Int32.ofInt 1)) 155 := rfl
theorem i_Mo_layTree_155 : opAt m_Mo_layTree 155 = sGo 159 := rfl
theorem i_Mo_layTree_158 : opAt m_Mo_layTree 158 = sPush (.int (Int32.ofInt 0)) 159 := rfl
theorem i_Mo_layTree_159 : opAt m_Mo_layTree 159 = sIst 8 161 := rfl
theorem i_Mo_layTree_161 : opAt m_Mo_layTree 161 = sAld 0 162 := rfl
theorem i_Mo_layTree_162 : opAt m_Mo_layTree 162 = sGet [(11, 22)] 165 := rfl
theorem i_Mo_layTree_165 : opAt m_Mo_layTree 165 = sIld 9 167 := rfl
theorem i_Mo_layTree_167 : opAt m_Mo_layTree 167 = sIld 10 169 := rfl
theorem i_Mo_layTree_169 : opAt m_Mo_layTree 169 = sAld 0 170 := rfl
theorem i_Mo_layTree_170 : opAt m_Mo_layTree 170 = sGet [(11, 12)] 173 := rfl
theorem i_Mo_layTree_173 : opAt m_Mo_layTree 173 = sCm .ne 180 176 := rfl
theorem i_Mo_layTree_176 : opAt m_Mo_layTree 176 = sPush (.int (Int32.ofInt (-1))) 177 := rfl
theorem i_Mo_layTree_177 : opAt m_Mo_layTree 177 = sGo 182 := rfl
theorem i_Mo_layTree_180 : opAt m_Mo_layTree 180 = sIld 10 182 := rfl
theorem i_Mo_layTree_182 : opAt m_Mo_layTree 182 = sIas 183 := rfl
theorem i_Mo_layTree_183 : opAt m_Mo_layTree 183 = sIld 7 185 := rfl
theorem i_Mo_layTree_185 : opAt m_Mo_layTree 185 = sAld 0 186 := rfl
theorem i_Mo_layTree_186 : opAt m_Mo_layTree 186 = sGet [(11, 21)] 189 := rfl
theorem i_Mo_layTree_189 : opAt m_Mo_layTree 189 = sPush (.int (Int8.ofInt 7).toInt32) 191 := rfl
theorem i_Mo_layTree_191 : opAt m_Mo_layTree 191 = sIld 9 193 := rfl
theorem i_Mo_layTree_193 : opAt m_Mo_layTree 193 = sBI (fun x y => x * y) 194 := rfl
theorem i_Mo_layTree_194 : opAt m_Mo_layTree 194 = sIld 10 196 := rfl
theorem i_Mo_layTree_196 : opAt m_Mo_layTree 196 = sBI (fun x y => x + y) 197 := rfl
theorem i_Mo_layTree_197 : opAt m_Mo_layTree 197 = sIal 198 := rfl
theorem i_Mo_layTree_198 : opAt m_Mo_layTree 198 = sBI (fun x y => x + y) 199 := rfl
theorem i_Mo_layTree_199 : opAt m_Mo_layTree 199 = sIst 7 201 := rfl
theorem i_Mo_layTree_201 : opAt m_Mo_layTree 201 = sInc 9 (-1) 204 := rfl
theorem i_Mo_layTree_204 : opAt m_Mo_layTree 204 = sGo 125 := rfl
theorem i_Mo_layTree_207 : opAt m_Mo_layTree 207 = sIld 8 209 := rfl
theorem i_Mo_layTree_209 : opAt m_Mo_layTree 209 = sIf .eq 268 212 := rfl
theorem i_Mo_layTree_212 : opAt m_Mo_layTree 212 = sIld 4 214 := rfl
theorem i_Mo_layTree_214 : opAt m_Mo_layTree 214 = sPush (.int (Int32.ofInt (-1))) 215 := rfl
theorem i_Mo_layTree_215 : opAt m_Mo_layTree 215 = sCm .eq 225 218 := rfl
theorem i_Mo_layTree_218 : opAt m_Mo_layTree 218 = sIld 7 220 := rfl
theorem i_Mo_layTree_220 : opAt m_Mo_layTree 220 = sIld 4 222 := rfl
theorem i_Mo_layTree_222 : opAt m_Mo_layTree 222 = sCm .ge 268 225 := rfl
theorem i_Mo_layTree_225 : opAt m_Mo_layTree 225 = sAld 0 226 := rfl
theorem i_Mo_layTree_226 : opAt m_Mo_layTree 226 = sVir [(11, m_Mo_isTree)] 0 0 229 := rfl
theorem i_Mo_layTree_229 : opAt m_Mo_layTree 229 = sIf .eq 268 232 := rfl
theorem i_Mo_layTree_232 : opAt m_Mo_layTree 232 = sIld 7 234 := rfl
theorem i_Mo_layTree_234 : opAt m_Mo_layTree 234 = sIst 4 236 := rfl
theorem i_Mo_layTree_236 : opAt m_Mo_layTree 236 = sPush (.int (Int32.ofInt 0)) 237 := rfl
theorem i_Mo_layTree_237 : opAt m_Mo_layTree 237 = sIst 9 239 := rfl
theorem i_Mo_layTree_239 : opAt m_Mo_layTree 239 = sIld 9 241 := rfl
theorem i_Mo_layTree_241 : opAt m_Mo_layTree 241 = sAld 0 242 := rfl
theorem i_Mo_layTree_242 : opAt m_Mo_layTree 242 = sGet [(11, 12)] 245 := rfl
theorem i_Mo_layTree_245 : opAt m_Mo_layTree 245 = sCm .ge 268 248 := rfl
theorem i_Mo_layTree_248 : opAt m_Mo_layTree 248 = sAld 0 249 := rfl
theorem i_Mo_layTree_249 : opAt m_Mo_layTree 249 = sGet [(11, 23)] 252 := rfl
theorem i_Mo_layTree_252 : opAt m_Mo_layTree 252 = sIld 9 254 := rfl
theorem i_Mo_layTree_254 : opAt m_Mo_layTree 254 = sAld 0 255 := rfl
theorem i_Mo_layTree_255 : opAt m_Mo_layTree 255 = sGet [(11, 22)] 258 := rfl
theorem i_Mo_layTree_258 : opAt m_Mo_layTree 258 = sIld 9 260 := rfl
theorem i_Mo_layTree_260 : opAt m_Mo_layTree 260 = sIal 261 := rfl
theorem i_Mo_layTree_261 : opAt m_Mo_layTree 261 = sIas 262 := rfl
theorem i_Mo_layTree_262 : opAt m_Mo_layTree 262 = sInc 9 1 265 := rfl
theorem i_Mo_layTree_265 : opAt m_Mo_layTree 265 = sGo 239 := rfl
theorem i_Mo_layTree_268 : opAt m_Mo_layTree 268 = sInc 5 1 271 := rfl
theorem i_Mo_layTree_271 : opAt m_Mo_layTree 271 = sGo 101 := rfl
theorem i_Mo_layTree_274 : opAt m_Mo_layTree 274 = sIld 4 276 := rfl
theorem i_Mo_layTree_276 : opAt m_Mo_layTree 276 = sIret .int := rfl
theorem i_Mo_isTree_0 : opAt m_Mo_isTree 0 = sPush (.int (Int32.ofInt 1)) 1 := rfl
theorem i_Mo_isTree_1 : opAt m_Mo_isTree 1 = sIst 1 2 := rfl
theorem i_Mo_isTree_2 : opAt m_Mo_isTree 2 = sPush (.int (Int32.ofInt 0)) 3 := rfl
theorem i_Mo_isTree_3 : opAt m_Mo_isTree 3 = sIst 2 4 := rfl
theorem i_Mo_isTree_4 : opAt m_Mo_isTree 4 = sIld 2 5 := rfl
theorem i_Mo_isTree_5 : opAt m_Mo_isTree 5 = sAld 0 6 := rfl
theorem i_Mo_isTree_6 : opAt m_Mo_isTree 6 = sGet [(11, 12)] 9 := rfl
theorem i_Mo_isTree_9 : opAt m_Mo_isTree 9 = sCm .ge 65 12 := rfl
theorem i_Mo_isTree_12 : opAt m_Mo_isTree 12 = sIld 2 13 := rfl
theorem i_Mo_isTree_13 : opAt m_Mo_isTree 13 = sIst 3 14 := rfl
theorem i_Mo_isTree_14 : opAt m_Mo_isTree 14 = sPush (.int (Int32.ofInt 0)) 15 := rfl
theorem i_Mo_isTree_15 : opAt m_Mo_isTree 15 = sIst 4 17 := rfl
theorem i_Mo_isTree_17 : opAt m_Mo_isTree 17 = sIld 4 19 := rfl
theorem i_Mo_isTree_19 : opAt m_Mo_isTree 19 = sAld 0 20 := rfl
theorem i_Mo_isTree_20 : opAt m_Mo_isTree 20 = sGet [(11, 12)] 23 := rfl
theorem i_Mo_isTree_23 : opAt m_Mo_isTree 23 = sCm .ge 44 26 := rfl
theorem i_Mo_isTree_26 : opAt m_Mo_isTree 26 = sIld 3 27 := rfl
theorem i_Mo_isTree_27 : opAt m_Mo_isTree 27 = sPush (.int (Int32.ofInt (-1))) 28 := rfl
theorem i_Mo_isTree_28 : opAt m_Mo_isTree 28 = sCm .eq 44 31 := rfl
theorem i_Mo_isTree_31 : opAt m_Mo_isTree 31 = sAld 0 32 := rfl
theorem i_Mo_isTree_32 : opAt m_Mo_isTree 32 = sGet [(11, 22)] 35 := rfl
theorem i_Mo_isTree_35 : opAt m_Mo_isTree 35 = sIld 3 36 := rfl
theorem i_Mo_isTree_36 : opAt m_Mo_isTree 36 = sIal 37 := rfl
theorem i_Mo_isTree_37 : opAt m_Mo_isTree 37 = sIst 3 38 := rfl
theorem i_Mo_isTree_38 : opAt m_Mo_isTree 38 = sInc 4 1 41 := rfl
theorem i_Mo_isTree_41 : opAt m_Mo_isTree 41 = sGo 17 := rfl
theorem i_Mo_isTree_44 : opAt m_Mo_isTree 44 = sIld 1 45 := rfl
theorem i_Mo_isTree_45 : opAt m_Mo_isTree 45 = sIf .eq 57 48 := rfl
theorem i_Mo_isTree_48 : opAt m_Mo_isTree 48 = sIld 3 49 := rfl
theorem i_Mo_isTree_49 : opAt m_Mo_isTree 49 = sPush (.int (Int32.ofInt (-1))) 50 := rfl
theorem i_Mo_isTree_50 : opAt m_Mo_isTree 50 = sCm .ne 57 53 := rfl
theorem i_Mo_isTree_53 : opAt m_Mo_isTree 53 = sPush (.int (Int32.ofInt 1)) 54 := rfl
theorem i_Mo_isTree_54 : opAt m_Mo_isTree 54 = sGo 58 := rfl
theorem i_Mo_isTree_57 : opAt m_Mo_isTree 57 = sPush (.int (Int32.ofInt 0)) 58 := rfl
theorem i_Mo_isTree_58 : opAt m_Mo_isTree 58 = sIst 1 59 := rfl
theorem i_Mo_isTree_59 : opAt m_Mo_isTree 59 = sInc 2 1 62 := rfl
theorem i_Mo_isTree_62 : opAt m_Mo_isTree 62 = sGo 4 := rfl
theorem i_Mo_isTree_65 : opAt m_Mo_isTree 65 = sIld 1 66 := rfl
theorem i_Mo_isTree_66 : opAt m_Mo_isTree 66 = sIret .boolean := rfl
theorem i_Mo_whole_0 : opAt m_Mo_whole 0 = sIld 1 1 := rfl
theorem i_Mo_whole_1 : opAt m_Mo_whole 1 = sIL 2 := rfl
theorem i_Mo_whole_2 : opAt m_Mo_whole 2 = sPush (.long (Int64.ofNat ((1 : Fin 2) : Nat))) 3 := rfl
theorem i_Mo_whole_3 : opAt m_Mo_whole 3 = sPush (.long (48)) 6 := rfl
theorem i_Mo_whole_6 : opAt m_Mo_whole 6 = sSta m_Mo_in 0 3 9 := rfl
theorem i_Mo_whole_9 : opAt m_Mo_whole 9 = sIf .eq 50 12 := rfl
theorem i_Mo_whole_12 : opAt m_Mo_whole 12 = sIld 2 13 := rfl
theorem i_Mo_whole_13 : opAt m_Mo_whole 13 = sIL 14 := rfl
theorem i_Mo_whole_14 : opAt m_Mo_whole 14 = sPush (.long (Int64.ofNat ((0 : Fin 2) : Nat))) 15 := rfl
theorem i_Mo_whole_15 : opAt m_Mo_whole 15 = sPush (.long (99)) 18 := rfl
theorem i_Mo_whole_18 : opAt m_Mo_whole 18 = sSta m_Mo_in 0 3 21 := rfl
theorem i_Mo_whole_21 : opAt m_Mo_whole 21 = sIf .eq 50 24 := rfl
theorem i_Mo_whole_24 : opAt m_Mo_whole 24 = sIld 3 25 := rfl
theorem i_Mo_whole_25 : opAt m_Mo_whole 25 = sIL 26 := rfl
theorem i_Mo_whole_26 : opAt m_Mo_whole 26 = sPush (.long (Int64.ofNat ((0 : Fin 2) : Nat))) 27 := rfl
theorem i_Mo_whole_27 : opAt m_Mo_whole 27 = sPush (.long (Int64.ofNat ((1 : Fin 2) : Nat))) 28 := rfl
theorem i_Mo_whole_28 : opAt m_Mo_whole 28 = sSta m_Mo_in 0 3 31 := rfl
theorem i_Mo_whole_31 : opAt m_Mo_whole 31 = sIf .ne 53 34 := rfl
theorem i_Mo_whole_34 : opAt m_Mo_whole 34 = sIld 3 35 := rfl
theorem i_Mo_whole_35 : opAt m_Mo_whole 35 = sIL 36 := rfl
theorem i_Mo_whole_36 : opAt m_Mo_whole 36 = sPush (.long (10)) 39 := rfl
theorem i_Mo_whole_39 : opAt m_Mo_whole 39 = sPush (.int (Int8.ofInt 9).toInt32) 41 := rfl
theorem i_Mo_whole_41 : opAt m_Mo_whole 41 = sIld 1 42 := rfl
theorem i_Mo_whole_42 : opAt m_Mo_whole 42 = sBI (fun x y => x + y) 43 := rfl
theorem i_Mo_whole_43 : opAt m_Mo_whole 43 = sIL 44 := rfl
theorem i_Mo_whole_44 : opAt m_Mo_whole 44 = sSta m_Mo_in 0 3 47 := rfl
theorem i_Mo_whole_47 : opAt m_Mo_whole 47 = sIf .ne 53 50 := rfl
theorem i_Mo_whole_50 : opAt m_Mo_whole 50 = sPush (.int (Int8.ofInt (-102)).toInt32) 52 := rfl
theorem i_Mo_whole_52 : opAt m_Mo_whole 52 = sIret .int := rfl
theorem i_Mo_whole_53 : opAt m_Mo_whole 53 = sAld 0 54 := rfl
theorem i_Mo_whole_54 : opAt m_Mo_whole 54 = sGet [(11, 12)] 57 := rfl
theorem i_Mo_whole_57 : opAt m_Mo_whole 57 = sIf .ne 63 60 := rfl
theorem i_Mo_whole_60 : opAt m_Mo_whole 60 = sPush (.int (Int8.ofInt (-103)).toInt32) 62 := rfl
theorem i_Mo_whole_62 : opAt m_Mo_whole 62 = sIret .int := rfl
theorem i_Mo_whole_63 : opAt m_Mo_whole 63 = sAld 0 64 := rfl
theorem i_Mo_whole_64 : opAt m_Mo_whole 64 = sIld 1 65 := rfl
theorem i_Mo_whole_65 : opAt m_Mo_whole 65 = sIld 2 66 := rfl
theorem i_Mo_whole_66 : opAt m_Mo_whole 66 = sVir [(11, m_Mo_layWhole)] 0 2 69 := rfl
theorem i_Mo_whole_69 : opAt m_Mo_whole 69 = sIst 4 71 := rfl
theorem i_Mo_whole_71 : opAt m_Mo_whole 71 = sIld 3 72 := rfl
theorem i_Mo_whole_72 : opAt m_Mo_whole 72 = sIf .ne 78 75 := rfl
theorem i_Mo_whole_75 : opAt m_Mo_whole 75 = sIld 4 77 := rfl
theorem i_Mo_whole_77 : opAt m_Mo_whole 77 = sIret .int := rfl
theorem i_Mo_whole_78 : opAt m_Mo_whole 78 = sPush (.int (Int32.ofInt 0)) 79 := rfl
theorem i_Mo_whole_79 : opAt m_Mo_whole 79 = sIst 5 81 := rfl
theorem i_Mo_whole_81 : opAt m_Mo_whole 81 = sPush (.int (Int32.ofInt 0)) 82 := rfl
theorem i_Mo_whole_82 : opAt m_Mo_whole 82 = sIst 6 84 := rfl
theorem i_Mo_whole_84 : opAt m_Mo_whole 84 = sIld 6 86 := rfl
theorem i_Mo_whole_86 : opAt m_Mo_whole 86 = sIld 1 87 := rfl
theorem i_Mo_whole_87 : opAt m_Mo_whole 87 = sCm .ge 117 90 := rfl
theorem i_Mo_whole_90 : opAt m_Mo_whole 90 = sIld 5 92 := rfl
theorem i_Mo_whole_92 : opAt m_Mo_whole 92 = sAld 0 93 := rfl
theorem i_Mo_whole_93 : opAt m_Mo_whole 93 = sGet [(11, 25)] 96 := rfl
theorem i_Mo_whole_96 : opAt m_Mo_whole 96 = sIld 6 98 := rfl
theorem i_Mo_whole_98 : opAt m_Mo_whole 98 = sIal 99 := rfl
theorem i_Mo_whole_99 : opAt m_Mo_whole 99 = sPush (.int (Int32.ofInt (-1))) 100 := rfl
theorem i_Mo_whole_100 : opAt m_Mo_whole 100 = sCm .ne 107 103 := rfl
theorem i_Mo_whole_103 : opAt m_Mo_whole 103 = sPush (.int (Int32.ofInt 1)) 104 := rfl
theorem i_Mo_whole_104 : opAt m_Mo_whole 104 = sGo 108 := rfl
theorem i_Mo_whole_107 : opAt m_Mo_whole 107 = sPush (.int (Int32.ofInt 0)) 108 := rfl
theorem i_Mo_whole_108 : opAt m_Mo_whole 108 = sBI (fun x y => x + y) 109 := rfl
theorem i_Mo_whole_109 : opAt m_Mo_whole 109 = sIst 5 111 := rfl
theorem i_Mo_whole_111 : opAt m_Mo_whole 111 = sInc 6 1 114 := rfl
theorem i_Mo_whole_114 : opAt m_Mo_whole 114 = sGo 84 := rfl
theorem i_Mo_whole_117 : opAt m_Mo_whole 117 = sIld 3 118 := rfl
theorem i_Mo_whole_118 : opAt m_Mo_whole 118 = sPush (.int (Int32.ofInt 1)) 119 := rfl
theorem i_Mo_whole_119 : opAt m_Mo_whole 119 = sCm .ne 127 122 := rfl
theorem i_Mo_whole_122 : opAt m_Mo_whole 122 = sIld 5 124 := rfl
theorem i_Mo_whole_124 : opAt m_Mo_whole 124 = sGo 136 := rfl
theorem i_Mo_whole_127 : opAt m_Mo_whole 127 = sAld 0 128 := rfl
theorem i_Mo_whole_128 : opAt m_Mo_whole 128 = sGet [(11, 25)] 131 := rfl
theorem i_Mo_whole_131 : opAt m_Mo_whole 131 = sIld 3 132 := rfl
theorem i_Mo_whole_132 : opAt m_Mo_whole 132 = sPush (.int (Int8.ofInt 10).toInt32) 134 := rfl
theorem i_Mo_whole_134 : opAt m_Mo_whole 134 = sBI (fun x y => x - y) 135 := rfl
theorem i_Mo_whole_135 : opAt m_Mo_whole 135 = sIal 136 := rfl
theorem i_Mo_whole_136 : opAt m_Mo_whole 136 = sIret .int := rfl
theorem i_Mo_layWhole_0 : opAt m_Mo_layWhole 0 = sPush (.int (Int32.ofInt (-1))) 1 := rfl
theorem i_Mo_layWhole_1 : opAt m_Mo_layWhole 1 = sIst 3 2 := rfl
theorem i_Mo_layWhole_2 : opAt m_Mo_layWhole 2 = sIld 1 3 := rfl
theorem i_Mo_layWhole_3 : opAt m_Mo_layWhole 3 = sPush (.int (Int32.ofInt 1)) 4 := rfl
theorem i_Mo_layWhole_4 : opAt m_Mo_layWhole 4 = sBI (fun x y => x - y) 5 := rfl
theorem i_Mo_layWhole_5 : opAt m_Mo_layWhole 5 = sIst 4 7 := rfl
theorem i_Mo_layWhole_7 : opAt m_Mo_layWhole 7 = sIld 4 9 := rfl
theorem i_Mo_layWhole_9 : opAt m_Mo_layWhole 9 = sIf .lt 125 12 := rfl
theorem i_Mo_layWhole_12 : opAt m_Mo_layWhole 12 = sPush (.int (Int32.ofInt 0)) 13 := rfl
theorem i_Mo_layWhole_13 : opAt m_Mo_layWhole 13 = sIst 5 15 := rfl
theorem i_Mo_layWhole_15 : opAt m_Mo_layWhole 15 = sPush (.int (Int32.ofInt 0)) 16 := rfl
theorem i_Mo_layWhole_16 : opAt m_Mo_layWhole 16 = sIst 6 18 := rfl
theorem i_Mo_layWhole_18 : opAt m_Mo_layWhole 18 = sIld 6 20 := rfl
theorem i_Mo_layWhole_20 : opAt m_Mo_layWhole 20 = sAld 0 21 := rfl
theorem i_Mo_layWhole_21 : opAt m_Mo_layWhole 21 = sGet [(11, 12)] 24 := rfl
theorem i_Mo_layWhole_24 : opAt m_Mo_layWhole 24 = sCm .ge 107 27 := rfl
theorem i_Mo_layWhole_27 : opAt m_Mo_layWhole 27 = sAld 0 28 := rfl
theorem i_Mo_layWhole_28 : opAt m_Mo_layWhole 28 = sIld 6 30 := rfl
theorem i_Mo_layWhole_30 : opAt m_Mo_layWhole 30 = sIld 4 32 := rfl
theorem i_Mo_layWhole_32 : opAt m_Mo_layWhole 32 = sVir [(11, m_Mo_marksOf)] 0 2 35 := rfl
theorem i_Mo_layWhole_35 : opAt m_Mo_layWhole 35 = sIst 7 37 := rfl
theorem i_Mo_layWhole_37 : opAt m_Mo_layWhole 37 = sAld 0 38 := rfl
theorem i_Mo_layWhole_38 : opAt m_Mo_layWhole 38 = sGet [(11, 24)] 41 := rfl
theorem i_Mo_layWhole_41 : opAt m_Mo_layWhole 41 = sPush (.int (Int8.ofInt 6).toInt32) 43 := rfl
theorem i_Mo_layWhole_43 : opAt m_Mo_layWhole 43 = sIld 4 45 := rfl
theorem i_Mo_layWhole_45 : opAt m_Mo_layWhole 45 = sBI (fun x y => x * y) 46 := rfl
theorem i_Mo_layWhole_46 : opAt m_Mo_layWhole 46 = sIld 6 48 := rfl
theorem i_Mo_layWhole_48 : opAt m_Mo_layWhole 48 = sBI (fun x y => x + y) 49 := rfl
theorem i_Mo_layWhole_49 : opAt m_Mo_layWhole 49 = sIld 7 51 := rfl
theorem i_Mo_layWhole_51 : opAt m_Mo_layWhole 51 = sPush (.int (1000000)) 53 := rfl
theorem i_Mo_layWhole_53 : opAt m_Mo_layWhole 53 = sCm .ne 61 56 := rfl
theorem i_Mo_layWhole_56 : opAt m_Mo_layWhole 56 = sPush (.int (1000000)) 58 := rfl
theorem i_Mo_layWhole_58 : opAt m_Mo_layWhole 58 = sGo 81 := rfl
theorem i_Mo_layWhole_61 : opAt m_Mo_layWhole 61 = sIld 7 63 := rfl
theorem i_Mo_layWhole_63 : opAt m_Mo_layWhole 63 = sIld 3 64 := rfl
theorem i_Mo_layWhole_64 : opAt m_Mo_layWhole 64 = sPush (.int (Int32.ofInt (-1))) 65 := rfl
theorem i_Mo_layWhole_65 : opAt m_Mo_layWhole 65 = sCm .ne 72 68 := rfl
theorem i_Mo_layWhole_68 : opAt m_Mo_layWhole 68 = sPush (.int (Int32.ofInt 0)) 69 := rfl
theorem i_Mo_layWhole_69 : opAt m_Mo_layWhole 69 = sGo 80 := rfl
theorem i_Mo_layWhole_72 : opAt m_Mo_layWhole 72 = sAld 0 73 := rfl
theorem i_Mo_layWhole_73 : opAt m_Mo_layWhole 73 = sIld 3 74 := rfl
theorem i_Mo_layWhole_74 : opAt m_Mo_layWhole 74 = sIld 6 76 := rfl
theorem i_Mo_layWhole_76 : opAt m_Mo_layWhole 76 = sIld 2 77 := rfl
theorem i_Mo_layWhole_77 : opAt m_Mo_layWhole 77 = sVir [(11, m_Mo_costBehind)] 0 3 80 := rfl
theorem i_Mo_layWhole_80 : opAt m_Mo_layWhole 80 = sBI (fun x y => x + y) 81 := rfl
theorem i_Mo_layWhole_81 : opAt m_Mo_layWhole 81 = sIas 82 := rfl
theorem i_Mo_layWhole_82 : opAt m_Mo_layWhole 82 = sIld 5 84 := rfl
theorem i_Mo_layWhole_84 : opAt m_Mo_layWhole 84 = sIf .ne 94 87 := rfl
theorem i_Mo_layWhole_87 : opAt m_Mo_layWhole 87 = sIld 7 89 := rfl
theorem i_Mo_layWhole_89 : opAt m_Mo_layWhole 89 = sPush (.int (1000000)) 91 := rfl
theorem i_Mo_layWhole_91 : opAt m_Mo_layWhole 91 = sCm .ge 98 94 := rfl
theorem i_Mo_layWhole_94 : opAt m_Mo_layWhole 94 = sPush (.int (Int32.ofInt 1)) 95 := rfl
theorem i_Mo_layWhole_95 : opAt m_Mo_layWhole 95 = sGo 99 := rfl
theorem i_Mo_layWhole_98 : opAt m_Mo_layWhole 98 = sPush (.int (Int32.ofInt 0)) 99 := rfl
theorem i_Mo_layWhole_99 : opAt m_Mo_layWhole 99 = sIst 5 101 := rfl
theorem i_Mo_layWhole_101 : opAt m_Mo_layWhole 101 = sInc 6 1 104 := rfl
theorem i_Mo_layWhole_104 : opAt m_Mo_layWhole 104 = sGo 18 := rfl
theorem i_Mo_layWhole_107 : opAt m_Mo_layWhole 107 = sIld 5 109 := rfl
theorem i_Mo_layWhole_109 : opAt m_Mo_layWhole 109 = sIf .eq 117 112 := rfl
theorem i_Mo_layWhole_112 : opAt m_Mo_layWhole 112 = sIld 4 114 := rfl
theorem i_Mo_layWhole_114 : opAt m_Mo_layWhole 114 = sGo 118 := rfl
theorem i_Mo_layWhole_117 : opAt m_Mo_layWhole 117 = sIld 3 118 := rfl
theorem i_Mo_layWhole_118 : opAt m_Mo_layWhole 118 = sIst 3 119 := rfl
theorem i_Mo_layWhole_119 : opAt m_Mo_layWhole 119 = sInc 4 (-1) 122 := rfl
theorem i_Mo_layWhole_122 : opAt m_Mo_layWhole 122 = sGo 7 := rfl
theorem i_Mo_layWhole_125 : opAt m_Mo_layWhole 125 = sIld 3 126 := rfl
theorem i_Mo_layWhole_126 : opAt m_Mo_layWhole 126 = sPush (.int (Int32.ofInt (-1))) 127 := rfl
theorem i_Mo_layWhole_127 : opAt m_Mo_layWhole 127 = sCm .ne 134 130 := rfl
theorem i_Mo_layWhole_130 : opAt m_Mo_layWhole 130 = sPush (.int (Int32.ofInt 0)) 131 := rfl
theorem i_Mo_layWhole_131 : opAt m_Mo_layWhole 131 = sGo 141 := rfl
theorem i_Mo_layWhole_134 : opAt m_Mo_layWhole 134 = sAld 0 135 := rfl
theorem i_Mo_layWhole_135 : opAt m_Mo_layWhole 135 = sIld 3 136 := rfl
theorem i_Mo_layWhole_136 : opAt m_Mo_layWhole 136 = sPush (.int (Int32.ofInt (-1))) 137 := rfl
theorem i_Mo_layWhole_137 : opAt m_Mo_layWhole 137 = sIld 2 138 := rfl
theorem i_Mo_layWhole_138 : opAt m_Mo_layWhole 138 = sVir [(11, m_Mo_costBehind)] 0 3 141 := rfl
theorem i_Mo_layWhole_141 : opAt m_Mo_layWhole 141 = sIst 4 143 := rfl
theorem i_Mo_layWhole_143 : opAt m_Mo_layWhole 143 = sPush (.int (Int32.ofInt (-1))) 144 := rfl
theorem i_Mo_layWhole_144 : opAt m_Mo_layWhole 144 = sIst 5 146 := rfl
theorem i_Mo_layWhole_146 : opAt m_Mo_layWhole 146 = sPush (.int (Int32.ofInt 0)) 147 := rfl
theorem i_Mo_layWhole_147 : opAt m_Mo_layWhole 147 = sIst 6 149 := rfl
theorem i_Mo_layWhole_149 : opAt m_Mo_layWhole 149 = sIld 6 151 := rfl
theorem i_Mo_layWhole_151 : opAt m_Mo_layWhole 151 = sIld 1 152 := rfl
theorem i_Mo_layWhole_152 : opAt m_Mo_layWhole 152 = sCm .ge 196 155 := rfl
theorem i_Mo_layWhole_155 : opAt m_Mo_layWhole 155 = sAld 0 156 := rfl
theorem i_Mo_layWhole_156 : opAt m_Mo_layWhole 156 = sIld 6 158 := rfl
theorem i_Mo_layWhole_158 : opAt m_Mo_layWhole 158 = sIld 5 160 := rfl
theorem i_Mo_layWhole_160 : opAt m_Mo_layWhole 160 = sIld 2 161 := rfl
theorem i_Mo_layWhole_161 : opAt m_Mo_layWhole 161 = sVir [(11, m_Mo_cheapest)] 0 3 164 := rfl
theorem i_Mo_layWhole_164 : opAt m_Mo_layWhole 164 = sIst 7 166 := rfl
theorem i_Mo_layWhole_166 : opAt m_Mo_layWhole 166 = sAld 0 167 := rfl
theorem i_Mo_layWhole_167 : opAt m_Mo_layWhole 167 = sGet [(11, 25)] 170 := rfl
theorem i_Mo_layWhole_170 : opAt m_Mo_layWhole 170 = sIld 6 172 := rfl
theorem i_Mo_layWhole_172 : opAt m_Mo_layWhole 172 = sIld 7 174 := rfl
theorem i_Mo_layWhole_174 : opAt m_Mo_layWhole 174 = sIas 175 := rfl
theorem i_Mo_layWhole_175 : opAt m_Mo_layWhole 175 = sIld 7 177 := rfl
theorem i_Mo_layWhole_177 : opAt m_Mo_layWhole 177 = sPush (.int (Int32.ofInt (-1))) 178 := rfl
theorem i_Mo_layWhole_178 : opAt m_Mo_layWhole 178 = sCm .ne 186 181 := rfl
theorem i_Mo_layWhole_181 : opAt m_Mo_layWhole 181 = sIld 5 183 := rfl
theorem i_Mo_layWhole_183 : opAt m_Mo_layWhole 183 = sGo 188 := rfl
theorem i_Mo_layWhole_186 : opAt m_Mo_layWhole 186 = sIld 7 188 := rfl
theorem i_Mo_layWhole_188 : opAt m_Mo_layWhole 188 = sIst 5 190 := rfl
theorem i_Mo_layWhole_190 : opAt m_Mo_layWhole 190 = sInc 6 1 193 := rfl
theorem i_Mo_layWhole_193 : opAt m_Mo_layWhole 193 = sGo 149 := rfl
theorem i_Mo_layWhole_196 : opAt m_Mo_layWhole 196 = sIld 4 198 := rfl
theorem i_Mo_layWhole_198 : opAt m_Mo_layWhole 198 = sIret .int := rfl
theorem i_Mo_marksOf_0 : opAt m_Mo_marksOf 0 = sAld 0 1 := rfl
theorem i_Mo_marksOf_1 : opAt m_Mo_marksOf 1 = sIld 1 2 := rfl
theorem i_Mo_marksOf_2 : opAt m_Mo_marksOf 2 = sIld 2 3 := rfl
theorem i_Mo_marksOf_3 : opAt m_Mo_marksOf 3 = sVir [(11, m_Mo_pictureOf)] 0 2 6 := rfl
theorem i_Mo_marksOf_6 : opAt m_Mo_marksOf 6 = sIst 3 7 := rfl
theorem i_Mo_marksOf_7 : opAt m_Mo_marksOf 7 = sIld 3 8 := rfl
theorem i_Mo_marksOf_8 : opAt m_Mo_marksOf 8 = sPush (.int (Int32.ofInt (-1))) 9 := rfl
theorem i_Mo_marksOf_9 : opAt m_Mo_marksOf 9 = sCm .ne 17 12 := rfl
theorem i_Mo_marksOf_12 : opAt m_Mo_marksOf 12 = sPush (.int (1000000)) 14 := rfl
theorem i_Mo_marksOf_14 : opAt m_Mo_marksOf 14 = sGo 46 := rfl
theorem i_Mo_marksOf_17 : opAt m_Mo_marksOf 17 = sAld 0 18 := rfl
theorem i_Mo_marksOf_18 : opAt m_Mo_marksOf 18 = sGet [(11, 15)] 21 := rfl
theorem i_Mo_marksOf_21 : opAt m_Mo_marksOf 21 = sPush (.int (Int8.ofInt 48).toInt32) 23 := rfl
theorem i_Mo_marksOf_23 : opAt m_Mo_marksOf 23 = sIld 1 24 := rfl
theorem i_Mo_marksOf_24 : opAt m_Mo_marksOf 24 = sBI (fun x y => x * y) 25 := rfl
theorem i_Mo_marksOf_25 : opAt m_Mo_marksOf 25 = sIld 3 26 := rfl
theorem i_Mo_marksOf_26 : opAt m_Mo_marksOf 26 = sBI (fun x y => x + y) 27 := rfl
theorem i_Mo_marksOf_27 : opAt m_Mo_marksOf 27 = sIal 28 := rfl
theorem i_Mo_marksOf_28 : opAt m_Mo_marksOf 28 = sSta m_Mo_bitsOf 0 1 31 := rfl
theorem i_Mo_marksOf_31 : opAt m_Mo_marksOf 31 = sAld 0 32 := rfl
theorem i_Mo_marksOf_32 : opAt m_Mo_marksOf 32 = sGet [(11, 16)] 35 := rfl
theorem i_Mo_marksOf_35 : opAt m_Mo_marksOf 35 = sPush (.int (Int8.ofInt 48).toInt32) 37 := rfl
theorem i_Mo_marksOf_37 : opAt m_Mo_marksOf 37 = sIld 1 38 := rfl
theorem i_Mo_marksOf_38 : opAt m_Mo_marksOf 38 = sBI (fun x y => x * y) 39 := rfl
theorem i_Mo_marksOf_39 : opAt m_Mo_marksOf 39 = sIld 3 40 := rfl
theorem i_Mo_marksOf_40 : opAt m_Mo_marksOf 40 = sBI (fun x y => x + y) 41 := rfl
theorem i_Mo_marksOf_41 : opAt m_Mo_marksOf 41 = sIal 42 := rfl
theorem i_Mo_marksOf_42 : opAt m_Mo_marksOf 42 = sSta m_Mo_bitsOf 0 1 45 := rfl
theorem i_Mo_marksOf_45 : opAt m_Mo_marksOf 45 = sBI (fun x y => x + y) 46 := rfl
theorem i_Mo_marksOf_46 : opAt m_Mo_marksOf 46 = sIret .int := rfl
theorem i_Mo_costBehind_0 : opAt m_Mo_costBehind 0 = sAld 0 1 := rfl
theorem i_Mo_costBehind_1 : opAt m_Mo_costBehind 1 = sIld 1 2 := rfl
theorem i_Mo_costBehind_2 : opAt m_Mo_costBehind 2 = sIld 2 3 := rfl
theorem i_Mo_costBehind_3 : opAt m_Mo_costBehind 3 = sIld 3 4 := rfl
theorem i_Mo_costBehind_4 : opAt m_Mo_costBehind 4 = sVir [(11, m_Mo_cheapest)] 0 3 7 := rfl
theorem i_Mo_costBehind_7 : opAt m_Mo_costBehind 7 = sIst 4 9 := rfl
theorem i_Mo_costBehind_9 : opAt m_Mo_costBehind 9 = sIld 4 11 := rfl
theorem i_Mo_costBehind_11 : opAt m_Mo_costBehind 11 = sPush (.int (Int32.ofInt (-1))) 12 := rfl
theorem i_Mo_costBehind_12 : opAt m_Mo_costBehind 12 = sCm .ne 19 15 := rfl
theorem i_Mo_costBehind_15 : opAt m_Mo_costBehind 15 = sPush (.int (Int32.ofInt 0)) 16 := rfl
theorem i_Mo_costBehind_16 : opAt m_Mo_costBehind 16 = sGo 48 := rfl
theorem i_Mo_costBehind_19 : opAt m_Mo_costBehind 19 = sAld 0 20 := rfl
theorem i_Mo_costBehind_20 : opAt m_Mo_costBehind 20 = sGet [(11, 24)] 23 := rfl
theorem i_Mo_costBehind_23 : opAt m_Mo_costBehind 23 = sPush (.int (Int8.ofInt 6).toInt32) 25 := rfl
theorem i_Mo_costBehind_25 : opAt m_Mo_costBehind 25 = sIld 1 26 := rfl
theorem i_Mo_costBehind_26 : opAt m_Mo_costBehind 26 = sBI (fun x y => x * y) 27 := rfl
theorem i_Mo_costBehind_27 : opAt m_Mo_costBehind 27 = sIld 4 29 := rfl
theorem i_Mo_costBehind_29 : opAt m_Mo_costBehind 29 = sBI (fun x y => x + y) 30 := rfl
theorem i_Mo_costBehind_30 : opAt m_Mo_costBehind 30 = sIal 31 := rfl
theorem i_Mo_costBehind_31 : opAt m_Mo_costBehind 31 = sIld 2 32 := rfl
theorem i_Mo_costBehind_32 : opAt m_Mo_costBehind 32 = sPush (.int (Int32.ofInt (-1))) 33 := rfl
theorem i_Mo_costBehind_33 : opAt m_Mo_costBehind 33 = sCm .eq 42 36 := rfl
theorem i_Mo_costBehind_36 : opAt m_Mo_costBehind 36 = sIld 2 37 := rfl
theorem i_Mo_costBehind_37 : opAt m_Mo_costBehind 37 = sIld 4 39 := rfl
theorem i_Mo_costBehind_39 : opAt m_Mo_costBehind 39 = sCm .ne 46 42 := rfl
theorem i_Mo_costBehind_42 : opAt m_Mo_costBehind 42 = sPush (.int (Int32.ofInt 0)) 43 := rfl
theorem i_Mo_costBehind_43 : opAt m_Mo_costBehind 43 = sGo 47 := rfl
theorem i_Mo_costBehind_46 : opAt m_Mo_costBehind 46 = sIld 3 47 := rfl
theorem i_Mo_costBehind_47 : opAt m_Mo_costBehind 47 = sBI (fun x y => x + y) 48 := rfl
theorem i_Mo_costBehind_48 : opAt m_Mo_costBehind 48 = sIret .int := rfl
theorem i_Mo_cheapest_0 : opAt m_Mo_cheapest 0 = sPush (.int (Int32.ofInt (-1))) 1 := rfl
theorem i_Mo_cheapest_1 : opAt m_Mo_cheapest 1 = sIst 4 3 := rfl
theorem i_Mo_cheapest_3 : opAt m_Mo_cheapest 3 = sPush (.int (1000000)) 5 := rfl
theorem i_Mo_cheapest_5 : opAt m_Mo_cheapest 5 = sIst 5 7 := rfl
theorem i_Mo_cheapest_7 : opAt m_Mo_cheapest 7 = sPush (.int (Int32.ofInt 0)) 8 := rfl
theorem i_Mo_cheapest_8 : opAt m_Mo_cheapest 8 = sIst 6 10 := rfl
theorem i_Mo_cheapest_10 : opAt m_Mo_cheapest 10 = sIld 6 12 := rfl
theorem i_Mo_cheapest_12 : opAt m_Mo_cheapest 12 = sAld 0 13 := rfl
theorem i_Mo_cheapest_13 : opAt m_Mo_cheapest 13 = sGet [(11, 12)] 16 := rfl
theorem i_Mo_cheapest_16 : opAt m_Mo_cheapest 16 = sCm .ge 122 19 := rfl
theorem i_Mo_cheapest_19 : opAt m_Mo_cheapest 19 = sAld 0 20 := rfl
theorem i_Mo_cheapest_20 : opAt m_Mo_cheapest 20 = sGet [(11, 24)] 23 := rfl
theorem i_Mo_cheapest_23 : opAt m_Mo_cheapest 23 = sPush (.int (Int8.ofInt 6).toInt32) 25 := rfl
theorem i_Mo_cheapest_25 : opAt m_Mo_cheapest 25 = sIld 1 26 := rfl
theorem i_Mo_cheapest_26 : opAt m_Mo_cheapest 26 = sBI (fun x y => x * y) 27 := rfl
theorem i_Mo_cheapest_27 : opAt m_Mo_cheapest 27 = sIld 6 29 := rfl
theorem i_Mo_cheapest_29 : opAt m_Mo_cheapest 29 = sBI (fun x y => x + y) 30 := rfl
theorem i_Mo_cheapest_30 : opAt m_Mo_cheapest 30 = sIal 31 := rfl
theorem i_Mo_cheapest_31 : opAt m_Mo_cheapest 31 = sIld 2 32 := rfl
theorem i_Mo_cheapest_32 : opAt m_Mo_cheapest 32 = sPush (.int (Int32.ofInt (-1))) 33 := rfl
theorem i_Mo_cheapest_33 : opAt m_Mo_cheapest 33 = sCm .eq 42 36 := rfl
theorem i_Mo_cheapest_36 : opAt m_Mo_cheapest 36 = sIld 2 37 := rfl
theorem i_Mo_cheapest_37 : opAt m_Mo_cheapest 37 = sIld 6 39 := rfl
theorem i_Mo_cheapest_39 : opAt m_Mo_cheapest 39 = sCm .ne 46 42 := rfl
theorem i_Mo_cheapest_42 : opAt m_Mo_cheapest 42 = sPush (.int (Int32.ofInt 0)) 43 := rfl
theorem i_Mo_cheapest_43 : opAt m_Mo_cheapest 43 = sGo 47 := rfl
theorem i_Mo_cheapest_46 : opAt m_Mo_cheapest 46 = sIld 3 47 := rfl
theorem i_Mo_cheapest_47 : opAt m_Mo_cheapest 47 = sBI (fun x y => x + y) 48 := rfl
theorem i_Mo_cheapest_48 : opAt m_Mo_cheapest 48 = sIst 7 50 := rfl
theorem i_Mo_cheapest_50 : opAt m_Mo_cheapest 50 = sAld 0 51 := rfl
theorem i_Mo_cheapest_51 : opAt m_Mo_cheapest 51 = sGet [(11, 24)] 54 := rfl
theorem i_Mo_cheapest_54 : opAt m_Mo_cheapest 54 = sPush (.int (Int8.ofInt 6).toInt32) 56 := rfl
theorem i_Mo_cheapest_56 : opAt m_Mo_cheapest 56 = sIld 1 57 := rfl
theorem i_Mo_cheapest_57 : opAt m_Mo_cheapest 57 = sBI (fun x y => x * y) 58 := rfl
theorem i_Mo_cheapest_58 : opAt m_Mo_cheapest 58 = sIld 6 60 := rfl
theorem i_Mo_cheapest_60 : opAt m_Mo_cheapest 60 = sBI (fun x y => x + y) 61 := rfl
theorem i_Mo_cheapest_61 : opAt m_Mo_cheapest 61 = sIal 62 := rfl
theorem i_Mo_cheapest_62 : opAt m_Mo_cheapest 62 = sPush (.int (1000000)) 64 := rfl
theorem i_Mo_cheapest_64 : opAt m_Mo_cheapest 64 = sCm .ge 79 67 := rfl
theorem i_Mo_cheapest_67 : opAt m_Mo_cheapest 67 = sIld 7 69 := rfl
theorem i_Mo_cheapest_69 : opAt m_Mo_cheapest 69 = sIld 5 71 := rfl
theorem i_Mo_cheapest_71 : opAt m_Mo_cheapest 71 = sCm .ge 79 74 := rfl
theorem i_Mo_cheapest_74 : opAt m_Mo_cheapest 74 = sIld 6 76 := rfl
theorem i_Mo_cheapest_76 : opAt m_Mo_cheapest 76 = sGo 81 := rfl
theorem i_Mo_cheapest_79 : opAt m_Mo_cheapest 79 = sIld 4 81 := rfl
theorem i_Mo_cheapest_81 : opAt m_Mo_cheapest 81 = sIst 4 83 := rfl
theorem i_Mo_cheapest_83 : opAt m_Mo_cheapest 83 = sAld 0 84 := rfl
theorem i_Mo_cheapest_84 : opAt m_Mo_cheapest 84 = sGet [(11, 24)] 87 := rfl
theorem i_Mo_cheapest_87 : opAt m_Mo_cheapest 87 = sPush (.int (Int8.ofInt 6).toInt32) 89 := rfl
theorem i_Mo_cheapest_89 : opAt m_Mo_cheapest 89 = sIld 1 90 := rfl
theorem i_Mo_cheapest_90 : opAt m_Mo_cheapest 90 = sBI (fun x y => x * y) 91 := rfl
theorem i_Mo_cheapest_91 : opAt m_Mo_cheapest 91 = sIld 6 93 := rfl
theorem i_Mo_cheapest_93 : opAt m_Mo_cheapest 93 = sBI (fun x y => x + y) 94 := rfl
theorem i_Mo_cheapest_94 : opAt m_Mo_cheapest 94 = sIal 95 := rfl
theorem i_Mo_cheapest_95 : opAt m_Mo_cheapest 95 = sPush (.int (1000000)) 97 := rfl
theorem i_Mo_cheapest_97 : opAt m_Mo_cheapest 97 = sCm .ge 112 100 := rfl
theorem i_Mo_cheapest_100 : opAt m_Mo_cheapest 100 = sIld 7 102 := rfl
theorem i_Mo_cheapest_102 : opAt m_Mo_cheapest 102 = sIld 5 104 := rfl
theorem i_Mo_cheapest_104 : opAt m_Mo_cheapest 104 = sCm .ge 112 107 := rfl
theorem i_Mo_cheapest_107 : opAt m_Mo_cheapest 107 = sIld 7 109 := rfl
theorem i_Mo_cheapest_109 : opAt m_Mo_cheapest 109 = sGo 114 := rfl
theorem i_Mo_cheapest_112 : opAt m_Mo_cheapest 112 = sIld 5 114 := rfl
theorem i_Mo_cheapest_114 : opAt m_Mo_cheapest 114 = sIst 5 116 := rfl
theorem i_Mo_cheapest_116 : opAt m_Mo_cheapest 116 = sInc 6 1 119 := rfl
theorem i_Mo_cheapest_119 : opAt m_Mo_cheapest 119 = sGo 10 := rfl
theorem i_Mo_cheapest_122 : opAt m_Mo_cheapest 122 = sIld 4 124 := rfl
theorem i_Mo_cheapest_124 : opAt m_Mo_cheapest 124 = sIret .int := rfl
theorem i_Mo_left_0 : opAt m_Mo_left 0 = sAld 0 1 := rfl
theorem i_Mo_left_1 : opAt m_Mo_left 1 = sIld 1 2 := rfl
theorem i_Mo_left_2 : opAt m_Mo_left 2 = sVir [(11, m_Mo_isPrint)] 0 1 5 := rfl
theorem i_Mo_left_5 : opAt m_Mo_left 5 = sIf .eq 16 8 := rfl
theorem i_Mo_left_8 : opAt m_Mo_left 8 = sAld 0 9 := rfl
theorem i_Mo_left_9 : opAt m_Mo_left 9 = sIld 1 10 := rfl
theorem i_Mo_left_10 : opAt m_Mo_left 10 = sVir [(11, m_Mo_leftOf)] 0 1 13 := rfl
theorem i_Mo_left_13 : opAt m_Mo_left 13 = sGo 18 := rfl
theorem i_Mo_left_16 : opAt m_Mo_left 16 = sPush (.int (Int8.ofInt (-101)).toInt32) 18 := rfl
theorem i_Mo_left_18 : opAt m_Mo_left 18 = sIret .int := rfl
theorem i_Mo_leftOf_0 : opAt m_Mo_leftOf 0 = sPush (.int (Int32.ofInt 0)) 1 := rfl
theorem i_Mo_leftOf_1 : opAt m_Mo_leftOf 1 = sIst 2 2 := rfl
theorem i_Mo_leftOf_2 : opAt m_Mo_leftOf 2 = sPush (.int (Int32.ofInt 0)) 3 := rfl
theorem i_Mo_leftOf_3 : opAt m_Mo_leftOf 3 = sIst 3 4 := rfl
theorem i_Mo_leftOf_4 : opAt m_Mo_leftOf 4 = sIld 3 5 := rfl
theorem i_Mo_leftOf_5 : opAt m_Mo_leftOf 5 = sAld 0 6 := rfl
theorem i_Mo_leftOf_6 : opAt m_Mo_leftOf 6 = sGet [(11, 13)] 9 := rfl
theorem i_Mo_leftOf_9 : opAt m_Mo_leftOf 9 = sIld 1 10 := rfl
theorem i_Mo_leftOf_10 : opAt m_Mo_leftOf 10 = sIal 11 := rfl
theorem i_Mo_leftOf_11 : opAt m_Mo_leftOf 11 = sCm .ge 142 14 := rfl
theorem i_Mo_leftOf_14 : opAt m_Mo_leftOf 14 = sPush (.int (Int32.ofInt 0)) 15 := rfl
theorem i_Mo_leftOf_15 : opAt m_Mo_leftOf 15 = sIst 4 17 := rfl
theorem i_Mo_leftOf_17 : opAt m_Mo_leftOf 17 = sIld 4 19 := rfl
theorem i_Mo_leftOf_19 : opAt m_Mo_leftOf 19 = sPush (.int (Int8.ofInt 8).toInt32) 21 := rfl
theorem i_Mo_leftOf_21 : opAt m_Mo_leftOf 21 = sCm .ge 136 24 := rfl
theorem i_Mo_leftOf_24 : opAt m_Mo_leftOf 24 = sPush (.int (Int32.ofInt 0)) 25 := rfl
theorem i_Mo_leftOf_25 : opAt m_Mo_leftOf 25 = sIst 5 27 := rfl
theorem i_Mo_leftOf_27 : opAt m_Mo_leftOf 27 = sPush (.int (Int32.ofInt 0)) 28 := rfl
theorem i_Mo_leftOf_28 : opAt m_Mo_leftOf 28 = sIst 6 30 := rfl
theorem i_Mo_leftOf_30 : opAt m_Mo_leftOf 30 = sIld 6 32 := rfl
theorem i_Mo_leftOf_32 : opAt m_Mo_leftOf 32 = sAld 0 33 := rfl
theorem i_Mo_leftOf_33 : opAt m_Mo_leftOf 33 = sGet [(11, 12)] 36 := rfl
theorem i_Mo_leftOf_36 : opAt m_Mo_leftOf 36 = sCm .ge 104 39 := rfl
theorem i_Mo_leftOf_39 : opAt m_Mo_leftOf 39 = sIld 6 41 := rfl
theorem i_Mo_leftOf_41 : opAt m_Mo_leftOf 41 = sIld 1 42 := rfl
theorem i_Mo_leftOf_42 : opAt m_Mo_leftOf 42 = sCm .ne 49 45 := rfl
theorem i_Mo_leftOf_45 : opAt m_Mo_leftOf 45 = sPush (.int (Int32.ofInt (-1))) 46 := rfl
theorem i_Mo_leftOf_46 : opAt m_Mo_leftOf 46 = sGo 66 := rfl
theorem i_Mo_leftOf_49 : opAt m_Mo_leftOf 49 = sAld 0 50 := rfl
theorem i_Mo_leftOf_50 : opAt m_Mo_leftOf 50 = sIld 6 52 := rfl
theorem i_Mo_leftOf_52 : opAt m_Mo_leftOf 52 = sAld 0 53 := rfl
theorem i_Mo_leftOf_53 : opAt m_Mo_leftOf 53 = sGet [(11, 14)] 56 := rfl
theorem i_Mo_leftOf_56 : opAt m_Mo_leftOf 56 = sPush (.int (Int8.ofInt 48).toInt32) 58 := rfl
theorem i_Mo_leftOf_58 : opAt m_Mo_leftOf 58 = sIld 1 59 := rfl
theorem i_Mo_leftOf_59 : opAt m_Mo_leftOf 59 = sBI (fun x y => x * y) 60 := rfl
theorem i_Mo_leftOf_60 : opAt m_Mo_leftOf 60 = sIld 3 61 := rfl
theorem i_Mo_leftOf_61 : opAt m_Mo_leftOf 61 = sBI (fun x y => x + y) 62 := rfl
theorem i_Mo_leftOf_62 : opAt m_Mo_leftOf 62 = sIal 63 := rfl
theorem i_Mo_leftOf_63 : opAt m_Mo_leftOf 63 = sVir [(11, m_Mo_pictureOf)] 0 2 66 := rfl
theorem i_Mo_leftOf_66 : opAt m_Mo_leftOf 66 = sIst 7 68 := rfl
theorem i_Mo_leftOf_68 : opAt m_Mo_leftOf 68 = sIld 5 70 := rfl
theorem i_Mo_leftOf_70 : opAt m_Mo_leftOf 70 = sIld 7 72 := rfl
theorem i_Mo_leftOf_72 : opAt m_Mo_leftOf 72 = sPush (.int (Int32.ofInt (-1))) 73 := rfl
theorem i_Mo_leftOf_73 : opAt m_Mo_leftOf 73 = sCm .eq 94 76 := rfl
theorem i_Mo_leftOf_76 : opAt m_Mo_leftOf 76 = sAld 0 77 := rfl
theorem i_Mo_leftOf_77 : opAt m_Mo_leftOf 77 = sIld 6 79 := rfl
theorem i_Mo_leftOf_79 : opAt m_Mo_leftOf 79 = sIld 7 81 := rfl
theorem i_Mo_leftOf_81 : opAt m_Mo_leftOf 81 = sIld 4 83 := rfl
theorem i_Mo_leftOf_83 : opAt m_Mo_leftOf 83 = sPush (.int (Int32.ofInt 2)) 84 := rfl
theorem i_Mo_leftOf_84 : opAt m_Mo_leftOf 84 = sVir [(11, m_Mo_has)] 0 4 87 := rfl
theorem i_Mo_leftOf_87 : opAt m_Mo_leftOf 87 = sIf .ne 94 90 := rfl
theorem i_Mo_leftOf_90 : opAt m_Mo_leftOf 90 = sPush (.int (Int32.ofInt 1)) 91 := rfl
theorem i_Mo_leftOf_91 : opAt m_Mo_leftOf 91 = sGo 95 := rfl
theorem i_Mo_leftOf_94 : opAt m_Mo_leftOf 94 = sPush (.int (Int32.ofInt 0)) 95 := rfl
theorem i_Mo_leftOf_95 : opAt m_Mo_leftOf 95 = sBI (fun x y => x + y) 96 := rfl
theorem i_Mo_leftOf_96 : opAt m_Mo_leftOf 96 = sIst 5 98 := rfl
theorem i_Mo_leftOf_98 : opAt m_Mo_leftOf 98 = sInc 6 1 101 := rfl
theorem i_Mo_leftOf_101 : opAt m_Mo_leftOf 101 = sGo 30 := rfl
theorem i_Mo_leftOf_104 : opAt m_Mo_leftOf 104 = sIld 2 105 := rfl
theorem i_Mo_leftOf_105 : opAt m_Mo_leftOf 105 = sAld 0 106 := rfl
theorem i_Mo_leftOf_106 : opAt m_Mo_leftOf 106 = sIld 1 107 := rfl
theorem i_Mo_leftOf_107 : opAt m_Mo_leftOf 107 = sIld 3 108 := rfl
theorem i_Mo_leftOf_108 : opAt m_Mo_leftOf 108 = sIld 4 110 := rfl
theorem i_Mo_leftOf_110 : opAt m_Mo_leftOf 110 = sPush (.int (Int32.ofInt 2)) 111 := rfl
theorem i_Mo_leftOf_111 : opAt m_Mo_leftOf 111 = sVir [(11, m_Mo_has)] 0 4 114 := rfl
theorem i_Mo_leftOf_114 : opAt m_Mo_leftOf 114 = sIf .eq 127 117 := rfl
theorem i_Mo_leftOf_117 : opAt m_Mo_leftOf 117 = sIld 5 119 := rfl
theorem i_Mo_leftOf_119 : opAt m_Mo_leftOf 119 = sPush (.int (Int32.ofInt 2)) 120 := rfl
theorem i_Mo_leftOf_120 : opAt m_Mo_leftOf 120 = sCm .ge 127 123 := rfl
theorem i_Mo_leftOf_123 : opAt m_Mo_leftOf 123 = sPush (.int (Int32.ofInt 1)) 124 := rfl
theorem i_Mo_leftOf_124 : opAt m_Mo_leftOf 124 = sGo 128 := rfl
theorem i_Mo_leftOf_127 : opAt m_Mo_leftOf 127 = sPush (.int (Int32.ofInt 0)) 128 := rfl
theorem i_Mo_leftOf_128 : opAt m_Mo_leftOf 128 = sBI (fun x y => x + y) 129 := rfl
theorem i_Mo_leftOf_129 : opAt m_Mo_leftOf 129 = sIst 2 130 := rfl
theorem i_Mo_leftOf_130 : opAt m_Mo_leftOf 130 = sInc 4 1 133 := rfl
theorem i_Mo_leftOf_133 : opAt m_Mo_leftOf 133 = sGo 17 := rfl
theorem i_Mo_leftOf_136 : opAt m_Mo_leftOf 136 = sInc 3 1 139 := rfl
theorem i_Mo_leftOf_139 : opAt m_Mo_leftOf 139 = sGo 4 := rfl
theorem i_Mo_leftOf_142 : opAt m_Mo_leftOf 142 = sIld 2 143 := rfl
theorem i_Mo_leftOf_143 : opAt m_Mo_leftOf 143 = sIret .int := rfl
theorem i_Mo_image_0 : opAt m_Mo_image 0 = sPush (.int (Int32.ofInt 0)) 1 := rfl
theorem i_Mo_image_1 : opAt m_Mo_image 1 = sIst 1 2 := rfl
theorem i_Mo_image_2 : opAt m_Mo_image 2 = sIld 1 3 := rfl
theorem i_Mo_image_3 : opAt m_Mo_image 3 = sPush (.int (Int16.ofInt 288).toInt32) 6 := rfl
theorem i_Mo_image_6 : opAt m_Mo_image 6 = sCm .ge 51 9 := rfl
theorem i_Mo_image_9 : opAt m_Mo_image 9 = sAld 0 10 := rfl
theorem i_Mo_image_10 : opAt m_Mo_image 10 = sGet [(11, 29)] 13 := rfl
theorem i_Mo_image_13 : opAt m_Mo_image 13 = sIld 1 14 := rfl
theorem i_Mo_image_14 : opAt m_Mo_image 14 = sAld 0 15 := rfl
theorem i_Mo_image_15 : opAt m_Mo_image 15 = sGet [(11, 14)] 18 := rfl
theorem i_Mo_image_18 : opAt m_Mo_image 18 = sIld 1 19 := rfl
theorem i_Mo_image_19 : opAt m_Mo_image 19 = sIal 20 := rfl
theorem i_Mo_image_20 : opAt m_Mo_image 20 = sIas 21 := rfl
theorem i_Mo_image_21 : opAt m_Mo_image 21 = sAld 0 22 := rfl
theorem i_Mo_image_22 : opAt m_Mo_image 22 = sGet [(11, 30)] 25 := rfl
theorem i_Mo_image_25 : opAt m_Mo_image 25 = sIld 1 26 := rfl
theorem i_Mo_image_26 : opAt m_Mo_image 26 = sAld 0 27 := rfl
theorem i_Mo_image_27 : opAt m_Mo_image 27 = sGet [(11, 15)] 30 := rfl
theorem i_Mo_image_30 : opAt m_Mo_image 30 = sIld 1 31 := rfl
theorem i_Mo_image_31 : opAt m_Mo_image 31 = sIal 32 := rfl
theorem i_Mo_image_32 : opAt m_Mo_image 32 = sIas 33 := rfl
theorem i_Mo_image_33 : opAt m_Mo_image 33 = sAld 0 34 := rfl
theorem i_Mo_image_34 : opAt m_Mo_image 34 = sGet [(11, 31)] 37 := rfl
theorem i_Mo_image_37 : opAt m_Mo_image 37 = sIld 1 38 := rfl
theorem i_Mo_image_38 : opAt m_Mo_image 38 = sAld 0 39 := rfl
theorem i_Mo_image_39 : opAt m_Mo_image 39 = sGet [(11, 16)] 42 := rfl
theorem i_Mo_image_42 : opAt m_Mo_image 42 = sIld 1 43 := rfl
theorem i_Mo_image_43 : opAt m_Mo_image 43 = sIal 44 := rfl
theorem i_Mo_image_44 : opAt m_Mo_image 44 = sIas 45 := rfl
theorem i_Mo_image_45 : opAt m_Mo_image 45 = sInc 1 1 48 := rfl
theorem i_Mo_image_48 : opAt m_Mo_image 48 = sGo 2 := rfl
theorem i_Mo_image_51 : opAt m_Mo_image 51 = sPush (.int (Int32.ofInt 0)) 52 := rfl
theorem i_Mo_image_52 : opAt m_Mo_image 52 = sIst 1 53 := rfl
theorem i_Mo_image_53 : opAt m_Mo_image 53 = sIld 1 54 := rfl
theorem i_Mo_image_54 : opAt m_Mo_image 54 = sPush (.int (Int8.ofInt 6).toInt32) 56 := rfl
theorem i_Mo_image_56 : opAt m_Mo_image 56 = sCm .ge 77 59 := rfl
theorem i_Mo_image_59 : opAt m_Mo_image 59 = sAld 0 60 := rfl
theorem i_Mo_image_60 : opAt m_Mo_image 60 = sGet [(11, 28)] 63 := rfl
theorem i_Mo_image_63 : opAt m_Mo_image 63 = sIld 1 64 := rfl
theorem i_Mo_image_64 : opAt m_Mo_image 64 = sAld 0 65 := rfl
theorem i_Mo_image_65 : opAt m_Mo_image 65 = sGet [(11, 13)] 68 := rfl
theorem i_Mo_image_68 : opAt m_Mo_image 68 = sIld 1 69 := rfl
theorem i_Mo_image_69 : opAt m_Mo_image 69 = sIal 70 := rfl
theorem i_Mo_image_70 : opAt m_Mo_image 70 = sIas 71 := rfl
theorem i_Mo_image_71 : opAt m_Mo_image 71 = sInc 1 1 74 := rfl
theorem i_Mo_image_74 : opAt m_Mo_image 74 = sGo 53 := rfl
theorem i_Mo_image_77 : opAt m_Mo_image 77 = sPush (.int (Int32.ofInt 0)) 78 := rfl
theorem i_Mo_image_78 : opAt m_Mo_image 78 = sIst 1 79 := rfl
theorem i_Mo_image_79 : opAt m_Mo_image 79 = sIld 1 80 := rfl
theorem i_Mo_image_80 : opAt m_Mo_image 80 = sPush (.int (Int8.ofInt 8).toInt32) 82 := rfl
theorem i_Mo_image_82 : opAt m_Mo_image 82 = sCm .ge 103 85 := rfl
theorem i_Mo_image_85 : opAt m_Mo_image 85 = sAld 0 86 := rfl
theorem i_Mo_image_86 : opAt m_Mo_image 86 = sGet [(11, 32)] 89 := rfl
theorem i_Mo_image_89 : opAt m_Mo_image 89 = sIld 1 90 := rfl
theorem i_Mo_image_90 : opAt m_Mo_image 90 = sAld 0 91 := rfl
theorem i_Mo_image_91 : opAt m_Mo_image 91 = sGet [(11, 19)] 94 := rfl
theorem i_Mo_image_94 : opAt m_Mo_image 94 = sIld 1 95 := rfl
theorem i_Mo_image_95 : opAt m_Mo_image 95 = sIal 96 := rfl
theorem i_Mo_image_96 : opAt m_Mo_image 96 = sIas 97 := rfl
theorem i_Mo_image_97 : opAt m_Mo_image 97 = sInc 1 1 100 := rfl
theorem i_Mo_image_100 : opAt m_Mo_image 100 = sGo 79 := rfl
theorem i_Mo_image_103 : opAt m_Mo_image 103 = sAld 0 104 := rfl
theorem i_Mo_image_104 : opAt m_Mo_image 104 = sAld 0 105 := rfl
theorem i_Mo_image_105 : opAt m_Mo_image 105 = sGet [(11, 12)] 108 := rfl
theorem i_Mo_image_108 : opAt m_Mo_image 108 = sPut [(11, 26)] (.int) 111 := rfl
theorem i_Mo_image_111 : opAt m_Mo_image 111 = sAld 0 112 := rfl
theorem i_Mo_image_112 : opAt m_Mo_image 112 = sAld 0 113 := rfl
theorem i_Mo_image_113 : opAt m_Mo_image 113 = sGet [(11, 18)] 116 := rfl
theorem i_Mo_image_116 : opAt m_Mo_image 116 = sPut [(11, 27)] (.int) 119 := rfl
theorem i_Mo_image_119 : opAt m_Mo_image 119 = sAld 0 120 := rfl
theorem i_Mo_image_120 : opAt m_Mo_image 120 = sGet [(11, 12)] 123 := rfl
theorem i_Mo_image_123 : opAt m_Mo_image 123 = sIret .int := rfl
theorem i_Mo_restore_0 : opAt m_Mo_restore 0 = sAld 0 1 := rfl
theorem i_Mo_restore_1 : opAt m_Mo_restore 1 = sGet [(11, 26)] 4 := rfl
theorem i_Mo_restore_4 : opAt m_Mo_restore 4 = sPush (.int (Int32.ofInt (-1))) 5 := rfl
theorem i_Mo_restore_5 : opAt m_Mo_restore 5 = sCm .ne 11 8 := rfl
theorem i_Mo_restore_8 : opAt m_Mo_restore 8 = sPush (.int (Int8.ofInt (-103)).toInt32) 10 := rfl
theorem i_Mo_restore_10 : opAt m_Mo_restore 10 = sIret .int := rfl
theorem i_Mo_restore_11 : opAt m_Mo_restore 11 = sPush (.int (Int32.ofInt 0)) 12 := rfl
theorem i_Mo_restore_12 : opAt m_Mo_restore 12 = sIst 1 13 := rfl
theorem i_Mo_restore_13 : opAt m_Mo_restore 13 = sIld 1 14 := rfl
theorem i_Mo_restore_14 : opAt m_Mo_restore 14 = sPush (.int (Int16.ofInt 288).toInt32) 17 := rfl
theorem i_Mo_restore_17 : opAt m_Mo_restore 17 = sCm .ge 62 20 := rfl
theorem i_Mo_restore_20 : opAt m_Mo_restore 20 = sAld 0 21 := rfl
theorem i_Mo_restore_21 : opAt m_Mo_restore 21 = sGet [(11, 14)] 24 := rfl
theorem i_Mo_restore_24 : opAt m_Mo_restore 24 = sIld 1 25 := rfl
theorem i_Mo_restore_25 : opAt m_Mo_restore 25 = sAld 0 26 := rfl
theorem i_Mo_restore_26 : opAt m_Mo_restore 26 = sGet [(11, 29)] 29 := rfl
theorem i_Mo_restore_29 : opAt m_Mo_restore 29 = sIld 1 30 := rfl
theorem i_Mo_restore_30 : opAt m_Mo_restore 30 = sIal 31 := rfl
theorem i_Mo_restore_31 : opAt m_Mo_restore 31 = sIas 32 := rfl
theorem i_Mo_restore_32 : opAt m_Mo_restore 32 = sAld 0 33 := rfl
theorem i_Mo_restore_33 : opAt m_Mo_restore 33 = sGet [(11, 15)] 36 := rfl
theorem i_Mo_restore_36 : opAt m_Mo_restore 36 = sIld 1 37 := rfl
theorem i_Mo_restore_37 : opAt m_Mo_restore 37 = sAld 0 38 := rfl
theorem i_Mo_restore_38 : opAt m_Mo_restore 38 = sGet [(11, 30)] 41 := rfl
theorem i_Mo_restore_41 : opAt m_Mo_restore 41 = sIld 1 42 := rfl
theorem i_Mo_restore_42 : opAt m_Mo_restore 42 = sIal 43 := rfl
theorem i_Mo_restore_43 : opAt m_Mo_restore 43 = sIas 44 := rfl
theorem i_Mo_restore_44 : opAt m_Mo_restore 44 = sAld 0 45 := rfl
theorem i_Mo_restore_45 : opAt m_Mo_restore 45 = sGet [(11, 16)] 48 := rfl
theorem i_Mo_restore_48 : opAt m_Mo_restore 48 = sIld 1 49 := rfl
theorem i_Mo_restore_49 : opAt m_Mo_restore 49 = sAld 0 50 := rfl
theorem i_Mo_restore_50 : opAt m_Mo_restore 50 = sGet [(11, 31)] 53 := rfl
theorem i_Mo_restore_53 : opAt m_Mo_restore 53 = sIld 1 54 := rfl
theorem i_Mo_restore_54 : opAt m_Mo_restore 54 = sIal 55 := rfl
theorem i_Mo_restore_55 : opAt m_Mo_restore 55 = sIas 56 := rfl
theorem i_Mo_restore_56 : opAt m_Mo_restore 56 = sInc 1 1 59 := rfl
theorem i_Mo_restore_59 : opAt m_Mo_restore 59 = sGo 13 := rfl
theorem i_Mo_restore_62 : opAt m_Mo_restore 62 = sPush (.int (Int32.ofInt 0)) 63 := rfl
theorem i_Mo_restore_63 : opAt m_Mo_restore 63 = sIst 1 64 := rfl
theorem i_Mo_restore_64 : opAt m_Mo_restore 64 = sIld 1 65 := rfl
theorem i_Mo_restore_65 : opAt m_Mo_restore 65 = sPush (.int (Int8.ofInt 6).toInt32) 67 := rfl
theorem i_Mo_restore_67 : opAt m_Mo_restore 67 = sCm .ge 88 70 := rfl
theorem i_Mo_restore_70 : opAt m_Mo_restore 70 = sAld 0 71 := rfl
theorem i_Mo_restore_71 : opAt m_Mo_restore 71 = sGet [(11, 13)] 74 := rfl
theorem i_Mo_restore_74 : opAt m_Mo_restore 74 = sIld 1 75 := rfl
theorem i_Mo_restore_75 : opAt m_Mo_restore 75 = sAld 0 76 := rfl
theorem i_Mo_restore_76 : opAt m_Mo_restore 76 = sGet [(11, 28)] 79 := rfl
theorem i_Mo_restore_79 : opAt m_Mo_restore 79 = sIld 1 80 := rfl
theorem i_Mo_restore_80 : opAt m_Mo_restore 80 = sIal 81 := rfl
theorem i_Mo_restore_81 : opAt m_Mo_restore 81 = sIas 82 := rfl
theorem i_Mo_restore_82 : opAt m_Mo_restore 82 = sInc 1 1 85 := rfl
theorem i_Mo_restore_85 : opAt m_Mo_restore 85 = sGo 64 := rfl
theorem i_Mo_restore_88 : opAt m_Mo_restore 88 = sPush (.int (Int32.ofInt 0)) 89 := rfl
theorem i_Mo_restore_89 : opAt m_Mo_restore 89 = sIst 1 90 := rfl
theorem i_Mo_restore_90 : opAt m_Mo_restore 90 = sIld 1 91 := rfl
theorem i_Mo_restore_91 : opAt m_Mo_restore 91 = sPush (.int (Int8.ofInt 8).toInt32) 93 := rfl
theorem i_Mo_restore_93 : opAt m_Mo_restore 93 = sCm .ge 114 96 := rfl
theorem i_Mo_restore_96 : opAt m_Mo_restore 96 = sAld 0 97 := rfl
theorem i_Mo_restore_97 : opAt m_Mo_restore 97 = sGet [(11, 19)] 100 := rfl
theorem i_Mo_restore_100 : opAt m_Mo_restore 100 = sIld 1 101 := rfl
theorem i_Mo_restore_101 : opAt m_Mo_restore 101 = sAld 0 102 := rfl
theorem i_Mo_restore_102 : opAt m_Mo_restore 102 = sGet [(11, 32)] 105 := rfl
theorem i_Mo_restore_105 : opAt m_Mo_restore 105 = sIld 1 106 := rfl
theorem i_Mo_restore_106 : opAt m_Mo_restore 106 = sIal 107 := rfl
theorem i_Mo_restore_107 : opAt m_Mo_restore 107 = sIas 108 := rfl
theorem i_Mo_restore_108 : opAt m_Mo_restore 108 = sInc 1 1 111 := rfl
theorem i_Mo_restore_111 : opAt m_Mo_restore 111 = sGo 90 := rfl
theorem i_Mo_restore_114 : opAt m_Mo_restore 114 = sAld 0 115 := rfl
theorem i_Mo_restore_115 : opAt m_Mo_restore 115 = sAld 0 116 := rfl
theorem i_Mo_restore_116 : opAt m_Mo_restore 116 = sGet [(11, 26)] 119 := rfl
theorem i_Mo_restore_119 : opAt m_Mo_restore 119 = sPut [(11, 12)] (.int) 122 := rfl
theorem i_Mo_restore_122 : opAt m_Mo_restore 122 = sAld 0 123 := rfl
theorem i_Mo_restore_123 : opAt m_Mo_restore 123 = sAld 0 124 := rfl
theorem i_Mo_restore_124 : opAt m_Mo_restore 124 = sGet [(11, 27)] 127 := rfl
theorem i_Mo_restore_127 : opAt m_Mo_restore 127 = sPut [(11, 18)] (.int) 130 := rfl
theorem i_Mo_restore_130 : opAt m_Mo_restore 130 = sAld 0 131 := rfl
theorem i_Mo_restore_131 : opAt m_Mo_restore 131 = sGet [(11, 12)] 134 := rfl
theorem i_Mo_restore_134 : opAt m_Mo_restore 134 = sIret .int := rfl
theorem i_Mo_count_0 : opAt m_Mo_count 0 = sAld 0 1 := rfl
theorem i_Mo_count_1 : opAt m_Mo_count 1 = sIld 1 2 := rfl
theorem i_Mo_count_2 : opAt m_Mo_count 2 = sVir [(11, m_Mo_countOf)] 0 1 5 := rfl
theorem i_Mo_count_5 : opAt m_Mo_count 5 = sIret .int := rfl
theorem i_Mo_countOf_0 : opAt m_Mo_countOf 0 = sIld 1 1 := rfl
theorem i_Mo_countOf_1 : opAt m_Mo_countOf 1 = sSw [(0, 44), (1, 49), (2, 54), (3, 59), (4, 64), (5, 69), (6, 74)] 79 := rfl
theorem i_Mo_countOf_44 : opAt m_Mo_countOf 44 = sAld 0 45 := rfl
theorem i_Mo_countOf_45 : opAt m_Mo_countOf 45 = sGet [(11, 12)] 48 := rfl
theorem i_Mo_countOf_48 : opAt m_Mo_countOf 48 = sIret .int := rfl
theorem i_Mo_countOf_49 : opAt m_Mo_countOf 49 = sAld 0 50 := rfl
theorem i_Mo_countOf_50 : opAt m_Mo_countOf 50 = sGet [(11, 9)] 53 := rfl
theorem i_Mo_countOf_53 : opAt m_Mo_countOf 53 = sIret .int := rfl
theorem i_Mo_countOf_54 : opAt m_Mo_countOf 54 = sAld 0 55 := rfl
theorem i_Mo_countOf_55 : opAt m_Mo_countOf 55 = sVir [(11, m_Mo_allPictures)] 0 0 58 := rfl
theorem i_Mo_countOf_58 : opAt m_Mo_countOf 58 = sIret .int := rfl
theorem i_Mo_countOf_59 : opAt m_Mo_countOf 59 = sAld 0 60 := rfl
theorem i_Mo_countOf_60 : opAt m_Mo_countOf 60 = sVir [(11, m_Mo_allMarks)] 0 0 63 := rfl
theorem i_Mo_countOf_63 : opAt m_Mo_countOf 63 = sIret .int := rfl
theorem i_Mo_countOf_64 : opAt m_Mo_countOf 64 = sAld 0 65 := rfl
theorem i_Mo_countOf_65 : opAt m_Mo_countOf 65 = sGet [(11, 18)] 68 := rfl
theorem i_Mo_countOf_68 : opAt m_Mo_countOf 68 = sIret .int := rfl
theorem i_Mo_countOf_69 : opAt m_Mo_countOf 69 = sAld 0 70 := rfl
theorem i_Mo_countOf_70 : opAt m_Mo_countOf 70 = sGet [(11, 1)] 73 := rfl
theorem i_Mo_countOf_73 : opAt m_Mo_countOf 73 = sIret .int := rfl
theorem i_Mo_countOf_74 : opAt m_Mo_countOf 74 = sAld 0 75 := rfl
theorem i_Mo_countOf_75 : opAt m_Mo_countOf 75 = sGet [(11, 20)] 78 := rfl
theorem i_Mo_countOf_78 : opAt m_Mo_countOf 78 = sIret .int := rfl
theorem i_Mo_countOf_79 : opAt m_Mo_countOf 79 = sPush (.int (Int8.ofInt (-102)).toInt32) 81 := rfl
theorem i_Mo_countOf_81 : opAt m_Mo_countOf 81 = sIret .int := rfl
theorem i_Mo_allPictures_0 : opAt m_Mo_allPictures 0 = sPush (.int (Int32.ofInt 0)) 1 := rfl
theorem i_Mo_allPictures_1 : opAt m_Mo_allPictures 1 = sIst 1 2 := rfl
theorem i_Mo_allPictures_2 : opAt m_Mo_allPictures 2 = sPush (.int (Int32.ofInt 0)) 3 := rfl
theorem i_Mo_allPictures_3 : opAt m_Mo_allPictures 3 = sIst 2 4 := rfl
theorem i_Mo_allPictures_4 : opAt m_Mo_allPictures 4 = sIld 2 5 := rfl
theorem i_Mo_allPictures_5 : opAt m_Mo_allPictures 5 = sAld 0 6 := rfl
theorem i_Mo_allPictures_6 : opAt m_Mo_allPictures 6 = sGet [(11, 12)] 9 := rfl
theorem i_Mo_allPictures_9 : opAt m_Mo_allPictures 9 = sCm .ge 27 12 := rfl
theorem i_Mo_allPictures_12 : opAt m_Mo_allPictures 12 = sIld 1 13 := rfl
theorem i_Mo_allPictures_13 : opAt m_Mo_allPictures 13 = sAld 0 14 := rfl
theorem i_Mo_allPictures_14 : opAt m_Mo_allPictures 14 = sGet [(11, 13)] 17 := rfl
theorem i_Mo_allPictures_17 : opAt m_Mo_allPictures 17 = sIld 2 18 := rfl
theorem i_Mo_allPictures_18 : opAt m_Mo_allPictures 18 = sIal 19 := rfl
theorem i_Mo_allPictures_19 : opAt m_Mo_allPictures 19 = sBI (fun x y => x + y) 20 := rfl
theorem i_Mo_allPictures_20 : opAt m_Mo_allPictures 20 = sIst 1 21 := rfl
theorem i_Mo_allPictures_21 : opAt m_Mo_allPictures 21 = sInc 2 1 24 := rfl
theorem i_Mo_allPictures_24 : opAt m_Mo_allPictures 24 = sGo 4 := rfl
theorem i_Mo_allPictures_27 : opAt m_Mo_allPictures 27 = sIld 1 28 := rfl
theorem i_Mo_allPictures_28 : opAt m_Mo_allPictures 28 = sIret .int := rfl
theorem i_Mo_allMarks_0 : opAt m_Mo_allMarks 0 = sPush (.int (Int32.ofInt 0)) 1 := rfl
theorem i_Mo_allMarks_1 : opAt m_Mo_allMarks 1 = sIst 1 2 := rfl
theorem i_Mo_allMarks_2 : opAt m_Mo_allMarks 2 = sPush (.int (Int32.ofInt 0)) 3 := rfl
theorem i_Mo_allMarks_3 : opAt m_Mo_allMarks 3 = sIst 2 4 := rfl
theorem i_Mo_allMarks_4 : opAt m_Mo_allMarks 4 = sIld 2 5 := rfl
theorem i_Mo_allMarks_5 : opAt m_Mo_allMarks 5 = sAld 0 6 := rfl
theorem i_Mo_allMarks_6 : opAt m_Mo_allMarks 6 = sGet [(11, 12)] 9 := rfl
theorem i_Mo_allMarks_9 : opAt m_Mo_allMarks 9 = sCm .ge 68 12 := rfl
theorem i_Mo_allMarks_12 : opAt m_Mo_allMarks 12 = sPush (.int (Int32.ofInt 0)) 13 := rfl
theorem i_Mo_allMarks_13 : opAt m_Mo_allMarks 13 = sIst 3 14 := rfl
theorem i_Mo_allMarks_14 : opAt m_Mo_allMarks 14 = sIld 3 15 := rfl
theorem i_Mo_allMarks_15 : opAt m_Mo_allMarks 15 = sAld 0 16 := rfl
theorem i_Mo_allMarks_16 : opAt m_Mo_allMarks 16 = sGet [(11, 13)] 19 := rfl
theorem i_Mo_allMarks_19 : opAt m_Mo_allMarks 19 = sIld 2 20 := rfl
theorem i_Mo_allMarks_20 : opAt m_Mo_allMarks 20 = sIal 21 := rfl
theorem i_Mo_allMarks_21 : opAt m_Mo_allMarks 21 = sCm .ge 62 24 := rfl
theorem i_Mo_allMarks_24 : opAt m_Mo_allMarks 24 = sIld 1 25 := rfl
theorem i_Mo_allMarks_25 : opAt m_Mo_allMarks 25 = sAld 0 26 := rfl
theorem i_Mo_allMarks_26 : opAt m_Mo_allMarks 26 = sGet [(11, 15)] 29 := rfl
theorem i_Mo_allMarks_29 : opAt m_Mo_allMarks 29 = sPush (.int (Int8.ofInt 48).toInt32) 31 := rfl
theorem i_Mo_allMarks_31 : opAt m_Mo_allMarks 31 = sIld 2 32 := rfl
theorem i_Mo_allMarks_32 : opAt m_Mo_allMarks 32 = sBI (fun x y => x * y) 33 := rfl
theorem i_Mo_allMarks_33 : opAt m_Mo_allMarks 33 = sIld 3 34 := rfl
theorem i_Mo_allMarks_34 : opAt m_Mo_allMarks 34 = sBI (fun x y => x + y) 35 := rfl
theorem i_Mo_allMarks_35 : opAt m_Mo_allMarks 35 = sIal 36 := rfl
theorem i_Mo_allMarks_36 : opAt m_Mo_allMarks 36 = sSta m_Mo_bitsOf 0 1 39 := rfl
theorem i_Mo_allMarks_39 : opAt m_Mo_allMarks 39 = sAld 0 40 := rfl
theorem i_Mo_allMarks_40 : opAt m_Mo_allMarks 40 = sGet [(11, 16)] 43 := rfl
theorem i_Mo_allMarks_43 : opAt m_Mo_allMarks 43 = sPush (.int (Int8.ofInt 48).toInt32) 45 := rfl
theorem i_Mo_allMarks_45 : opAt m_Mo_allMarks 45 = sIld 2 46 := rfl
theorem i_Mo_allMarks_46 : opAt m_Mo_allMarks 46 = sBI (fun x y => x * y) 47 := rfl
theorem i_Mo_allMarks_47 : opAt m_Mo_allMarks 47 = sIld 3 48 := rfl
theorem i_Mo_allMarks_48 : opAt m_Mo_allMarks 48 = sBI (fun x y => x + y) 49 := rfl
theorem i_Mo_allMarks_49 : opAt m_Mo_allMarks 49 = sIal 50 := rfl
theorem i_Mo_allMarks_50 : opAt m_Mo_allMarks 50 = sSta m_Mo_bitsOf 0 1 53 := rfl
theorem i_Mo_allMarks_53 : opAt m_Mo_allMarks 53 = sBI (fun x y => x + y) 54 := rfl
theorem i_Mo_allMarks_54 : opAt m_Mo_allMarks 54 = sBI (fun x y => x + y) 55 := rfl
theorem i_Mo_allMarks_55 : opAt m_Mo_allMarks 55 = sIst 1 56 := rfl
theorem i_Mo_allMarks_56 : opAt m_Mo_allMarks 56 = sInc 3 1 59 := rfl
theorem i_Mo_allMarks_59 : opAt m_Mo_allMarks 59 = sGo 14 := rfl
theorem i_Mo_allMarks_62 : opAt m_Mo_allMarks 62 = sInc 2 1 65 := rfl
theorem i_Mo_allMarks_65 : opAt m_Mo_allMarks 65 = sGo 4 := rfl
theorem i_Mo_allMarks_68 : opAt m_Mo_allMarks 68 = sIld 1 69 := rfl
theorem i_Mo_allMarks_69 : opAt m_Mo_allMarks 69 = sIret .int := rfl
theorem i_Mo_digest_0 : opAt m_Mo_digest 0 = sAld 0 1 := rfl
theorem i_Mo_digest_1 : opAt m_Mo_digest 1 = sPush (.long (463)) 4 := rfl
theorem i_Mo_digest_4 : opAt m_Mo_digest 4 = sPut [(11, 33)] (.long) 7 := rfl
theorem i_Mo_digest_7 : opAt m_Mo_digest 7 = sPush (.int (Int32.ofInt 0)) 8 := rfl
theorem i_Mo_digest_8 : opAt m_Mo_digest 8 = sIst 1 9 := rfl
theorem i_Mo_digest_9 : opAt m_Mo_digest 9 = sIld 1 10 := rfl
theorem i_Mo_digest_10 : opAt m_Mo_digest 10 = sAld 0 11 := rfl
theorem i_Mo_digest_11 : opAt m_Mo_digest 11 = sGet [(11, 9)] 14 := rfl
theorem i_Mo_digest_14 : opAt m_Mo_digest 14 = sCm .ge 59 17 := rfl
theorem i_Mo_digest_17 : opAt m_Mo_digest 17 = sPush (.int (Int32.ofInt 0)) 18 := rfl
theorem i_Mo_digest_18 : opAt m_Mo_digest 18 = sIst 2 19 := rfl
theorem i_Mo_digest_19 : opAt m_Mo_digest 19 = sIld 2 20 := rfl
theorem i_Mo_digest_20 : opAt m_Mo_digest 20 = sPush (.int (Int32.ofInt 4)) 21 := rfl
theorem i_Mo_digest_21 : opAt m_Mo_digest 21 = sAld 0 22 := rfl
theorem i_Mo_digest_22 : opAt m_Mo_digest 22 = sGet [(11, 10)] 25 := rfl
theorem i_Mo_digest_25 : opAt m_Mo_digest 25 = sIld 1 26 := rfl
theorem i_Mo_digest_26 : opAt m_Mo_digest 26 = sIal 27 := rfl
theorem i_Mo_digest_27 : opAt m_Mo_digest 27 = sBI (fun x y => x * y) 28 := rfl
theorem i_Mo_digest_28 : opAt m_Mo_digest 28 = sCm .ge 53 31 := rfl
theorem i_Mo_digest_31 : opAt m_Mo_digest 31 = sAld 0 32 := rfl
theorem i_Mo_digest_32 : opAt m_Mo_digest 32 = sAld 0 33 := rfl
theorem i_Mo_digest_33 : opAt m_Mo_digest 33 = sGet [(11, 11)] 36 := rfl
theorem i_Mo_digest_36 : opAt m_Mo_digest 36 = sPush (.int (Int8.ofInt 16).toInt32) 38 := rfl
theorem i_Mo_digest_38 : opAt m_Mo_digest 38 = sIld 1 39 := rfl
theorem i_Mo_digest_39 : opAt m_Mo_digest 39 = sBI (fun x y => x * y) 40 := rfl
theorem i_Mo_digest_40 : opAt m_Mo_digest 40 = sIld 2 41 := rfl
theorem i_Mo_digest_41 : opAt m_Mo_digest 41 = sBI (fun x y => x + y) 42 := rfl
theorem i_Mo_digest_42 : opAt m_Mo_digest 42 = sIal 43 := rfl
theorem i_Mo_digest_43 : opAt m_Mo_digest 43 = sIL 44 := rfl
theorem i_Mo_digest_44 : opAt m_Mo_digest 44 = sVir [(11, m_Mo_say)] 0 1 47 := rfl
theorem i_Mo_digest_47 : opAt m_Mo_digest 47 = sInc 2 1 50 := rfl
theorem i_Mo_digest_50 : opAt m_Mo_digest 50 = sGo 19 := rfl
theorem i_Mo_digest_53 : opAt m_Mo_digest 53 = sInc 1 1 56 := rfl
theorem i_Mo_digest_56 : opAt m_Mo_digest 56 = sGo 9 := rfl
theorem i_Mo_digest_59 : opAt m_Mo_digest 59 = sPush (.int (Int32.ofInt 0)) 60 := rfl
theorem i_Mo_digest_60 : opAt m_Mo_digest 60 = sIst 1 61 := rfl
theorem i_Mo_digest_61 : opAt m_Mo_digest 61 = sIld 1 62 := rfl
theorem i_Mo_digest_62 : opAt m_Mo_digest 62 = sAld 0 63 := rfl
theorem i_Mo_digest_63 : opAt m_Mo_digest 63 = sGet [(11, 12)] 66 := rfl
theorem i_Mo_digest_66 : opAt m_Mo_digest 66 = sCm .ge 80 69 := rfl
theorem i_Mo_digest_69 : opAt m_Mo_digest 69 = sAld 0 70 := rfl
theorem i_Mo_digest_70 : opAt m_Mo_digest 70 = sIld 1 71 := rfl
theorem i_Mo_digest_71 : opAt m_Mo_digest 71 = sVir [(11, m_Mo_sayPrint)] 0 1 74 := rfl
theorem i_Mo_digest_74 : opAt m_Mo_digest 74 = sInc 1 1 77 := rfl
theorem i_Mo_digest_77 : opAt m_Mo_digest 77 = sGo 61 := rfl
theorem i_Mo_digest_80 : opAt m_Mo_digest 80 = sPush (.int (Int32.ofInt 0)) 81 := rfl
theorem i_Mo_digest_81 : opAt m_Mo_digest 81 = sIst 1 82 := rfl
theorem i_Mo_digest_82 : opAt m_Mo_digest 82 = sIld 1 83 := rfl
theorem i_Mo_digest_83 : opAt m_Mo_digest 83 = sPush (.int (Int32.ofInt 2)) 84 := rfl
theorem i_Mo_digest_84 : opAt m_Mo_digest 84 = sAld 0 85 := rfl
theorem i_Mo_digest_85 : opAt m_Mo_digest 85 = sGet [(11, 18)] 88 := rfl
theorem i_Mo_digest_88 : opAt m_Mo_digest 88 = sBI (fun x y => x * y) 89 := rfl
theorem i_Mo_digest_89 : opAt m_Mo_digest 89 = sCm .ge 109 92 := rfl
theorem i_Mo_digest_92 : opAt m_Mo_digest 92 = sAld 0 93 := rfl
theorem i_Mo_digest_93 : opAt m_Mo_digest 93 = sAld 0 94 := rfl
theorem i_Mo_digest_94 : opAt m_Mo_digest 94 = sGet [(11, 19)] 97 := rfl
theorem i_Mo_digest_97 : opAt m_Mo_digest 97 = sIld 1 98 := rfl
theorem i_Mo_digest_98 : opAt m_Mo_digest 98 = sIal 99 := rfl
theorem i_Mo_digest_99 : opAt m_Mo_digest 99 = sIL 100 := rfl
theorem i_Mo_digest_100 : opAt m_Mo_digest 100 = sVir [(11, m_Mo_say)] 0 1 103 := rfl
theorem i_Mo_digest_103 : opAt m_Mo_digest 103 = sInc 1 1 106 := rfl
theorem i_Mo_digest_106 : opAt m_Mo_digest 106 = sGo 82 := rfl
theorem i_Mo_digest_109 : opAt m_Mo_digest 109 = sPush (.int (Int32.ofInt 0)) 110 := rfl
theorem i_Mo_digest_110 : opAt m_Mo_digest 110 = sIst 1 111 := rfl
theorem i_Mo_digest_111 : opAt m_Mo_digest 111 = sIld 1 112 := rfl
theorem i_Mo_digest_112 : opAt m_Mo_digest 112 = sAld 0 113 := rfl
theorem i_Mo_digest_113 : opAt m_Mo_digest 113 = sGet [(11, 1)] 116 := rfl
theorem i_Mo_digest_116 : opAt m_Mo_digest 116 = sCm .ge 136 119 := rfl
theorem i_Mo_digest_119 : opAt m_Mo_digest 119 = sAld 0 120 := rfl
theorem i_Mo_digest_120 : opAt m_Mo_digest 120 = sAld 0 121 := rfl
theorem i_Mo_digest_121 : opAt m_Mo_digest 121 = sGet [(11, 0)] 124 := rfl
theorem i_Mo_digest_124 : opAt m_Mo_digest 124 = sIld 1 125 := rfl
theorem i_Mo_digest_125 : opAt m_Mo_digest 125 = sIal 126 := rfl
theorem i_Mo_digest_126 : opAt m_Mo_digest 126 = sIL 127 := rfl
theorem i_Mo_digest_127 : opAt m_Mo_digest 127 = sVir [(11, m_Mo_say)] 0 1 130 := rfl
theorem i_Mo_digest_130 : opAt m_Mo_digest 130 = sInc 1 1 133 := rfl
theorem i_Mo_digest_133 : opAt m_Mo_digest 133 = sGo 111 := rfl
theorem i_Mo_digest_136 : opAt m_Mo_digest 136 = sPush (.int (Int32.ofInt 0)) 137 := rfl
theorem i_Mo_digest_137 : opAt m_Mo_digest 137 = sIst 1 138 := rfl
theorem i_Mo_digest_138 : opAt m_Mo_digest 138 = sIld 1 139 := rfl
theorem i_Mo_digest_139 : opAt m_Mo_digest 139 = sPush (.int (Int8.ofInt 7).toInt32) 141 := rfl
theorem i_Mo_digest_141 : opAt m_Mo_digest 141 = sCm .ge 160 144 := rfl
theorem i_Mo_digest_144 : opAt m_Mo_digest 144 = sAld 0 145 := rfl
theorem i_Mo_digest_145 : opAt m_Mo_digest 145 = sAld 0 146 := rfl
theorem i_Mo_digest_146 : opAt m_Mo_digest 146 = sIld 1 147 := rfl
theorem i_Mo_digest_147 : opAt m_Mo_digest 147 = sVir [(11, m_Mo_countOf)] 0 1 150 := rfl
theorem i_Mo_digest_150 : opAt m_Mo_digest 150 = sIL 151 := rfl
theorem i_Mo_digest_151 : opAt m_Mo_digest 151 = sVir [(11, m_Mo_say)] 0 1 154 := rfl
theorem i_Mo_digest_154 : opAt m_Mo_digest 154 = sInc 1 1 157 := rfl
theorem i_Mo_digest_157 : opAt m_Mo_digest 157 = sGo 138 := rfl
theorem i_Mo_digest_160 : opAt m_Mo_digest 160 = sAld 0 161 := rfl
theorem i_Mo_digest_161 : opAt m_Mo_digest 161 = sGet [(11, 33)] 164 := rfl
theorem i_Mo_digest_164 : opAt m_Mo_digest 164 = sLret := rfl
theorem i_Mo_say_0 : opAt m_Mo_say 0 = sAld 0 1 := rfl
theorem i_Mo_say_1 : opAt m_Mo_say 1 = sPush (.long (31)) 4 := rfl
theorem i_Mo_say_4 : opAt m_Mo_say 4 = sAld 0 5 := rfl
theorem i_Mo_say_5 : opAt m_Mo_say 5 = sGet [(11, 33)] 8 := rfl
theorem i_Mo_say_8 : opAt m_Mo_say 8 = sBL (fun x y => x * y) 9 := rfl
theorem i_Mo_say_9 : opAt m_Mo_say 9 = sLld 1 10 := rfl
theorem i_Mo_say_10 : opAt m_Mo_say 10 = sBL (fun x y => x + y) 11 := rfl
theorem i_Mo_say_11 : opAt m_Mo_say 11 = sPut [(11, 33)] (.long) 14 := rfl
theorem i_Mo_say_14 : opAt m_Mo_say 14 = sVret := rfl
theorem i_Mo_sayPrint_0 : opAt m_Mo_sayPrint 0 = sAld 0 1 := rfl
theorem i_Mo_sayPrint_1 : opAt m_Mo_sayPrint 1 = sAld 0 2 := rfl
theorem i_Mo_sayPrint_2 : opAt m_Mo_sayPrint 2 = sGet [(11, 13)] 5 := rfl
theorem i_Mo_sayPrint_5 : opAt m_Mo_sayPrint 5 = sIld 1 6 := rfl
theorem i_Mo_sayPrint_6 : opAt m_Mo_sayPrint 6 = sIal 7 := rfl
theorem i_Mo_sayPrint_7 : opAt m_Mo_sayPrint 7 = sIL 8 := rfl
theorem i_Mo_sayPrint_8 : opAt m_Mo_sayPrint 8 = sVir [(11, m_Mo_say)] 0 1 11 := rfl
theorem i_Mo_sayPrint_11 : opAt m_Mo_sayPrint 11 = sPush (.int (Int32.ofInt 0)) 12 := rfl
theorem i_Mo_sayPrint_12 : opAt m_Mo_sayPrint 12 = sIst 2 13 := rfl
theorem i_Mo_sayPrint_13 : opAt m_Mo_sayPrint 13 = sIld 2 14 := rfl
theorem i_Mo_sayPrint_14 : opAt m_Mo_sayPrint 14 = sAld 0 15 := rfl
theorem i_Mo_sayPrint_15 : opAt m_Mo_sayPrint 15 = sGet [(11, 13)] 18 := rfl
theorem i_Mo_sayPrint_18 : opAt m_Mo_sayPrint 18 = sIld 1 19 := rfl
theorem i_Mo_sayPrint_19 : opAt m_Mo_sayPrint 19 = sIal 20 := rfl
theorem i_Mo_sayPrint_20 : opAt m_Mo_sayPrint 20 = sCm .ge 77 23 := rfl
theorem i_Mo_sayPrint_23 : opAt m_Mo_sayPrint 23 = sAld 0 24 := rfl
theorem i_Mo_sayPrint_24 : opAt m_Mo_sayPrint 24 = sAld 0 25 := rfl
theorem i_Mo_sayPrint_25 : opAt m_Mo_sayPrint 25 = sGet [(11, 14)] 28 := rfl
theorem i_Mo_sayPrint_28 : opAt m_Mo_sayPrint 28 = sPush (.int (Int8.ofInt 48).toInt32) 30 := rfl
theorem i_Mo_sayPrint_30 : opAt m_Mo_sayPrint 30 = sIld 1 31 := rfl
theorem i_Mo_sayPrint_31 : opAt m_Mo_sayPrint 31 = sBI (fun x y => x * y) 32 := rfl
theorem i_Mo_sayPrint_32 : opAt m_Mo_sayPrint 32 = sIld 2 33 := rfl
theorem i_Mo_sayPrint_33 : opAt m_Mo_sayPrint 33 = sBI (fun x y => x + y) 34 := rfl
theorem i_Mo_sayPrint_34 : opAt m_Mo_sayPrint 34 = sIal 35 := rfl
theorem i_Mo_sayPrint_35 : opAt m_Mo_sayPrint 35 = sIL 36 := rfl
theorem i_Mo_sayPrint_36 : opAt m_Mo_sayPrint 36 = sVir [(11, m_Mo_say)] 0 1 39 := rfl
theorem i_Mo_sayPrint_39 : opAt m_Mo_sayPrint 39 = sAld 0 40 := rfl
theorem i_Mo_sayPrint_40 : opAt m_Mo_sayPrint 40 = sAld 0 41 := rfl
theorem i_Mo_sayPrint_41 : opAt m_Mo_sayPrint 41 = sGet [(11, 15)] 44 := rfl
theorem i_Mo_sayPrint_44 : opAt m_Mo_sayPrint 44 = sPush (.int (Int8.ofInt 48).toInt32) 46 := rfl
theorem i_Mo_sayPrint_46 : opAt m_Mo_sayPrint 46 = sIld 1 47 := rfl
theorem i_Mo_sayPrint_47 : opAt m_Mo_sayPrint 47 = sBI (fun x y => x * y) 48 := rfl
theorem i_Mo_sayPrint_48 : opAt m_Mo_sayPrint 48 = sIld 2 49 := rfl
theorem i_Mo_sayPrint_49 : opAt m_Mo_sayPrint 49 = sBI (fun x y => x + y) 50 := rfl
theorem i_Mo_sayPrint_50 : opAt m_Mo_sayPrint 50 = sIal 51 := rfl
theorem i_Mo_sayPrint_51 : opAt m_Mo_sayPrint 51 = sIL 52 := rfl
theorem i_Mo_sayPrint_52 : opAt m_Mo_sayPrint 52 = sVir [(11, m_Mo_say)] 0 1 55 := rfl
theorem i_Mo_sayPrint_55 : opAt m_Mo_sayPrint 55 = sAld 0 56 := rfl
theorem i_Mo_sayPrint_56 : opAt m_Mo_sayPrint 56 = sAld 0 57 := rfl
theorem i_Mo_sayPrint_57 : opAt m_Mo_sayPrint 57 = sGet [(11, 16)] 60 := rfl
theorem i_Mo_sayPrint_60 : opAt m_Mo_sayPrint 60 = sPush (.int (Int8.ofInt 48).toInt32) 62 := rfl
theorem i_Mo_sayPrint_62 : opAt m_Mo_sayPrint 62 = sIld 1 63 := rfl
theorem i_Mo_sayPrint_63 : opAt m_Mo_sayPrint 63 = sBI (fun x y => x * y) 64 := rfl
theorem i_Mo_sayPrint_64 : opAt m_Mo_sayPrint 64 = sIld 2 65 := rfl
theorem i_Mo_sayPrint_65 : opAt m_Mo_sayPrint 65 = sBI (fun x y => x + y) 66 := rfl
theorem i_Mo_sayPrint_66 : opAt m_Mo_sayPrint 66 = sIal 67 := rfl
theorem i_Mo_sayPrint_67 : opAt m_Mo_sayPrint 67 = sIL 68 := rfl
theorem i_Mo_sayPrint_68 : opAt m_Mo_sayPrint 68 = sVir [(11, m_Mo_say)] 0 1 71 := rfl
theorem i_Mo_sayPrint_71 : opAt m_Mo_sayPrint 71 = sInc 2 1 74 := rfl
theorem i_Mo_sayPrint_74 : opAt m_Mo_sayPrint 74 = sGo 13 := rfl
theorem i_Mo_sayPrint_77 : opAt m_Mo_sayPrint 77 = sAld 0 78 := rfl
theorem i_Mo_sayPrint_78 : opAt m_Mo_sayPrint 78 = sAld 0 79 := rfl
theorem i_Mo_sayPrint_79 : opAt m_Mo_sayPrint 79 = sIld 1 80 := rfl
theorem i_Mo_sayPrint_80 : opAt m_Mo_sayPrint 80 = sPush (.int (Int32.ofInt 0)) 81 := rfl
theorem i_Mo_sayPrint_81 : opAt m_Mo_sayPrint 81 = sPush (.int (Int32.ofInt 2)) 82 := rfl
theorem i_Mo_sayPrint_82 : opAt m_Mo_sayPrint 82 = sVir [(11, m_Mo_roundsOf)] 0 3 85 := rfl
theorem i_Mo_sayPrint_85 : opAt m_Mo_sayPrint 85 = sIL 86 := rfl
theorem i_Mo_sayPrint_86 : opAt m_Mo_sayPrint 86 = sVir [(11, m_Mo_say)] 0 1 89 := rfl
theorem i_Mo_sayPrint_89 : opAt m_Mo_sayPrint 89 = sAld 0 90 := rfl
theorem i_Mo_sayPrint_90 : opAt m_Mo_sayPrint 90 = sAld 0 91 := rfl
theorem i_Mo_sayPrint_91 : opAt m_Mo_sayPrint 91 = sIld 1 92 := rfl
theorem i_Mo_sayPrint_92 : opAt m_Mo_sayPrint 92 = sVir [(11, m_Mo_whoseOf)] 0 1 95 := rfl
theorem i_Mo_sayPrint_95 : opAt m_Mo_sayPrint 95 = sIL 96 := rfl
theorem i_Mo_sayPrint_96 : opAt m_Mo_sayPrint 96 = sVir [(11, m_Mo_say)] 0 1 99 := rfl
theorem i_Mo_sayPrint_99 : opAt m_Mo_sayPrint 99 = sAld 0 100 := rfl
theorem i_Mo_sayPrint_100 : opAt m_Mo_sayPrint 100 = sAld 0 101 := rfl
theorem i_Mo_sayPrint_101 : opAt m_Mo_sayPrint 101 = sIld 1 102 := rfl
theorem i_Mo_sayPrint_102 : opAt m_Mo_sayPrint 102 = sVir [(11, m_Mo_leftOf)] 0 1 105 := rfl
theorem i_Mo_sayPrint_105 : opAt m_Mo_sayPrint 105 = sIL 106 := rfl
theorem i_Mo_sayPrint_106 : opAt m_Mo_sayPrint 106 = sVir [(11, m_Mo_say)] 0 1 109 := rfl
theorem i_Mo_sayPrint_109 : opAt m_Mo_sayPrint 109 = sVret := rfl
