theorem ini_L : Cond.initialized RL ∈ gT := gT_of (tm1 0 rfl) rfl
theorem ini_X11 : Cond.initialized RX11 ∈ gT := gT_of (tm1 1 rfl) rfl
theorem ini_X9 : Cond.initialized RX9 ∈ gT := gT_of (tm1 2 rfl) rfl
theorem ini_X6 : Cond.initialized RX6 ∈ gT := gT_of (tm1 3 rfl) rfl
theorem ini_X10 : Cond.initialized RX10 ∈ gT := gT_of (tm1 4 rfl) rfl
theorem ini_X1 : Cond.initialized RX1 ∈ gT := gT_of (tm1 5 rfl) rfl
theorem ini_X8 : Cond.initialized RX8 ∈ gT := gT_of (tm1 6 rfl) rfl
theorem ini_X7 : Cond.initialized RX7 ∈ gT := gT_of (tm1 7 rfl) rfl
theorem ini_X12 : Cond.initialized RX12 ∈ gT := gT_of (tm1 8 rfl) rfl
theorem ini_X4 : Cond.initialized RX4 ∈ gT := gT_of (tm1 9 rfl) rfl
theorem ini_X5 : Cond.initialized RX5 ∈ gT := gT_of (tm1 10 rfl) rfl
theorem ini_X2 : Cond.initialized RX2 ∈ gT := gT_of (tm1 11 rfl) rfl
theorem ini_java_lang_Math : Cond.initialized "java/lang/Math" ∈ gT := gT_of (tm1 12 rfl) rfl
theorem ini_java_lang_Integer : Cond.initialized "java/lang/Integer" ∈ gT := gT_of (tm1 13 rfl) rfl
theorem ini_X3 : Cond.initialized RX3 ∈ gT := gT_of (tm1 14 rfl) rfl
theorem ini_X0 : Cond.initialized RX0 ∈ gT := gT_of (tm1 15 rfl) rfl
theorem k_L_7 : Cond.classLink RL 7 RX11 ∈ gT := gT_of (tm1 16 rfl) rfl
theorem in_X11 : Cond.instantiable RX11 13 ∈ gT := gT_of (tm1 17 rfl) rfl
theorem m_L_9 : Cond.methodLink RL 9 yX11_init ∈ gT := gT_of (tm1 18 rfl) rfl
theorem m_X11_1 : Cond.methodLink RX11 1 objectInit ∈ gT := gT_of (tm1 21 rfl) rfl
theorem k_X11_7 : Cond.classLink RX11 7 RX9 ∈ gT := gT_of (tm1 24 rfl) rfl
theorem in_X9 : Cond.instantiable RX9 2 ∈ gT := gT_of (tm1 25 rfl) rfl
theorem m_X11_9 : Cond.methodLinkNest RX11 9 yX9_init "ClickBench" ∈ tables_1 := tm1 26 rfl
theorem m_X9_3 : Cond.methodLink RX9 3 objectInit ∈ gT := gT_of (tm1 29 rfl) rfl
theorem f_X9_9 : fl RX9 9 9 0 := ⟨_, rfl, by decide, gT_of (tm1 30 rfl) rfl⟩
theorem f_X9_15 : fl RX9 15 9 1 := ⟨_, rfl, by decide, gT_of (tm1 31 rfl) rfl⟩
theorem f_X11_81 : fn RX11 81 9 1 := ⟨_, _, rfl, by decide, tm1 32 rfl⟩
theorem f_X10_36 : fn RX10 36 9 1 := ⟨_, _, rfl, by decide, tm1 33 rfl⟩
theorem ac_byte : Cond.arrayClass .byte ∈ gT := gT_of (tm1 39 rfl) rfl
theorem k_X11_16 : Cond.classLink RX11 16 RX6 ∈ gT := gT_of (tm1 40 rfl) rfl
theorem in_X6 : Cond.instantiable RX6 6 ∈ gT := gT_of (tm1 41 rfl) rfl
theorem m_X11_18 : Cond.methodLinkNest RX11 18 yX6_init "ClickBench" ∈ tables_1 := tm1 42 rfl
theorem m_X6_3 : Cond.methodLink RX6 3 objectInit ∈ gT := gT_of (tm1 45 rfl) rfl
theorem k_X6_28 : Cond.classLink RX6 28 RX10 ∈ gT := gT_of (tm1 46 rfl) rfl
theorem in_X10 : Cond.instantiable RX10 8 ∈ gT := gT_of (tm1 47 rfl) rfl
theorem m_X6_30 : Cond.methodLinkNest RX6 30 yX10_init "ClickBench" ∈ tables_1 := tm1 48 rfl
theorem m_X10_1 : Cond.methodLink RX10 1 objectInit ∈ gT := gT_of (tm1 51 rfl) rfl
theorem f_X10_32 : fl RX10 32 10 0 := ⟨_, rfl, by decide, gT_of (tm1 52 rfl) rfl⟩
theorem f_X10_7 : fl RX10 7 10 1 := ⟨_, rfl, by decide, gT_of (tm1 53 rfl) rfl⟩
theorem f_X10_13 : fl RX10 13 10 2 := ⟨_, rfl, by decide, gT_of (tm1 54 rfl) rfl⟩
theorem f_X6_46 : fn RX6 46 10 2 := ⟨_, _, rfl, by decide, tm1 55 rfl⟩
theorem f_X10_16 : fl RX10 16 10 3 := ⟨_, rfl, by decide, gT_of (tm1 56 rfl) rfl⟩
theorem f_X6_53 : fn RX6 53 10 3 := ⟨_, _, rfl, by decide, tm1 57 rfl⟩
theorem f_X10_19 : fl RX10 19 10 4 := ⟨_, rfl, by decide, gT_of (tm1 58 rfl) rfl⟩
theorem f_X6_87 : fn RX6 87 10 4 := ⟨_, _, rfl, by decide, tm1 59 rfl⟩
theorem f_X10_23 : fl RX10 23 10 5 := ⟨_, rfl, by decide, gT_of (tm1 60 rfl) rfl⟩
theorem f_X6_98 : fn RX6 98 10 5 := ⟨_, _, rfl, by decide, tm1 61 rfl⟩
theorem f_X10_26 : fl RX10 26 10 6 := ⟨_, rfl, by decide, gT_of (tm1 62 rfl) rfl⟩
theorem f_X6_102 : fn RX6 102 10 6 := ⟨_, _, rfl, by decide, tm1 63 rfl⟩
theorem f_X10_29 : fl RX10 29 10 7 := ⟨_, rfl, by decide, gT_of (tm1 64 rfl) rfl⟩
theorem f_X6_106 : fn RX6 106 10 7 := ⟨_, _, rfl, by decide, tm1 65 rfl⟩
theorem f_X6_33 : fl RX6 33 6 0 := ⟨_, rfl, by decide, gT_of (tm1 83 rfl) rfl⟩
theorem f_X6_11 : fl RX6 11 6 1 := ⟨_, rfl, by decide, gT_of (tm1 84 rfl) rfl⟩
theorem f_X11_95 : fn RX11 95 6 1 := ⟨_, _, rfl, by decide, tm1 85 rfl⟩
theorem f_X6_15 : fl RX6 15 6 2 := ⟨_, rfl, by decide, gT_of (tm1 86 rfl) rfl⟩
theorem f_X11_98 : fn RX11 98 6 2 := ⟨_, _, rfl, by decide, tm1 87 rfl⟩
theorem f_X6_18 : fl RX6 18 6 3 := ⟨_, rfl, by decide, gT_of (tm1 88 rfl) rfl⟩
theorem f_X6_21 : fl RX6 21 6 4 := ⟨_, rfl, by decide, gT_of (tm1 89 rfl) rfl⟩
theorem f_X6_25 : fl RX6 25 6 5 := ⟨_, rfl, by decide, gT_of (tm1 90 rfl) rfl⟩
theorem k_X11_25 : Cond.classLink RX11 25 RX4 ∈ gT := gT_of (tm1 104 rfl) rfl
theorem k_X11_31 : Cond.classLink RX11 31 RX2 ∈ gT := gT_of (tm1 106 rfl) rfl
theorem k_X11_41 : Cond.classLink RX11 41 RX1 ∈ gT := gT_of (tm1 108 rfl) rfl
theorem in_X1 : Cond.instantiable RX1 4 ∈ gT := gT_of (tm1 109 rfl) rfl
theorem m_X11_43 : Cond.methodLinkNest RX11 43 yX1_init "ClickBench" ∈ tables_1 := tm1 110 rfl
theorem m_X1_3 : Cond.methodLink RX1 3 objectInit ∈ gT := gT_of (tm1 113 rfl) rfl
theorem f_X1_9 : fl RX1 9 1 0 := ⟨_, rfl, by decide, gT_of (tm1 114 rfl) rfl⟩
theorem f_X11_181 : fn RX11 181 1 0 := ⟨_, _, rfl, by decide, tm1 115 rfl⟩
theorem f_X1_15 : fl RX1 15 1 1 := ⟨_, rfl, by decide, gT_of (tm1 116 rfl) rfl⟩
theorem f_X11_184 : fn RX11 184 1 1 := ⟨_, _, rfl, by decide, tm1 117 rfl⟩
theorem f_X1_18 : fl RX1 18 1 2 := ⟨_, rfl, by decide, gT_of (tm1 118 rfl) rfl⟩
theorem f_X11_187 : fn RX11 187 1 2 := ⟨_, _, rfl, by decide, tm1 119 rfl⟩
theorem f_X1_22 : fl RX1 22 1 3 := ⟨_, rfl, by decide, gT_of (tm1 120 rfl) rfl⟩
theorem f_X11_190 : fn RX11 190 1 3 := ⟨_, _, rfl, by decide, tm1 121 rfl⟩
theorem ac_int : Cond.arrayClass .int ∈ gT := gT_of (tm1 131 rfl) rfl
theorem k_X11_51 : Cond.classLink RX11 51 RX8 ∈ gT := gT_of (tm1 132 rfl) rfl
theorem in_X8 : Cond.instantiable RX8 4 ∈ gT := gT_of (tm1 133 rfl) rfl
theorem m_X11_53 : Cond.methodLinkNest RX11 53 yX8_init "ClickBench" ∈ tables_1 := tm1 134 rfl
theorem m_X8_3 : Cond.methodLink RX8 3 objectInit ∈ gT := gT_of (tm1 137 rfl) rfl
theorem k_X8_9 : Cond.classLink RX8 9 RX5 ∈ gT := gT_of (tm1 138 rfl) rfl
theorem f_X8_11 : fl RX8 11 8 0 := ⟨_, rfl, by decide, gT_of (tm1 140 rfl) rfl⟩
theorem f_X8_17 : fl RX8 17 8 1 := ⟨_, rfl, by decide, gT_of (tm1 141 rfl) rfl⟩
theorem f_X8_21 : fl RX8 21 8 2 := ⟨_, rfl, by decide, gT_of (tm1 142 rfl) rfl⟩
theorem f_X11_205 : fn RX11 205 8 2 := ⟨_, _, rfl, by decide, tm1 143 rfl⟩
theorem f_X8_25 : fl RX8 25 8 3 := ⟨_, rfl, by decide, gT_of (tm1 144 rfl) rfl⟩
theorem f_X11_213 : fn RX11 213 8 3 := ⟨_, _, rfl, by decide, tm1 145 rfl⟩
theorem ac_boolean : Cond.arrayClass .boolean ∈ gT := gT_of (tm1 155 rfl) rfl
theorem k_X11_58 : Cond.classLink RX11 58 RX0 ∈ gT := gT_of (tm1 156 rfl) rfl
theorem k_X11_64 : Cond.classLink RX11 64 RX7 ∈ gT := gT_of (tm1 158 rfl) rfl
theorem in_X7 : Cond.instantiable RX7 6 ∈ gT := gT_of (tm1 159 rfl) rfl
theorem m_X11_66 : Cond.methodLinkNest RX11 66 yX7_init "ClickBench" ∈ tables_1 := tm1 160 rfl
theorem m_X7_3 : Cond.methodLink RX7 3 objectInit ∈ gT := gT_of (tm1 163 rfl) rfl
theorem k_X7_9 : Cond.classLink RX7 9 RX5 ∈ gT := gT_of (tm1 164 rfl) rfl
theorem f_X7_11 : fl RX7 11 7 0 := ⟨_, rfl, by decide, gT_of (tm1 165 rfl) rfl⟩
theorem f_X7_17 : fl RX7 17 7 1 := ⟨_, rfl, by decide, gT_of (tm1 166 rfl) rfl⟩
theorem f_X11_252 : fn RX11 252 7 1 := ⟨_, _, rfl, by decide, tm1 167 rfl⟩
theorem f_X7_21 : fl RX7 21 7 2 := ⟨_, rfl, by decide, gT_of (tm1 168 rfl) rfl⟩
theorem f_X11_255 : fn RX11 255 7 2 := ⟨_, _, rfl, by decide, tm1 169 rfl⟩
theorem f_X7_24 : fl RX7 24 7 3 := ⟨_, rfl, by decide, gT_of (tm1 170 rfl) rfl⟩
theorem f_X11_258 : fn RX11 258 7 3 := ⟨_, _, rfl, by decide, tm1 171 rfl⟩
theorem f_X7_28 : fl RX7 28 7 4 := ⟨_, rfl, by decide, gT_of (tm1 172 rfl) rfl⟩
theorem f_X11_261 : fn RX11 261 7 4 := ⟨_, _, rfl, by decide, tm1 173 rfl⟩
theorem f_X7_31 : fl RX7 31 7 5 := ⟨_, rfl, by decide, gT_of (tm1 174 rfl) rfl⟩
theorem f_X11_262 : fn RX11 262 7 5 := ⟨_, _, rfl, by decide, tm1 175 rfl⟩
theorem f_X11_10 : fl RX11 10 11 0 := ⟨_, rfl, by decide, gT_of (tm1 189 rfl) rfl⟩
theorem f_X11_21 : fl RX11 21 11 1 := ⟨_, rfl, by decide, gT_of (tm1 190 rfl) rfl⟩
theorem f_X11_27 : fl RX11 27 11 2 := ⟨_, rfl, by decide, gT_of (tm1 191 rfl) rfl⟩
theorem f_X11_33 : fl RX11 33 11 3 := ⟨_, rfl, by decide, gT_of (tm1 192 rfl) rfl⟩
theorem f_X11_37 : fl RX11 37 11 4 := ⟨_, rfl, by decide, gT_of (tm1 193 rfl) rfl⟩
theorem f_X11_44 : fl RX11 44 11 5 := ⟨_, rfl, by decide, gT_of (tm1 194 rfl) rfl⟩
theorem f_X11_48 : fl RX11 48 11 6 := ⟨_, rfl, by decide, gT_of (tm1 195 rfl) rfl⟩
theorem f_X11_54 : fl RX11 54 11 7 := ⟨_, rfl, by decide, gT_of (tm1 196 rfl) rfl⟩
theorem f_X11_60 : fl RX11 60 11 8 := ⟨_, rfl, by decide, gT_of (tm1 197 rfl) rfl⟩
theorem f_X11_67 : fl RX11 67 11 9 := ⟨_, rfl, by decide, gT_of (tm1 198 rfl) rfl⟩
theorem f_X11_71 : fl RX11 71 11 10 := ⟨_, rfl, by decide, gT_of (tm1 199 rfl) rfl⟩
theorem f_X11_75 : fl RX11 75 11 11 := ⟨_, rfl, by decide, gT_of (tm1 200 rfl) rfl⟩
theorem f_X11_78 : fl RX11 78 11 12 := ⟨_, rfl, by decide, gT_of (tm1 201 rfl) rfl⟩
theorem m_L_13 : Cond.methodLink RL 13 yX11_feed ∈ gT := gT_of (tm1 229 rfl) rfl
theorem m_X11_84 : Cond.methodLinkNest RX11 84 yX9_append "ClickBench" ∈ tables_1 := tm1 233 rfl
theorem m_L_18 : Cond.methodLink RL 18 yX11_end ∈ gT := gT_of (tm1 237 rfl) rfl
theorem m_L_23 : Cond.methodLink RL 23 yX11_page ∈ gT := gT_of (tm2 1 rfl) rfl
theorem m_X11_88 : Cond.methodLinkNest RX11 88 yX6_readPage "ClickBench" ∈ tables_1 := tm2 5 rfl
theorem k_X6_37 : Cond.classLink RX6 37 RX4 ∈ gT := gT_of (tm2 9 rfl) rfl
theorem in_X4 : Cond.instantiable RX4 2 ∈ gT := gT_of (tm2 10 rfl) rfl
theorem m_X6_39 : Cond.methodLinkNest RX6 39 yX4_init "ClickBench" ∈ tables_1 := tm2 11 rfl
theorem m_X4_3 : Cond.methodLink RX4 3 objectInit ∈ gT := gT_of (tm2 14 rfl) rfl
theorem k_X4_9 : Cond.classLink RX4 9 RX5 ∈ gT := gT_of (tm2 15 rfl) rfl
theorem f_X4_11 : fl RX4 11 4 0 := ⟨_, rfl, by decide, gT_of (tm2 16 rfl) rfl⟩
theorem f_X4_17 : fl RX4 17 4 1 := ⟨_, rfl, by decide, gT_of (tm2 17 rfl) rfl⟩
theorem f_X5_55 : fn RX5 55 4 1 := ⟨_, _, rfl, by decide, tm2 18 rfl⟩
theorem f_X1_25 : fn RX1 25 4 1 := ⟨_, _, rfl, by decide, tm2 19 rfl⟩
theorem f_X3_53 : fn RX3 53 4 1 := ⟨_, _, rfl, by decide, tm2 20 rfl⟩
theorem f_X8_40 : fn RX8 40 4 1 := ⟨_, _, rfl, by decide, tm2 21 rfl⟩
theorem f_X11_92 : fn RX11 92 4 1 := ⟨_, _, rfl, by decide, tm2 22 rfl⟩
theorem f_X6_79 : fn RX6 79 4 1 := ⟨_, _, rfl, by decide, tm2 23 rfl⟩
theorem f_X2_55 : fn RX2 55 4 1 := ⟨_, _, rfl, by decide, tm2 24 rfl⟩
theorem m_X6_40 : Cond.methodLinkNest RX6 40 yX10_rewind "ClickBench" ∈ tables_1 := tm2 30 rfl
theorem m_X6_43 : Cond.methodLinkNest RX6 43 yX10_advance "ClickBench" ∈ tables_1 := tm2 34 rfl
theorem m_X10_41 : Cond.methodLinkNest RX10 41 yX9_byteAt "ClickBench" ∈ tables_1 := tm2 38 rfl
theorem m_X10_45 : Cond.methodLink RX10 45 yX10_isBlank ∈ gT := gT_of (tm2 42 rfl) rfl
theorem m_X10_49 : Cond.methodLink RX10 49 yX10_isLetter ∈ gT := gT_of (tm2 45 rfl) rfl
theorem m_X10_52 : Cond.methodLink RX10 52 yX10_takeWord ∈ gT := gT_of (tm2 48 rfl) rfl
theorem m_X10_55 : Cond.methodLink RX10 55 yX10_takeText ∈ gT := gT_of (tm2 52 rfl) rfl
theorem m_X10_61 : Cond.methodLink RX10 61 yX10_isTextByte ∈ gT := gT_of (tm2 56 rfl) rfl
theorem m_X10_64 : Cond.methodLink RX10 64 yX10_putTextByte ∈ gT := gT_of (tm2 59 rfl) rfl
theorem m_X10_58 : Cond.methodLink RX10 58 yX10_signToken ∈ gT := gT_of (tm2 63 rfl) rfl
theorem m_X6_49 : Cond.methodLink RX6 49 yX6_takeToken ∈ gT := gT_of (tm2 66 rfl) rfl
theorem m_X6_56 : Cond.methodLink RX6 56 yX6_takeName ∈ gT := gT_of (tm2 70 rfl) rfl
theorem m_X6_60 : Cond.methodLink RX6 60 yX6_takeKind ∈ gT := gT_of (tm2 74 rfl) rfl
theorem m_X6_91 : Cond.methodLinkNest RX6 91 yX4_add "ClickBench" ∈ tables_1 := tm2 78 rfl
theorem in_X5 : Cond.instantiable RX5 17 ∈ gT := gT_of (tm2 82 rfl) rfl
theorem m_X4_21 : Cond.methodLinkNest RX4 21 yX5_init "ClickBench" ∈ tables_1 := tm2 83 rfl
theorem m_X5_3 : Cond.methodLink RX5 3 objectInit ∈ gT := gT_of (tm2 86 rfl) rfl
theorem m_X5_63 : Cond.methodLinkNest RX5 63 yX4_at "ClickBench" ∈ tables_1 := tm2 87 rfl
theorem m_X5_67 : Cond.methodLink RX5 67 yX5_labelBehind ∈ gT := gT_of (tm2 91 rfl) rfl
theorem q_X5_84 : Cond.constantLong RX5 84 (12748844 : Int64) ∈ gT := gT_of (tm2 94 rfl) rfl
theorem m_X5_74 : Cond.methodLink RX5 74 yX5_turnBehind ∈ gT := gT_of (tm2 95 rfl) rfl
theorem f_X5_42 : fl RX5 42 5 0 := ⟨_, rfl, by decide, gT_of (tm2 98 rfl) rfl⟩
theorem f_X8_36 : fn RX8 36 5 0 := ⟨_, _, rfl, by decide, tm2 99 rfl⟩
theorem f_X11_158 : fn RX11 158 5 0 := ⟨_, _, rfl, by decide, tm2 100 rfl⟩
theorem f_X5_60 : fl RX5 60 5 1 := ⟨_, rfl, by decide, gT_of (tm2 101 rfl) rfl⟩
theorem f_X8_47 : fn RX8 47 5 1 := ⟨_, _, rfl, by decide, tm2 102 rfl⟩
theorem f_X2_48 : fn RX2 48 5 1 := ⟨_, _, rfl, by decide, tm2 103 rfl⟩
theorem f_X11_323 : fn RX11 323 5 1 := ⟨_, _, rfl, by decide, tm2 104 rfl⟩
theorem f_X5_46 : fl RX5 46 5 2 := ⟨_, rfl, by decide, gT_of (tm2 105 rfl) rfl⟩
theorem f_X1_34 : fn RX1 34 5 2 := ⟨_, _, rfl, by decide, tm2 106 rfl⟩
theorem f_X3_33 : fn RX3 33 5 2 := ⟨_, _, rfl, by decide, tm2 107 rfl⟩
theorem f_X11_143 : fn RX11 143 5 2 := ⟨_, _, rfl, by decide, tm2 108 rfl⟩
theorem f_X2_81 : fn RX2 81 5 2 := ⟨_, _, rfl, by decide, tm2 109 rfl⟩
theorem f_X5_49 : fl RX5 49 5 3 := ⟨_, rfl, by decide, gT_of (tm2 110 rfl) rfl⟩
theorem f_X3_37 : fn RX3 37 5 3 := ⟨_, _, rfl, by decide, tm2 111 rfl⟩
theorem f_X2_33 : fn RX2 33 5 3 := ⟨_, _, rfl, by decide, tm2 112 rfl⟩
theorem f_X4_31 : fn RX4 31 5 3 := ⟨_, _, rfl, by decide, tm2 113 rfl⟩
theorem f_X11_105 : fn RX11 105 5 3 := ⟨_, _, rfl, by decide, tm2 114 rfl⟩
theorem f_X6_114 : fn RX6 114 5 3 := ⟨_, _, rfl, by decide, tm2 115 rfl⟩
theorem f_X5_52 : fl RX5 52 5 4 := ⟨_, rfl, by decide, gT_of (tm2 116 rfl) rfl⟩
theorem f_X2_42 : fn RX2 42 5 4 := ⟨_, _, rfl, by decide, tm2 117 rfl⟩
theorem f_X11_115 : fn RX11 115 5 4 := ⟨_, _, rfl, by decide, tm2 118 rfl⟩
theorem f_X5_71 : fl RX5 71 5 5 := ⟨_, rfl, by decide, gT_of (tm2 119 rfl) rfl⟩
theorem f_X11_124 : fn RX11 124 5 5 := ⟨_, _, rfl, by decide, tm2 120 rfl⟩
theorem f_X5_78 : fl RX5 78 5 6 := ⟨_, rfl, by decide, gT_of (tm2 121 rfl) rfl⟩
theorem f_X3_30 : fn RX3 30 5 6 := ⟨_, _, rfl, by decide, tm2 122 rfl⟩
theorem f_X11_121 : fn RX11 121 5 6 := ⟨_, _, rfl, by decide, tm2 123 rfl⟩
theorem f_X5_81 : fl RX5 81 5 7 := ⟨_, rfl, by decide, gT_of (tm2 124 rfl) rfl⟩
theorem f_X3_25 : fn RX3 25 5 7 := ⟨_, _, rfl, by decide, tm2 125 rfl⟩
theorem f_X6_82 : fn RX6 82 5 7 := ⟨_, _, rfl, by decide, tm2 126 rfl⟩
theorem f_X11_127 : fn RX11 127 5 7 := ⟨_, _, rfl, by decide, tm2 127 rfl⟩
theorem f_X5_9 : fl RX5 9 5 8 := ⟨_, rfl, by decide, gT_of (tm2 128 rfl) rfl⟩
theorem f_X2_45 : fn RX2 45 5 8 := ⟨_, _, rfl, by decide, tm2 129 rfl⟩
theorem f_X4_24 : fn RX4 24 5 8 := ⟨_, _, rfl, by decide, tm2 130 rfl⟩
theorem f_X11_118 : fn RX11 118 5 8 := ⟨_, _, rfl, by decide, tm2 131 rfl⟩
theorem f_X5_15 : fl RX5 15 5 9 := ⟨_, rfl, by decide, gT_of (tm2 132 rfl) rfl⟩
theorem f_X4_28 : fn RX4 28 5 9 := ⟨_, _, rfl, by decide, tm2 133 rfl⟩
theorem f_X2_52 : fn RX2 52 5 9 := ⟨_, _, rfl, by decide, tm2 134 rfl⟩
theorem f_X11_140 : fn RX11 140 5 9 := ⟨_, _, rfl, by decide, tm2 135 rfl⟩
theorem f_X5_19 : fl RX5 19 5 10 := ⟨_, rfl, by decide, gT_of (tm2 136 rfl) rfl⟩
theorem f_X6_95 : fn RX6 95 5 10 := ⟨_, _, rfl, by decide, tm2 137 rfl⟩
theorem f_X11_151 : fn RX11 151 5 10 := ⟨_, _, rfl, by decide, tm2 138 rfl⟩
theorem f_X2_85 : fn RX2 85 5 10 := ⟨_, _, rfl, by decide, tm2 139 rfl⟩
theorem f_X5_23 : fl RX5 23 5 11 := ⟨_, rfl, by decide, gT_of (tm2 140 rfl) rfl⟩
theorem f_X6_101 : fn RX6 101 5 11 := ⟨_, _, rfl, by decide, tm2 141 rfl⟩
theorem f_X5_26 : fl RX5 26 5 12 := ⟨_, rfl, by decide, gT_of (tm2 142 rfl) rfl⟩
theorem f_X6_105 : fn RX6 105 5 12 := ⟨_, _, rfl, by decide, tm2 143 rfl⟩
theorem f_X5_29 : fl RX5 29 5 13 := ⟨_, rfl, by decide, gT_of (tm2 144 rfl) rfl⟩
theorem f_X11_134 : fn RX11 134 5 13 := ⟨_, _, rfl, by decide, tm2 145 rfl⟩
theorem f_X6_109 : fn RX6 109 5 13 := ⟨_, _, rfl, by decide, tm2 146 rfl⟩
theorem f_X5_32 : fl RX5 32 5 14 := ⟨_, rfl, by decide, gT_of (tm2 147 rfl) rfl⟩
theorem f_X11_130 : fn RX11 130 5 14 := ⟨_, _, rfl, by decide, tm2 148 rfl⟩
theorem f_X6_110 : fn RX6 110 5 14 := ⟨_, _, rfl, by decide, tm2 149 rfl⟩
theorem f_X5_36 : fl RX5 36 5 15 := ⟨_, rfl, by decide, gT_of (tm2 150 rfl) rfl⟩
theorem f_X7_49 : fn RX7 49 5 15 := ⟨_, _, rfl, by decide, tm2 151 rfl⟩
theorem f_X11_137 : fn RX11 137 5 15 := ⟨_, _, rfl, by decide, tm2 152 rfl⟩
theorem f_X5_39 : fl RX5 39 5 16 := ⟨_, rfl, by decide, gT_of (tm2 153 rfl) rfl⟩
theorem f_X7_46 : fn RX7 46 5 16 := ⟨_, _, rfl, by decide, tm2 154 rfl⟩
theorem m_X6_63 : Cond.methodLink RX6 63 yX6_move ∈ gT := gT_of (tm2 190 rfl) rfl
theorem m_X6_67 : Cond.methodLink RX6 67 yX6_takeText ∈ gT := gT_of (tm2 194 rfl) rfl
theorem m_X6_70 : Cond.methodLink RX6 70 yX6_takeHarm ∈ gT := gT_of (tm2 198 rfl) rfl
theorem m_X6_73 : Cond.methodLink RX6 73 yX6_goDown ∈ gT := gT_of (tm2 202 rfl) rfl
theorem m_X6_76 : Cond.methodLink RX6 76 yX6_goUp ∈ gT := gT_of (tm2 206 rfl) rfl
theorem m_L_27 : Cond.methodLink RL 27 yX11_fault ∈ gT := gT_of (tm2 210 rfl) rfl
theorem m_L_31 : Cond.methodLink RL 31 yX11_part ∈ gT := gT_of (tm2 214 rfl) rfl
theorem m_X11_101 : Cond.methodLink RX11 101 yX11_partOn ∈ gT := gT_of (tm2 218 rfl) rfl
theorem m_X11_173 : Cond.methodLink RX11 173 yX11_pageOn ∈ gT := gT_of (tm2 222 rfl) rfl
theorem m_X11_269 : Cond.methodLinkNest RX11 269 yX4_at "ClickBench" ∈ tables_1 := tm2 226 rfl
theorem m_X11_111 : Cond.methodLink RX11 111 yX11_numberOf ∈ gT := gT_of (tm2 227 rfl) rfl
theorem m_L_36 : Cond.methodLink RL 36 yX11_text ∈ gT := gT_of (tm2 230 rfl) rfl
theorem m_X11_147 : Cond.methodLink RX11 147 yX11_letterOf ∈ gT := gT_of (tm2 234 rfl) rfl
theorem m_X11_154 : Cond.methodLinkNest RX11 154 yX5_textByte "ClickBench" ∈ tables_1 := tm2 237 rfl
theorem m_L_41 : Cond.methodLink RL 41 yX11_far ∈ gT := gT_of (tm3 1 rfl) rfl
theorem m_X11_162 : Cond.methodLink RX11 162 yX11_likenessFor ∈ gT := gT_of (tm3 5 rfl) rfl
theorem m_X11_282 : Cond.methodLink RX11 282 yX11_oldestTable ∈ gT := gT_of (tm3 9 rfl) rfl
theorem in_X2 : Cond.instantiable RX2 5 ∈ gT := gT_of (tm3 13 rfl) rfl
theorem m_X11_292 : Cond.methodLinkNest RX11 292 yX2_init "ClickBench" ∈ tables_1 := tm3 14 rfl
theorem m_X2_3 : Cond.methodLink RX2 3 objectInit ∈ gT := gT_of (tm3 17 rfl) rfl
theorem f_X2_26 : fl RX2 26 2 0 := ⟨_, rfl, by decide, gT_of (tm3 18 rfl) rfl⟩
theorem f_X2_9 : fl RX2 9 2 1 := ⟨_, rfl, by decide, gT_of (tm3 19 rfl) rfl⟩
theorem f_X2_15 : fl RX2 15 2 2 := ⟨_, rfl, by decide, gT_of (tm3 20 rfl) rfl⟩
theorem f_X2_19 : fl RX2 19 2 3 := ⟨_, rfl, by decide, gT_of (tm3 21 rfl) rfl⟩
theorem f_X11_276 : fn RX11 276 2 3 := ⟨_, _, rfl, by decide, tm3 22 rfl⟩
theorem f_X2_23 : fl RX2 23 2 4 := ⟨_, rfl, by decide, gT_of (tm3 23 rfl) rfl⟩
theorem f_X11_279 : fn RX11 279 2 4 := ⟨_, _, rfl, by decide, tm3 24 rfl⟩
theorem m_X11_286 : Cond.methodLinkNest RX11 286 yX2_begin "ClickBench" ∈ tables_1 := tm3 36 rfl
theorem m_X11_289 : Cond.methodLinkNest RX11 289 yX2_measure "ClickBench" ∈ tables_1 := tm3 40 rfl
theorem m_X2_60 : Cond.methodLinkNest RX2 60 yX4_at "ClickBench" ∈ tables_1 := tm3 44 rfl
theorem m_X2_64 : Cond.methodLink RX2 64 yX2_measureKey ∈ gT := gT_of (tm3 45 rfl) rfl
theorem m_X2_68 : Cond.methodLink RX2 68 yX2_measureForests ∈ gT := gT_of (tm3 49 rfl) rfl
theorem m_X2_72 : Cond.methodLink RX2 72 yJ9_min_7cf53 ∈ gT := gT_of (tm3 53 rfl) rfl
theorem m_X2_78 : Cond.methodLink RX2 78 yX2_change ∈ gT := gT_of (tm3 56 rfl) rfl
theorem m_X2_88 : Cond.methodLinkNest RX2 88 yX5_hasTextOf "ClickBench" ∈ tables_1 := tm3 59 rfl
theorem m_X11_166 : Cond.methodLinkNest RX11 166 yX2_farOf "ClickBench" ∈ tables_1 := tm3 63 rfl
theorem m_L_45 : Cond.methodLink RL 45 yX11_cost ∈ gT := gT_of (tm3 67 rfl) rfl
theorem m_X11_170 : Cond.methodLinkNest RX11 170 yX2_costOf "ClickBench" ∈ tables_1 := tm3 71 rfl
theorem m_X2_29 : Cond.methodLink RX2 29 yX2_farOf ∈ gT := gT_of (tm3 75 rfl) rfl
theorem m_X2_39 : Cond.methodLink RX2 39 yX2_changeAlone ∈ gT := gT_of (tm3 76 rfl) rfl
theorem m_L_49 : Cond.methodLink RL 49 yX11_gap ∈ gT := gT_of (tm3 79 rfl) rfl
theorem m_L_54 : Cond.methodLink RL 54 yX11_find ∈ gT := gT_of (tm3 83 rfl) rfl
theorem m_X11_177 : Cond.methodLinkNest RX11 177 yX1_look "ClickBench" ∈ tables_1 := tm3 87 rfl
theorem m_X1_30 : Cond.methodLinkNest RX1 30 yX4_at "ClickBench" ∈ tables_1 := tm3 91 rfl
theorem m_X1_40 : Cond.methodLinkNest RX1 40 yX2_costOf "ClickBench" ∈ tables_1 := tm3 92 rfl
theorem m_L_58 : Cond.methodLink RL 58 yX11_found ∈ gT := gT_of (tm3 93 rfl) rfl
theorem m_L_62 : Cond.methodLink RL 62 yX11_fits ∈ gT := gT_of (tm3 97 rfl) rfl
theorem m_X11_193 : Cond.methodLink RX11 193 yX11_areMarks ∈ gT := gT_of (tm3 101 rfl) rfl
theorem m_X11_197 : Cond.methodLinkNest RX11 197 yX4_countFitting "ClickBench" ∈ tables_1 := tm3 104 rfl
theorem m_X4_34 : Cond.methodLink RX4 34 yX4_at ∈ gT := gT_of (tm3 108 rfl) rfl
theorem m_X4_38 : Cond.methodLinkNest RX4 38 yX5_fitsMarksOf "ClickBench" ∈ tables_1 := tm3 109 rfl
theorem m_X5_107 : Cond.methodLink RX5 107 yX5_marksSharedWith ∈ gT := gT_of (tm3 113 rfl) rfl
theorem m_X5_88 : Cond.methodLink RX5 88 yX5_hasTextOf ∈ gT := gT_of (tm3 117 rfl) rfl
theorem m_X5_92 : Cond.methodLink RX5 92 yX5_kindOf ∈ gT := gT_of (tm3 118 rfl) rfl
theorem m_X5_96 : Cond.methodLink RX5 96 yX5_nameOf ∈ gT := gT_of (tm3 121 rfl) rfl
theorem m_X5_99 : Cond.methodLink RX5 99 yX5_sameLabel ∈ gT := gT_of (tm3 124 rfl) rfl
theorem m_X5_103 : Cond.methodLink RX5 103 yX5_hasPathOf ∈ gT := gT_of (tm3 127 rfl) rfl
theorem m_L_66 : Cond.methodLink RL 66 yX11_fit ∈ gT := gT_of (tm3 131 rfl) rfl
theorem m_X11_201 : Cond.methodLinkNest RX11 201 yX4_fitting "ClickBench" ∈ tables_1 := tm3 135 rfl
theorem m_L_70 : Cond.methodLink RL 70 yX11_sample ∈ gT := gT_of (tm3 139 rfl) rfl
theorem m_X11_206 : Cond.methodLinkNest RX11 206 yX8_add "ClickBench" ∈ tables_1 := tm3 143 rfl
theorem m_X8_28 : Cond.methodLink RX8 28 yX8_first ∈ gT := gT_of (tm3 147 rfl) rfl
theorem m_X8_32 : Cond.methodLinkNest RX8 32 yX5_marksSharedWith "ClickBench" ∈ tables_1 := tm3 151 rfl
theorem m_X8_43 : Cond.methodLinkNest RX8 43 yX4_at "ClickBench" ∈ tables_1 := tm3 152 rfl
theorem m_X8_50 : Cond.methodLink RX8 50 yX8_noteShared ∈ gT := gT_of (tm3 153 rfl) rfl
theorem m_L_75 : Cond.methodLink RL 75 yX11_forget ∈ gT := gT_of (tm3 157 rfl) rfl
theorem m_X11_210 : Cond.methodLinkNest RX11 210 yX8_dropAll "ClickBench" ∈ tables_1 := tm3 161 rfl
theorem m_L_80 : Cond.methodLink RL 80 yX11_stays ∈ gT := gT_of (tm3 165 rfl) rfl
theorem m_L_84 : Cond.methodLink RL 84 yX11_learnt ∈ gT := gT_of (tm3 169 rfl) rfl
theorem m_X11_216 : Cond.methodLinkNest RX11 216 yX8_leastMarks "ClickBench" ∈ tables_1 := tm3 173 rfl
theorem m_X8_54 : Cond.methodLink RX8 54 yJ6_bitCount_0f7a4 ∈ gT := gT_of (tm3 177 rfl) rfl
theorem q_java_lang_Integer_265 : Cond.constant "java/lang/Integer" 265 (1431655765 : Int32) ∈ gT := gT_of (tm3 180 rfl) rfl
theorem q_java_lang_Integer_266 : Cond.constant "java/lang/Integer" 266 (858993459 : Int32) ∈ gT := gT_of (tm3 181 rfl) rfl
theorem q_java_lang_Integer_267 : Cond.constant "java/lang/Integer" 267 (252645135 : Int32) ∈ gT := gT_of (tm3 182 rfl) rfl
theorem m_L_88 : Cond.methodLink RL 88 yX11_seen ∈ gT := gT_of (tm3 183 rfl) rfl
theorem m_X11_220 : Cond.methodLinkNest RX11 220 yX8_first "ClickBench" ∈ tables_1 := tm3 187 rfl
theorem m_L_92 : Cond.methodLink RL 92 yX11_rows ∈ gT := gT_of (tm3 188 rfl) rfl
theorem m_X11_224 : Cond.methodLink RX11 224 yX11_loopOn ∈ gT := gT_of (tm3 192 rfl) rfl
theorem m_X11_272 : Cond.methodLinkNest RX11 272 yX3_of "ClickBench" ∈ tables_1 := tm3 196 rfl
theorem m_X3_40 : Cond.methodLink RX3 40 yJ9_min_7cf53 ∈ gT := gT_of (tm3 199 rfl) rfl
theorem k_X3_10 : Cond.classLink RX3 10 RX3 ∈ gT := gT_of (tm3 200 rfl) rfl
theorem in_X3 : Cond.instantiable RX3 4 ∈ gT := gT_of (tm3 201 rfl) rfl
theorem m_X3_46 : Cond.methodLink RX3 46 yJ9_abs_0f7a4 ∈ gT := gT_of (tm3 202 rfl) rfl
theorem m_X3_50 : Cond.methodLink RX3 50 yX3_init ∈ gT := gT_of (tm3 205 rfl) rfl
theorem m_X3_3 : Cond.methodLink RX3 3 objectInit ∈ gT := gT_of (tm3 208 rfl) rfl
theorem f_X3_9 : fl RX3 9 3 0 := ⟨_, rfl, by decide, gT_of (tm3 209 rfl) rfl⟩
theorem f_X11_242 : fn RX11 242 3 0 := ⟨_, _, rfl, by decide, tm3 210 rfl⟩
theorem f_X3_15 : fl RX3 15 3 1 := ⟨_, rfl, by decide, gT_of (tm3 211 rfl) rfl⟩
theorem f_X3_19 : fl RX3 19 3 2 := ⟨_, rfl, by decide, gT_of (tm3 212 rfl) rfl⟩
theorem f_X3_22 : fl RX3 22 3 3 := ⟨_, rfl, by decide, gT_of (tm3 213 rfl) rfl⟩
theorem m_X11_228 : Cond.methodLinkNest RX11 228 yX3_countRows "ClickBench" ∈ tables_1 := tm3 223 rfl
theorem m_X3_66 : Cond.methodLink RX3 66 yX3_stepOn ∈ gT := gT_of (tm3 227 rfl) rfl
theorem m_X3_58 : Cond.methodLinkNest RX3 58 yX4_at "ClickBench" ∈ tables_1 := tm3 231 rfl
theorem m_X3_62 : Cond.methodLinkNest RX3 62 yX5_hasPathOf "ClickBench" ∈ tables_1 := tm3 232 rfl
theorem m_L_96 : Cond.methodLink RL 96 yX11_row ∈ gT := gT_of (tm3 233 rfl) rfl
theorem m_X11_234 : Cond.methodLinkNest RX11 234 yX3_rowOn "ClickBench" ∈ tables_1 := tm3 237 rfl
theorem m_L_100 : Cond.methodLink RL 100 yX11_act ∈ gT := gT_of (tm4 1 rfl) rfl
theorem m_X11_238 : Cond.methodLink RX11 238 yX11_tell ∈ gT := gT_of (tm4 5 rfl) rfl
theorem in_X0 : Cond.instantiable RX0 3 ∈ gT := gT_of (tm4 9 rfl) rfl
theorem m_X11_295 : Cond.methodLinkNest RX11 295 yX0_init "ClickBench" ∈ tables_1 := tm4 10 rfl
theorem m_X0_1 : Cond.methodLink RX0 1 objectInit ∈ gT := gT_of (tm4 13 rfl) rfl
theorem f_X0_7 : fl RX0 7 0 0 := ⟨_, rfl, by decide, gT_of (tm4 14 rfl) rfl⟩
theorem f_X11_302 : fn RX11 302 0 0 := ⟨_, _, rfl, by decide, tm4 15 rfl⟩
theorem f_X0_13 : fl RX0 13 0 1 := ⟨_, rfl, by decide, gT_of (tm4 16 rfl) rfl⟩
theorem f_X11_309 : fn RX11 309 0 1 := ⟨_, _, rfl, by decide, tm4 17 rfl⟩
theorem f_X0_17 : fl RX0 17 0 2 := ⟨_, rfl, by decide, gT_of (tm4 18 rfl) rfl⟩
theorem f_X11_298 : fn RX11 298 0 2 := ⟨_, _, rfl, by decide, tm4 19 rfl⟩
theorem m_L_105 : Cond.methodLink RL 105 yX11_loop ∈ gT := gT_of (tm4 27 rfl) rfl
theorem m_L_110 : Cond.methodLink RL 110 yX11_clear ∈ gT := gT_of (tm4 31 rfl) rfl
theorem m_L_114 : Cond.methodLink RL 114 yX11_run ∈ gT := gT_of (tm4 35 rfl) rfl
theorem m_X11_245 : Cond.methodLinkNest RX11 245 yX7_begin "ClickBench" ∈ tables_1 := tm4 39 rfl
theorem m_X11_248 : Cond.methodLink RX11 248 yX11_perform ∈ gT := gT_of (tm4 43 rfl) rfl
theorem m_X11_305 : Cond.methodLink RX11 305 yX11_performRows ∈ gT := gT_of (tm4 47 rfl) rfl
theorem m_X11_320 : Cond.methodLinkNest RX11 320 yX3_stepOn "ClickBench" ∈ tables_1 := tm4 51 rfl
theorem m_X11_316 : Cond.methodLinkNest RX11 316 yX7_take "ClickBench" ∈ tables_1 := tm4 52 rfl
theorem m_X7_34 : Cond.methodLink RX7 34 yX7_keep ∈ gT := gT_of (tm4 56 rfl) rfl
theorem m_X7_38 : Cond.methodLinkNest RX7 38 yX5_isHarmful "ClickBench" ∈ tables_1 := tm4 60 rfl
theorem m_X7_42 : Cond.methodLink RX7 42 yX7_stop ∈ gT := gT_of (tm4 64 rfl) rfl
theorem m_X11_312 : Cond.methodLinkNest RX11 312 yX7_stop "ClickBench" ∈ tables_1 := tm4 68 rfl
theorem m_L_118 : Cond.methodLink RL 118 yX11_ran ∈ gT := gT_of (tm4 69 rfl) rfl
theorem m_L_122 : Cond.methodLink RL 122 yX11_read ∈ gT := gT_of (tm4 73 rfl) rfl
theorem m_X11_265 : Cond.methodLinkNest RX11 265 yX7_keptAt "ClickBench" ∈ tables_1 := tm4 77 rfl
theorem m_L_126 : Cond.methodLink RL 126 yX11_about ∈ gT := gT_of (tm4 81 rfl) rfl
theorem k_L_10 : Cond.classLink RL 10 RX12 ∈ gT := gT_of (tm4 85 rfl) rfl
theorem in_X12 : Cond.instantiable RX12 57 ∈ gT := gT_of (tm4 86 rfl) rfl
theorem m_L_12 : Cond.methodLink RL 12 yX12_init ∈ gT := gT_of (tm4 87 rfl) rfl
theorem m_X12_1 : Cond.methodLink RX12 1 objectInit ∈ gT := gT_of (tm4 90 rfl) rfl
theorem f_X12_7 : fl RX12 7 12 0 := ⟨_, rfl, by decide, gT_of (tm4 91 rfl) rfl⟩
theorem f_X12_13 : fl RX12 13 12 1 := ⟨_, rfl, by decide, gT_of (tm4 92 rfl) rfl⟩
theorem f_X12_171 : fl RX12 171 12 2 := ⟨_, rfl, by decide, gT_of (tm4 93 rfl) rfl⟩
theorem f_X12_110 : fl RX12 110 12 3 := ⟨_, rfl, by decide, gT_of (tm4 94 rfl) rfl⟩
theorem f_X12_113 : fl RX12 113 12 4 := ⟨_, rfl, by decide, gT_of (tm4 95 rfl) rfl⟩
theorem f_X12_16 : fl RX12 16 12 5 := ⟨_, rfl, by decide, gT_of (tm4 96 rfl) rfl⟩
theorem f_X12_119 : fl RX12 119 12 6 := ⟨_, rfl, by decide, gT_of (tm4 97 rfl) rfl⟩
theorem f_X12_116 : fl RX12 116 12 7 := ⟨_, rfl, by decide, gT_of (tm4 98 rfl) rfl⟩
theorem f_X12_126 : fl RX12 126 12 8 := ⟨_, rfl, by decide, gT_of (tm4 99 rfl) rfl⟩
theorem f_X12_133 : fl RX12 133 12 9 := ⟨_, rfl, by decide, gT_of (tm4 100 rfl) rfl⟩
theorem f_X12_20 : fl RX12 20 12 10 := ⟨_, rfl, by decide, gT_of (tm4 101 rfl) rfl⟩
theorem f_X12_24 : fl RX12 24 12 11 := ⟨_, rfl, by decide, gT_of (tm4 102 rfl) rfl⟩
theorem f_X12_27 : fl RX12 27 12 12 := ⟨_, rfl, by decide, gT_of (tm4 103 rfl) rfl⟩
theorem f_X12_30 : fl RX12 30 12 13 := ⟨_, rfl, by decide, gT_of (tm4 104 rfl) rfl⟩
theorem f_X12_33 : fl RX12 33 12 14 := ⟨_, rfl, by decide, gT_of (tm4 105 rfl) rfl⟩
theorem f_X12_36 : fl RX12 36 12 15 := ⟨_, rfl, by decide, gT_of (tm4 106 rfl) rfl⟩
theorem f_X12_39 : fl RX12 39 12 16 := ⟨_, rfl, by decide, gT_of (tm4 107 rfl) rfl⟩
theorem f_X12_42 : fl RX12 42 12 17 := ⟨_, rfl, by decide, gT_of (tm4 108 rfl) rfl⟩
theorem f_X12_46 : fl RX12 46 12 18 := ⟨_, rfl, by decide, gT_of (tm4 109 rfl) rfl⟩
theorem f_X12_49 : fl RX12 49 12 19 := ⟨_, rfl, by decide, gT_of (tm4 110 rfl) rfl⟩
theorem f_X12_53 : fl RX12 53 12 20 := ⟨_, rfl, by decide, gT_of (tm4 111 rfl) rfl⟩
theorem f_X12_56 : fl RX12 56 12 21 := ⟨_, rfl, by decide, gT_of (tm4 112 rfl) rfl⟩
theorem f_X12_141 : fl RX12 141 12 22 := ⟨_, rfl, by decide, gT_of (tm4 113 rfl) rfl⟩
theorem f_X12_59 : fl RX12 59 12 23 := ⟨_, rfl, by decide, gT_of (tm4 114 rfl) rfl⟩
theorem f_X12_62 : fl RX12 62 12 24 := ⟨_, rfl, by decide, gT_of (tm4 115 rfl) rfl⟩
theorem f_X12_65 : fl RX12 65 12 25 := ⟨_, rfl, by decide, gT_of (tm4 116 rfl) rfl⟩
theorem f_X12_223 : fl RX12 223 12 26 := ⟨_, rfl, by decide, gT_of (tm4 117 rfl) rfl⟩
theorem f_X12_226 : fl RX12 226 12 27 := ⟨_, rfl, by decide, gT_of (tm4 118 rfl) rfl⟩
theorem f_X12_229 : fl RX12 229 12 28 := ⟨_, rfl, by decide, gT_of (tm4 119 rfl) rfl⟩
theorem f_X12_232 : fl RX12 232 12 29 := ⟨_, rfl, by decide, gT_of (tm4 120 rfl) rfl⟩
theorem f_X12_242 : fl RX12 242 12 30 := ⟨_, rfl, by decide, gT_of (tm4 121 rfl) rfl⟩
theorem f_X12_246 : fl RX12 246 12 31 := ⟨_, rfl, by decide, gT_of (tm4 122 rfl) rfl⟩
theorem f_X12_249 : fl RX12 249 12 32 := ⟨_, rfl, by decide, gT_of (tm4 123 rfl) rfl⟩
theorem f_X12_252 : fl RX12 252 12 33 := ⟨_, rfl, by decide, gT_of (tm4 124 rfl) rfl⟩
theorem f_X12_255 : fl RX12 255 12 34 := ⟨_, rfl, by decide, gT_of (tm4 125 rfl) rfl⟩
theorem f_X12_68 : fl RX12 68 12 35 := ⟨_, rfl, by decide, gT_of (tm4 126 rfl) rfl⟩
theorem f_X12_275 : fl RX12 275 12 36 := ⟨_, rfl, by decide, gT_of (tm4 127 rfl) rfl⟩
theorem f_X12_71 : fl RX12 71 12 37 := ⟨_, rfl, by decide, gT_of (tm4 128 rfl) rfl⟩
theorem f_X12_278 : fl RX12 278 12 38 := ⟨_, rfl, by decide, gT_of (tm4 129 rfl) rfl⟩
theorem f_X12_74 : fl RX12 74 12 39 := ⟨_, rfl, by decide, gT_of (tm4 130 rfl) rfl⟩
theorem f_X12_77 : fl RX12 77 12 40 := ⟨_, rfl, by decide, gT_of (tm4 131 rfl) rfl⟩
theorem f_X12_80 : fl RX12 80 12 41 := ⟨_, rfl, by decide, gT_of (tm4 132 rfl) rfl⟩
theorem f_X12_83 : fl RX12 83 12 42 := ⟨_, rfl, by decide, gT_of (tm4 133 rfl) rfl⟩
theorem f_X12_86 : fl RX12 86 12 43 := ⟨_, rfl, by decide, gT_of (tm4 134 rfl) rfl⟩
theorem f_X12_89 : fl RX12 89 12 44 := ⟨_, rfl, by decide, gT_of (tm4 135 rfl) rfl⟩
theorem f_X12_92 : fl RX12 92 12 45 := ⟨_, rfl, by decide, gT_of (tm4 136 rfl) rfl⟩
theorem f_X12_95 : fl RX12 95 12 46 := ⟨_, rfl, by decide, gT_of (tm4 137 rfl) rfl⟩
theorem f_X12_98 : fl RX12 98 12 47 := ⟨_, rfl, by decide, gT_of (tm4 138 rfl) rfl⟩
theorem f_X12_101 : fl RX12 101 12 48 := ⟨_, rfl, by decide, gT_of (tm4 139 rfl) rfl⟩
theorem f_X12_104 : fl RX12 104 12 49 := ⟨_, rfl, by decide, gT_of (tm4 140 rfl) rfl⟩
theorem f_X12_107 : fl RX12 107 12 50 := ⟨_, rfl, by decide, gT_of (tm4 141 rfl) rfl⟩
theorem f_X12_313 : fl RX12 313 12 51 := ⟨_, rfl, by decide, gT_of (tm4 142 rfl) rfl⟩
theorem f_X12_322 : fl RX12 322 12 52 := ⟨_, rfl, by decide, gT_of (tm4 143 rfl) rfl⟩
theorem f_X12_325 : fl RX12 325 12 53 := ⟨_, rfl, by decide, gT_of (tm4 144 rfl) rfl⟩
theorem f_X12_328 : fl RX12 328 12 54 := ⟨_, rfl, by decide, gT_of (tm4 145 rfl) rfl⟩
theorem f_X12_316 : fl RX12 316 12 55 := ⟨_, rfl, by decide, gT_of (tm4 146 rfl) rfl⟩
theorem f_X12_334 : fl RX12 334 12 56 := ⟨_, rfl, by decide, gT_of (tm4 147 rfl) rfl⟩
theorem ac_long : Cond.arrayClass .long ∈ gT := gT_of (tm5 23 rfl) rfl
theorem m_L_26 : Cond.methodLink RL 26 yX12_page ∈ gT := gT_of (tm5 24 rfl) rfl
theorem m_X12_168 : Cond.methodLink RX12 168 yX12_isShelf ∈ gT := gT_of (tm5 28 rfl) rfl
theorem m_X12_174 : Cond.methodLink RX12 174 yX12_readPage ∈ gT := gT_of (tm5 31 rfl) rfl
theorem m_X12_155 : Cond.methodLink RX12 155 yX12_next ∈ gT := gT_of (tm5 35 rfl) rfl
theorem m_X12_122 : Cond.methodLink RX12 122 yX12_sign ∈ gT := gT_of (tm5 39 rfl) rfl
theorem m_X12_129 : Cond.methodLink RX12 129 yX12_isLetter ∈ gT := gT_of (tm5 43 rfl) rfl
theorem m_X12_161 : Cond.methodLink RX12 161 yX12_readPart ∈ gT := gT_of (tm5 46 rfl) rfl
theorem m_X12_144 : Cond.methodLink RX12 144 yX12_wrong ∈ gT := gT_of (tm5 50 rfl) rfl
theorem m_X12_137 : Cond.methodLink RX12 137 yX12_fails ∈ gT := gT_of (tm5 54 rfl) rfl
theorem m_X12_147 : Cond.methodLink RX12 147 yX12_isGood ∈ gT := gT_of (tm5 58 rfl) rfl
theorem m_X12_151 : Cond.methodLink RX12 151 yX12_spot ∈ gT := gT_of (tm5 62 rfl) rfl
theorem m_X12_158 : Cond.methodLink RX12 158 yX12_is ∈ gT := gT_of (tm5 65 rfl) rfl
theorem m_X12_177 : Cond.methodLink RX12 177 yX12_measure ∈ gT := gT_of (tm5 69 rfl) rfl
theorem m_X12_164 : Cond.methodLink RX12 164 yX12_isUnder ∈ gT := gT_of (tm5 73 rfl) rfl
theorem m_X12_180 : Cond.methodLink RX12 180 yX12_copyPage ∈ gT := gT_of (tm5 77 rfl) rfl
theorem m_L_30 : Cond.methodLink RL 30 yX12_fault ∈ gT := gT_of (tm5 81 rfl) rfl
theorem m_L_35 : Cond.methodLink RL 35 yX12_part ∈ gT := gT_of (tm5 85 rfl) rfl
theorem m_X12_185 : Cond.methodLink RX12 185 yX12_isPart ∈ gT := gT_of (tm5 89 rfl) rfl
theorem m_X12_189 : Cond.methodLink RX12 189 yX12_left ∈ gT := gT_of (tm5 93 rfl) rfl
theorem m_X12_192 : Cond.methodLink RX12 192 yX12_right ∈ gT := gT_of (tm5 97 rfl) rfl
theorem m_X12_195 : Cond.methodLink RX12 195 yX12_label ∈ gT := gT_of (tm5 101 rfl) rfl
theorem q_X12_183 : Cond.constantLong RX12 183 (465490306412 : Int64) ∈ gT := gT_of (tm5 105 rfl) rfl
theorem m_L_40 : Cond.methodLink RL 40 yX12_text ∈ gT := gT_of (tm5 106 rfl) rfl
theorem m_X12_198 : Cond.methodLink RX12 198 yX12_sizeOf ∈ gT := gT_of (tm5 110 rfl) rfl
theorem q_X12_202 : Cond.constantLong RX12 202 (255 : Int64) ∈ gT := gT_of (tm5 113 rfl) rfl
theorem m_L_44 : Cond.methodLink RL 44 yX12_far ∈ gT := gT_of (tm5 114 rfl) rfl
theorem m_X12_214 : Cond.methodLink RX12 214 yX12_measureAll ∈ gT := gT_of (tm5 118 rfl) rfl
theorem m_X12_207 : Cond.methodLink RX12 207 yX12_measureOne ∈ gT := gT_of (tm5 122 rfl) rfl
theorem m_X12_211 : Cond.methodLink RX12 211 yX12_change ∈ gT := gT_of (tm5 126 rfl) rfl
theorem m_X12_204 : Cond.methodLink RX12 204 yX12_areSameWords ∈ gT := gT_of (tm5 130 rfl) rfl
theorem m_L_48 : Cond.methodLink RL 48 yX12_cost ∈ gT := gT_of (tm5 134 rfl) rfl
theorem m_X12_220 : Cond.methodLink RX12 220 yX12_costOf ∈ gT := gT_of (tm5 138 rfl) rfl
theorem m_X12_217 : Cond.methodLink RX12 217 yX12_beside ∈ gT := gT_of (tm5 142 rfl) rfl
theorem m_L_53 : Cond.methodLink RL 53 yX12_gap ∈ gT := gT_of (tm5 146 rfl) rfl
theorem m_L_57 : Cond.methodLink RL 57 yX12_find ∈ gT := gT_of (tm5 150 rfl) rfl
theorem m_X12_235 : Cond.methodLink RX12 235 yX12_hasPage ∈ gT := gT_of (tm5 154 rfl) rfl
theorem m_X12_238 : Cond.methodLink RX12 238 yX12_seek ∈ gT := gT_of (tm5 158 rfl) rfl
theorem m_L_61 : Cond.methodLink RL 61 yX12_found ∈ gT := gT_of (tm5 162 rfl) rfl
theorem m_L_65 : Cond.methodLink RL 65 yX12_fits ∈ gT := gT_of (tm5 166 rfl) rfl
theorem m_X12_272 : Cond.methodLink RX12 272 yX12_alike ∈ gT := gT_of (tm5 170 rfl) rfl
theorem m_X12_258 : Cond.methodLink RX12 258 yX12_kindAbove ∈ gT := gT_of (tm5 174 rfl) rfl
theorem m_X12_262 : Cond.methodLink RX12 262 yX12_titleAbove ∈ gT := gT_of (tm5 178 rfl) rfl
theorem m_X12_265 : Cond.methodLink RX12 265 yX12_areLabels ∈ gT := gT_of (tm5 182 rfl) rfl
theorem m_X12_269 : Cond.methodLink RX12 269 yX12_arePaths ∈ gT := gT_of (tm5 186 rfl) rfl
theorem m_L_69 : Cond.methodLink RL 69 yX12_fit ∈ gT := gT_of (tm5 190 rfl) rfl
theorem m_L_74 : Cond.methodLink RL 74 yX12_sample ∈ gT := gT_of (tm5 194 rfl) rfl
theorem m_L_79 : Cond.methodLink RL 79 yX12_forget ∈ gT := gT_of (tm5 198 rfl) rfl
theorem m_L_83 : Cond.methodLink RL 83 yX12_stays ∈ gT := gT_of (tm5 202 rfl) rfl
theorem m_L_87 : Cond.methodLink RL 87 yX12_learnt ∈ gT := gT_of (tm5 206 rfl) rfl
theorem m_X12_281 : Cond.methodLink RX12 281 yX12_stays ∈ gT := gT_of (tm5 210 rfl) rfl
theorem m_X12_285 : Cond.methodLink RX12 285 yX12_lookAtSamples ∈ gT := gT_of (tm5 211 rfl) rfl
theorem m_X12_288 : Cond.methodLink RX12 288 yX12_bitsOf ∈ gT := gT_of (tm5 215 rfl) rfl
theorem m_X12_291 : Cond.methodLink RX12 291 yX12_tells ∈ gT := gT_of (tm5 218 rfl) rfl
theorem m_L_91 : Cond.methodLink RL 91 yX12_seen ∈ gT := gT_of (tm5 222 rfl) rfl
theorem m_X12_294 : Cond.methodLink RX12 294 yX12_learnt ∈ gT := gT_of (tm5 226 rfl) rfl
theorem m_L_95 : Cond.methodLink RL 95 yX12_rows ∈ gT := gT_of (tm5 227 rfl) rfl
theorem m_X12_304 : Cond.methodLink RX12 304 yX12_lay ∈ gT := gT_of (tm5 231 rfl) rfl
theorem m_X12_307 : Cond.methodLink RX12 307 yX12_rowsOf ∈ gT := gT_of (tm5 235 rfl) rfl
theorem m_X12_301 : Cond.methodLink RX12 301 yX12_rowOf ∈ gT := gT_of (tm5 239 rfl) rfl
theorem m_X12_297 : Cond.methodLink RX12 297 yX12_child ∈ gT := gT_of (tm6 3 rfl) rfl
theorem m_L_99 : Cond.methodLink RL 99 yX12_row ∈ gT := gT_of (tm6 7 rfl) rfl
theorem m_X12_310 : Cond.methodLink RX12 310 yX12_rows ∈ gT := gT_of (tm6 11 rfl) rfl
theorem m_L_104 : Cond.methodLink RL 104 yX12_act ∈ gT := gT_of (tm6 12 rfl) rfl
theorem m_L_109 : Cond.methodLink RL 109 yX12_loop ∈ gT := gT_of (tm6 16 rfl) rfl
theorem m_L_113 : Cond.methodLink RL 113 yX12_clear ∈ gT := gT_of (tm6 20 rfl) rfl
theorem m_L_117 : Cond.methodLink RL 117 yX12_run ∈ gT := gT_of (tm6 24 rfl) rfl
theorem m_X12_337 : Cond.methodLink RX12 337 yX12_goes ∈ gT := gT_of (tm6 28 rfl) rfl
theorem m_X12_331 : Cond.methodLink RX12 331 yX12_does ∈ gT := gT_of (tm6 32 rfl) rfl
theorem m_X12_319 : Cond.methodLink RX12 319 yX12_isInHarm ∈ gT := gT_of (tm6 36 rfl) rfl
theorem m_L_121 : Cond.methodLink RL 121 yX12_ran ∈ gT := gT_of (tm6 40 rfl) rfl
theorem m_L_125 : Cond.methodLink RL 125 yX12_read ∈ gT := gT_of (tm6 44 rfl) rfl
theorem m_L_129 : Cond.methodLink RL 129 yX12_about ∈ gT := gT_of (tm6 48 rfl) rfl
theorem m_L_17 : Cond.methodLink RL 17 yX12_feed ∈ gT := gT_of (tm6 52 rfl) rfl
theorem m_L_22 : Cond.methodLink RL 22 yX12_end ∈ gT := gT_of (tm6 56 rfl) rfl
theorem i_X0_init : miI yX0_init cX0_init 4 3 := ⟨⟨gT_of (tm4 12 rfl) rfl, ini_X0, by decide +kernel⟩, gT_of (tm4 11 rfl) rfl, rfl⟩
theorem i_X1_init : miI yX1_init cX1_init 1 0 := ⟨⟨gT_of (tm1 112 rfl) rfl, ini_X1, by decide +kernel⟩, gT_of (tm1 111 rfl) rfl, rfl⟩
theorem i_X1_look : miV yX1_look cX1_look 12 (some .int) 4 := ⟨⟨gT_of (tm3 90 rfl) rfl, ini_X1, by decide +kernel⟩, gT_of (tm3 89 rfl) rfl, gT_p (q := (⟨"ClickBench$Finding", "look", "(LClickBench$Part;LClickBench$Page;LClickBench$Likeness;I)I"⟩, 4)) (List.mem_of_getElem? (i := 30) rfl)⟩
theorem i_X2_init : miI yX2_init cX2_init 2 1 := ⟨⟨gT_of (tm3 16 rfl) rfl, ini_X2, by decide +kernel⟩, gT_of (tm3 15 rfl) rfl, rfl⟩
theorem i_X2_begin : miV yX2_begin cX2_begin 4 none 2 := ⟨⟨gT_of (tm3 39 rfl) rfl, ini_X2, by decide +kernel⟩, gT_of (tm3 38 rfl) rfl, gT_p (q := (⟨"ClickBench$Likeness", "begin", "(LClickBench$Page;LClickBench$Page;)V"⟩, 5)) (List.mem_of_getElem? (i := 23) rfl)⟩
theorem i_X2_costOf : miV yX2_costOf cX2_costOf 3 (some .int) 2 := ⟨⟨gT_of (tm3 74 rfl) rfl, ini_X2, by decide +kernel⟩, gT_of (tm3 73 rfl) rfl, gT_p (q := (⟨"ClickBench$Likeness", "costOf", "(LClickBench$Part;LClickBench$Part;)I"⟩, 5)) (List.mem_of_getElem? (i := 29) rfl)⟩
theorem i_X2_farOf : miV yX2_farOf cX2_farOf 4 (some .int) 2 := ⟨⟨gT_of (tm3 66 rfl) rfl, ini_X2, by decide +kernel⟩, gT_of (tm3 65 rfl) rfl, gT_p (q := (⟨"ClickBench$Likeness", "farOf", "(LClickBench$Part;LClickBench$Part;)I"⟩, 5)) (List.mem_of_getElem? (i := 28) rfl)⟩
theorem i_X2_measure : miV yX2_measure cX2_measure 5 none 1 := ⟨⟨gT_of (tm3 43 rfl) rfl, ini_X2, by decide +kernel⟩, gT_of (tm3 42 rfl) rfl, gT_p (q := (⟨"ClickBench$Likeness", "measure", "(LClickBench$Part;)V"⟩, 5)) (List.mem_of_getElem? (i := 24) rfl)⟩
theorem i_X2_measureKey : miV yX2_measureKey cX2_measureKey 4 none 1 := ⟨⟨gT_of (tm3 48 rfl) rfl, ini_X2, by decide +kernel⟩, gT_of (tm3 47 rfl) rfl, gT_p (q := (⟨"ClickBench$Likeness", "measureKey", "(LClickBench$Part;)V"⟩, 5)) (List.mem_of_getElem? (i := 25) rfl)⟩
theorem i_X2_measureForests : miV yX2_measureForests cX2_measureForests 14 none 2 := ⟨⟨gT_of (tm3 52 rfl) rfl, ini_X2, by decide +kernel⟩, gT_of (tm3 51 rfl) rfl, gT_p (q := (⟨"ClickBench$Likeness", "measureForests", "(LClickBench$Part;LClickBench$Part;)V"⟩, 5)) (List.mem_of_getElem? (i := 26) rfl)⟩
theorem i_X2_change : miS yX2_change cX2_change 2 (some .int) 2 := ⟨⟨gT_of (tm3 58 rfl) rfl, ini_X2, by decide +kernel⟩, gT_of (tm3 57 rfl) rfl⟩
theorem i_X2_changeAlone : miS yX2_changeAlone cX2_changeAlone 2 (some .int) 2 := ⟨⟨gT_of (tm3 78 rfl) rfl, ini_X2, by decide +kernel⟩, gT_of (tm3 77 rfl) rfl⟩
theorem i_X3_init : miI yX3_init cX3_init 5 4 := ⟨⟨gT_of (tm3 207 rfl) rfl, ini_X3, by decide +kernel⟩, gT_of (tm3 206 rfl) rfl, rfl⟩
theorem i_X3_of : miS yX3_of cX3_of 7 (some (.object "ClickBench$Loop")) 2 := ⟨⟨gT_of (tm3 198 rfl) rfl, ini_X3, by decide +kernel⟩, gT_of (tm3 197 rfl) rfl⟩
theorem i_X3_stepOn : miV yX3_stepOn cX3_stepOn 6 (some (.object "ClickBench$Part")) 2 := ⟨⟨gT_of (tm3 230 rfl) rfl, ini_X3, by decide +kernel⟩, gT_of (tm3 229 rfl) rfl, gT_p (q := (⟨"ClickBench$Loop", "stepOn", "(LClickBench$Page;I)LClickBench$Part;"⟩, 4)) (List.mem_of_getElem? (i := 43) rfl)⟩
theorem i_X3_countRows : miV yX3_countRows cX3_countRows 3 (some .int) 1 := ⟨⟨gT_of (tm3 226 rfl) rfl, ini_X3, by decide +kernel⟩, gT_of (tm3 225 rfl) rfl, gT_p (q := (⟨"ClickBench$Loop", "countRows", "(LClickBench$Page;)I"⟩, 4)) (List.mem_of_getElem? (i := 42) rfl)⟩
theorem i_X3_rowOn : miV yX3_rowOn cX3_rowOn 5 (some (.object "ClickBench$Part")) 2 := ⟨⟨gT_of (tm4 0 rfl) rfl, ini_X3, by decide +kernel⟩, gT_of (tm3 239 rfl) rfl, gT_p (q := (⟨"ClickBench$Loop", "rowOn", "(LClickBench$Page;I)LClickBench$Part;"⟩, 4)) (List.mem_of_getElem? (i := 44) rfl)⟩
theorem i_X4_init : miI yX4_init cX4_init 1 0 := ⟨⟨gT_of (tm2 13 rfl) rfl, ini_X4, by decide +kernel⟩, gT_of (tm2 12 rfl) rfl, rfl⟩
theorem i_X4_at : miV yX4_at cX4_at 2 (some (.object "ClickBench$Part")) 1 := ⟨⟨gT_of (tm2 90 rfl) rfl, ini_X4, by decide +kernel⟩, gT_of (tm2 89 rfl) rfl, gT_p (q := (⟨"ClickBench$Page", "at", "(I)LClickBench$Part;"⟩, 2)) (List.mem_of_getElem? (i := 12) rfl)⟩
theorem i_X4_add : miV yX4_add cX4_add 7 (some (.object "ClickBench$Part")) 3 := ⟨⟨gT_of (tm2 81 rfl) rfl, ini_X4, by decide +kernel⟩, gT_of (tm2 80 rfl) rfl, gT_p (q := (⟨"ClickBench$Page", "add", "(JLClickBench$Part;LClickBench$Part;)LClickBench$Part;"⟩, 2)) (List.mem_of_getElem? (i := 11) rfl)⟩
theorem i_X4_countFitting : miV yX4_countFitting cX4_countFitting 6 (some .int) 2 := ⟨⟨gT_of (tm3 107 rfl) rfl, ini_X4, by decide +kernel⟩, gT_of (tm3 106 rfl) rfl, gT_p (q := (⟨"ClickBench$Page", "countFitting", "(LClickBench$Part;I)I"⟩, 2)) (List.mem_of_getElem? (i := 31) rfl)⟩
theorem i_X4_fitting : miV yX4_fitting cX4_fitting 7 (some (.object "ClickBench$Part")) 3 := ⟨⟨gT_of (tm3 138 rfl) rfl, ini_X4, by decide +kernel⟩, gT_of (tm3 137 rfl) rfl, gT_p (q := (⟨"ClickBench$Page", "fitting", "(LClickBench$Part;II)LClickBench$Part;"⟩, 2)) (List.mem_of_getElem? (i := 35) rfl)⟩
theorem i_X5_init : miI yX5_init cX5_init 6 4 := ⟨⟨gT_of (tm2 85 rfl) rfl, ini_X5, by decide +kernel⟩, gT_of (tm2 84 rfl) rfl, rfl⟩
theorem i_X5_labelBehind : miS yX5_labelBehind cX5_labelBehind 1 (some (.object "ClickBench$Part")) 1 := ⟨⟨gT_of (tm2 93 rfl) rfl, ini_X5, by decide +kernel⟩, gT_of (tm2 92 rfl) rfl⟩
theorem i_X5_turnBehind : miS yX5_turnBehind cX5_turnBehind 4 (some .int) 2 := ⟨⟨gT_of (tm2 97 rfl) rfl, ini_X5, by decide +kernel⟩, gT_of (tm2 96 rfl) rfl⟩
theorem i_X5_textByte : miV yX5_textByte cX5_textByte 5 (some .int) 1 := ⟨⟨gT_of (tm3 0 rfl) rfl, ini_X5, by decide +kernel⟩, gT_of (tm2 239 rfl) rfl, gT_p (q := (⟨"ClickBench$Part", "textByte", "(I)I"⟩, 17)) (List.mem_of_getElem? (i := 20) rfl)⟩
theorem i_X5_isHarmful : miV yX5_isHarmful cX5_isHarmful 2 (some .boolean) 0 := ⟨⟨gT_of (tm4 63 rfl) rfl, ini_X5, by decide +kernel⟩, gT_of (tm4 62 rfl) rfl, gT_p (q := (⟨"ClickBench$Part", "isHarmful", "()Z"⟩, 17)) (List.mem_of_getElem? (i := 51) rfl)⟩
theorem i_X5_hasTextOf : miV yX5_hasTextOf cX5_hasTextOf 2 (some .boolean) 1 := ⟨⟨gT_of (tm3 62 rfl) rfl, ini_X5, by decide +kernel⟩, gT_of (tm3 61 rfl) rfl, gT_p (q := (⟨"ClickBench$Part", "hasTextOf", "(LClickBench$Part;)Z"⟩, 17)) (List.mem_of_getElem? (i := 27) rfl)⟩
theorem i_X5_hasPathOf : miV yX5_hasPathOf cX5_hasPathOf 7 (some .boolean) 3 := ⟨⟨gT_of (tm3 130 rfl) rfl, ini_X5, by decide +kernel⟩, gT_of (tm3 129 rfl) rfl, gT_p (q := (⟨"ClickBench$Part", "hasPathOf", "(LClickBench$Part;II)Z"⟩, 17)) (List.mem_of_getElem? (i := 34) rfl)⟩
theorem i_X5_marksSharedWith : miV yX5_marksSharedWith cX5_marksSharedWith 3 (some .int) 1 := ⟨⟨gT_of (tm3 116 rfl) rfl, ini_X5, by decide +kernel⟩, gT_of (tm3 115 rfl) rfl, gT_p (q := (⟨"ClickBench$Part", "marksSharedWith", "(LClickBench$Part;)I"⟩, 17)) (List.mem_of_getElem? (i := 33) rfl)⟩
theorem i_X5_fitsMarksOf : miV yX5_fitsMarksOf cX5_fitsMarksOf 3 (some .boolean) 2 := ⟨⟨gT_of (tm3 112 rfl) rfl, ini_X5, by decide +kernel⟩, gT_of (tm3 111 rfl) rfl, gT_p (q := (⟨"ClickBench$Part", "fitsMarksOf", "(LClickBench$Part;I)Z"⟩, 17)) (List.mem_of_getElem? (i := 32) rfl)⟩
theorem i_X5_kindOf : miS yX5_kindOf cX5_kindOf 1 (some .long) 1 := ⟨⟨gT_of (tm3 120 rfl) rfl, ini_X5, by decide +kernel⟩, gT_of (tm3 119 rfl) rfl⟩
theorem i_X5_nameOf : miS yX5_nameOf cX5_nameOf 1 (some .long) 1 := ⟨⟨gT_of (tm3 123 rfl) rfl, ini_X5, by decide +kernel⟩, gT_of (tm3 122 rfl) rfl⟩
theorem i_X5_sameLabel : miS yX5_sameLabel cX5_sameLabel 2 (some .boolean) 2 := ⟨⟨gT_of (tm3 126 rfl) rfl, ini_X5, by decide +kernel⟩, gT_of (tm3 125 rfl) rfl⟩
theorem i_X6_init : miI yX6_init cX6_init 2 1 := ⟨⟨gT_of (tm1 44 rfl) rfl, ini_X6, by decide +kernel⟩, gT_of (tm1 43 rfl) rfl, rfl⟩
theorem i_X6_readPage : miV yX6_readPage cX6_readPage 3 (some (.object "ClickBench$Page")) 0 := ⟨⟨gT_of (tm2 8 rfl) rfl, ini_X6, by decide +kernel⟩, gT_of (tm2 7 rfl) rfl, gT_p (q := (⟨"ClickBench$Reader", "readPage", "()LClickBench$Page;"⟩, 6)) (List.mem_of_getElem? (i := 1) rfl)⟩
theorem i_X6_takeToken : miV yX6_takeToken cX6_takeToken 2 (some .boolean) 1 := ⟨⟨gT_of (tm2 69 rfl) rfl, ini_X6, by decide +kernel⟩, gT_of (tm2 68 rfl) rfl, gT_p (q := (⟨"ClickBench$Reader", "takeToken", "(LClickBench$Page;)Z"⟩, 6)) (List.mem_of_getElem? (i := 8) rfl)⟩
theorem i_X6_move : miV yX6_move cX6_move 3 (some .boolean) 2 := ⟨⟨gT_of (tm2 193 rfl) rfl, ini_X6, by decide +kernel⟩, gT_of (tm2 192 rfl) rfl, gT_p (q := (⟨"ClickBench$Reader", "move", "(II)Z"⟩, 6)) (List.mem_of_getElem? (i := 13) rfl)⟩
theorem i_X6_takeKind : miV yX6_takeKind cX6_takeKind 3 (some .boolean) 1 := ⟨⟨gT_of (tm2 77 rfl) rfl, ini_X6, by decide +kernel⟩, gT_of (tm2 76 rfl) rfl, gT_p (q := (⟨"ClickBench$Reader", "takeKind", "(LClickBench$Page;)Z"⟩, 6)) (List.mem_of_getElem? (i := 10) rfl)⟩
theorem i_X6_takeName : miV yX6_takeName cX6_takeName 1 (some .boolean) 0 := ⟨⟨gT_of (tm2 73 rfl) rfl, ini_X6, by decide +kernel⟩, gT_of (tm2 72 rfl) rfl, gT_p (q := (⟨"ClickBench$Reader", "takeName", "()Z"⟩, 6)) (List.mem_of_getElem? (i := 9) rfl)⟩
theorem i_X6_takeText : miV yX6_takeText cX6_takeText 1 (some .boolean) 0 := ⟨⟨gT_of (tm2 197 rfl) rfl, ini_X6, by decide +kernel⟩, gT_of (tm2 196 rfl) rfl, gT_p (q := (⟨"ClickBench$Reader", "takeText", "()Z"⟩, 6)) (List.mem_of_getElem? (i := 14) rfl)⟩
theorem i_X6_takeHarm : miV yX6_takeHarm cX6_takeHarm 1 (some .boolean) 0 := ⟨⟨gT_of (tm2 201 rfl) rfl, ini_X6, by decide +kernel⟩, gT_of (tm2 200 rfl) rfl, gT_p (q := (⟨"ClickBench$Reader", "takeHarm", "()Z"⟩, 6)) (List.mem_of_getElem? (i := 15) rfl)⟩
theorem i_X6_goDown : miV yX6_goDown cX6_goDown 1 (some .boolean) 0 := ⟨⟨gT_of (tm2 205 rfl) rfl, ini_X6, by decide +kernel⟩, gT_of (tm2 204 rfl) rfl, gT_p (q := (⟨"ClickBench$Reader", "goDown", "()Z"⟩, 6)) (List.mem_of_getElem? (i := 16) rfl)⟩
theorem i_X6_goUp : miV yX6_goUp cX6_goUp 1 (some .boolean) 0 := ⟨⟨gT_of (tm2 209 rfl) rfl, ini_X6, by decide +kernel⟩, gT_of (tm2 208 rfl) rfl, gT_p (q := (⟨"ClickBench$Reader", "goUp", "()Z"⟩, 6)) (List.mem_of_getElem? (i := 17) rfl)⟩
theorem i_X7_init : miI yX7_init cX7_init 1 0 := ⟨⟨gT_of (tm1 162 rfl) rfl, ini_X7, by decide +kernel⟩, gT_of (tm1 161 rfl) rfl, rfl⟩
theorem i_X7_begin : miV yX7_begin cX7_begin 1 none 0 := ⟨⟨gT_of (tm4 42 rfl) rfl, ini_X7, by decide +kernel⟩, gT_of (tm4 41 rfl) rfl, gT_p (q := (⟨"ClickBench$Run", "begin", "()V"⟩, 6)) (List.mem_of_getElem? (i := 46) rfl)⟩
theorem i_X7_stop : miV yX7_stop cX7_stop 3 (some .boolean) 2 := ⟨⟨gT_of (tm4 67 rfl) rfl, ini_X7, by decide +kernel⟩, gT_of (tm4 66 rfl) rfl, gT_p (q := (⟨"ClickBench$Run", "stop", "(ILClickBench$Part;)Z"⟩, 6)) (List.mem_of_getElem? (i := 52) rfl)⟩
theorem i_X7_take : miV yX7_take cX7_take 3 (some .boolean) 2 := ⟨⟨gT_of (tm4 55 rfl) rfl, ini_X7, by decide +kernel⟩, gT_of (tm4 54 rfl) rfl, gT_p (q := (⟨"ClickBench$Run", "take", "(LClickBench$Part;Z)Z"⟩, 6)) (List.mem_of_getElem? (i := 49) rfl)⟩
theorem i_X7_keep : miV yX7_keep cX7_keep 2 none 1 := ⟨⟨gT_of (tm4 59 rfl) rfl, ini_X7, by decide +kernel⟩, gT_of (tm4 58 rfl) rfl, gT_p (q := (⟨"ClickBench$Run", "keep", "(LClickBench$Part;)V"⟩, 6)) (List.mem_of_getElem? (i := 50) rfl)⟩
theorem i_X7_keptAt : miV yX7_keptAt cX7_keptAt 2 (some (.object "ClickBench$Part")) 1 := ⟨⟨gT_of (tm4 80 rfl) rfl, ini_X7, by decide +kernel⟩, gT_of (tm4 79 rfl) rfl, gT_p (q := (⟨"ClickBench$Run", "keptAt", "(I)LClickBench$Part;"⟩, 6)) (List.mem_of_getElem? (i := 53) rfl)⟩
theorem i_X8_init : miI yX8_init cX8_init 1 0 := ⟨⟨gT_of (tm1 136 rfl) rfl, ini_X8, by decide +kernel⟩, gT_of (tm1 135 rfl) rfl, rfl⟩
theorem i_X8_first : miV yX8_first cX8_first 1 (some (.object "ClickBench$Part")) 0 := ⟨⟨gT_of (tm3 150 rfl) rfl, ini_X8, by decide +kernel⟩, gT_of (tm3 149 rfl) rfl, gT_p (q := (⟨"ClickBench$Samples", "first", "()LClickBench$Part;"⟩, 4)) (List.mem_of_getElem? (i := 37) rfl)⟩
theorem i_X8_add : miV yX8_add cX8_add 6 none 1 := ⟨⟨gT_of (tm3 146 rfl) rfl, ini_X8, by decide +kernel⟩, gT_of (tm3 145 rfl) rfl, gT_p (q := (⟨"ClickBench$Samples", "add", "(LClickBench$Part;)V"⟩, 4)) (List.mem_of_getElem? (i := 36) rfl)⟩
theorem i_X8_noteShared : miV yX8_noteShared cX8_noteShared 3 none 1 := ⟨⟨gT_of (tm3 156 rfl) rfl, ini_X8, by decide +kernel⟩, gT_of (tm3 155 rfl) rfl, gT_p (q := (⟨"ClickBench$Samples", "noteShared", "(I)V"⟩, 4)) (List.mem_of_getElem? (i := 38) rfl)⟩
theorem i_X8_dropAll : miV yX8_dropAll cX8_dropAll 2 none 0 := ⟨⟨gT_of (tm3 164 rfl) rfl, ini_X8, by decide +kernel⟩, gT_of (tm3 163 rfl) rfl, gT_p (q := (⟨"ClickBench$Samples", "dropAll", "()V"⟩, 4)) (List.mem_of_getElem? (i := 39) rfl)⟩
theorem i_X8_leastMarks : miV yX8_leastMarks cX8_leastMarks 5 (some .int) 0 := ⟨⟨gT_of (tm3 176 rfl) rfl, ini_X8, by decide +kernel⟩, gT_of (tm3 175 rfl) rfl, gT_p (q := (⟨"ClickBench$Samples", "leastMarks", "()I"⟩, 4)) (List.mem_of_getElem? (i := 40) rfl)⟩
theorem i_X9_init : miI yX9_init cX9_init 1 0 := ⟨⟨gT_of (tm1 28 rfl) rfl, ini_X9, by decide +kernel⟩, gT_of (tm1 27 rfl) rfl, rfl⟩
theorem i_X9_append : miV yX9_append cX9_append 3 none 1 := ⟨⟨gT_of (tm1 236 rfl) rfl, ini_X9, by decide +kernel⟩, gT_of (tm1 235 rfl) rfl, gT_p (q := (⟨"ClickBench$Tape", "append", "(I)V"⟩, 2)) (List.mem_of_getElem? (i := 0) rfl)⟩
theorem i_X9_byteAt : miV yX9_byteAt cX9_byteAt 2 (some .int) 1 := ⟨⟨gT_of (tm2 41 rfl) rfl, ini_X9, by decide +kernel⟩, gT_of (tm2 40 rfl) rfl, gT_p (q := (⟨"ClickBench$Tape", "byteAt", "(I)I"⟩, 2)) (List.mem_of_getElem? (i := 4) rfl)⟩
theorem i_X10_init : miI yX10_init cX10_init 2 1 := ⟨⟨gT_of (tm1 50 rfl) rfl, ini_X10, by decide +kernel⟩, gT_of (tm1 49 rfl) rfl, rfl⟩
theorem i_X10_rewind : miV yX10_rewind cX10_rewind 1 none 0 := ⟨⟨gT_of (tm2 33 rfl) rfl, ini_X10, by decide +kernel⟩, gT_of (tm2 32 rfl) rfl, gT_p (q := (⟨"ClickBench$Tokens", "rewind", "()V"⟩, 8)) (List.mem_of_getElem? (i := 2) rfl)⟩
theorem i_X10_advance : miV yX10_advance cX10_advance 2 none 0 := ⟨⟨gT_of (tm2 37 rfl) rfl, ini_X10, by decide +kernel⟩, gT_of (tm2 36 rfl) rfl, gT_p (q := (⟨"ClickBench$Tokens", "advance", "()V"⟩, 8)) (List.mem_of_getElem? (i := 3) rfl)⟩
theorem i_X10_takeWord : miV yX10_takeWord cX10_takeWord 2 none 0 := ⟨⟨gT_of (tm2 51 rfl) rfl, ini_X10, by decide +kernel⟩, gT_of (tm2 50 rfl) rfl, gT_p (q := (⟨"ClickBench$Tokens", "takeWord", "()V"⟩, 8)) (List.mem_of_getElem? (i := 5) rfl)⟩
theorem i_X10_takeText : miV yX10_takeText cX10_takeText 2 none 0 := ⟨⟨gT_of (tm2 55 rfl) rfl, ini_X10, by decide +kernel⟩, gT_of (tm2 54 rfl) rfl, gT_p (q := (⟨"ClickBench$Tokens", "takeText", "()V"⟩, 8)) (List.mem_of_getElem? (i := 6) rfl)⟩
theorem i_X10_putTextByte : miV yX10_putTextByte cX10_putTextByte 2 none 1 := ⟨⟨gT_of (tm2 62 rfl) rfl, ini_X10, by decide +kernel⟩, gT_of (tm2 61 rfl) rfl, gT_p (q := (⟨"ClickBench$Tokens", "putTextByte", "(I)V"⟩, 8)) (List.mem_of_getElem? (i := 7) rfl)⟩
theorem i_X10_signToken : miS yX10_signToken cX10_signToken 1 (some .int) 1 := ⟨⟨gT_of (tm2 65 rfl) rfl, ini_X10, by decide +kernel⟩, gT_of (tm2 64 rfl) rfl⟩
theorem i_X10_isBlank : miS yX10_isBlank cX10_isBlank 1 (some .boolean) 1 := ⟨⟨gT_of (tm2 44 rfl) rfl, ini_X10, by decide +kernel⟩, gT_of (tm2 43 rfl) rfl⟩
theorem i_X10_isLetter : miS yX10_isLetter cX10_isLetter 1 (some .boolean) 1 := ⟨⟨gT_of (tm2 47 rfl) rfl, ini_X10, by decide +kernel⟩, gT_of (tm2 46 rfl) rfl⟩
theorem i_X10_isTextByte : miS yX10_isTextByte cX10_isTextByte 1 (some .boolean) 1 := ⟨⟨gT_of (tm2 58 rfl) rfl, ini_X10, by decide +kernel⟩, gT_of (tm2 57 rfl) rfl⟩
theorem i_X11_init : miI yX11_init cX11_init 1 0 := ⟨⟨gT_of (tm1 20 rfl) rfl, ini_X11, by decide +kernel⟩, gT_of (tm1 19 rfl) rfl, rfl⟩
theorem i_X11_feed : miV yX11_feed cX11_feed 6 (some .int) 5 := ⟨⟨gT_of (tm1 232 rfl) rfl, ini_X11, by decide +kernel⟩, gT_of (tm1 230 rfl) rfl, gT_of (tm1 231 rfl) rfl⟩
theorem i_X11_end : miV yX11_end cX11_end 2 (some .int) 1 := ⟨⟨gT_of (tm2 0 rfl) rfl, ini_X11, by decide +kernel⟩, gT_of (tm1 238 rfl) rfl, gT_of (tm1 239 rfl) rfl⟩
theorem i_X11_page : miV yX11_page cX11_page 3 (some .int) 1 := ⟨⟨gT_of (tm2 4 rfl) rfl, ini_X11, by decide +kernel⟩, gT_of (tm2 2 rfl) rfl, gT_of (tm2 3 rfl) rfl⟩
theorem i_X11_fault : miV yX11_fault cX11_fault 2 (some .int) 1 := ⟨⟨gT_of (tm2 213 rfl) rfl, ini_X11, by decide +kernel⟩, gT_of (tm2 211 rfl) rfl, gT_of (tm2 212 rfl) rfl⟩
theorem i_X11_part : miV yX11_part cX11_part 5 (some .int) 3 := ⟨⟨gT_of (tm2 217 rfl) rfl, ini_X11, by decide +kernel⟩, gT_of (tm2 215 rfl) rfl, gT_of (tm2 216 rfl) rfl⟩
theorem i_X11_text : miV yX11_text cX11_text 6 (some .int) 4 := ⟨⟨gT_of (tm2 233 rfl) rfl, ini_X11, by decide +kernel⟩, gT_of (tm2 231 rfl) rfl, gT_of (tm2 232 rfl) rfl⟩
theorem i_X11_far : miV yX11_far cX11_far 7 (some .int) 4 := ⟨⟨gT_of (tm3 4 rfl) rfl, ini_X11, by decide +kernel⟩, gT_of (tm3 2 rfl) rfl, gT_of (tm3 3 rfl) rfl⟩
theorem i_X11_cost : miV yX11_cost cX11_cost 7 (some .int) 4 := ⟨⟨gT_of (tm3 70 rfl) rfl, ini_X11, by decide +kernel⟩, gT_of (tm3 68 rfl) rfl, gT_of (tm3 69 rfl) rfl⟩
theorem i_X11_gap : miV yX11_gap cX11_gap 2 (some .boolean) 1 := ⟨⟨gT_of (tm3 82 rfl) rfl, ini_X11, by decide +kernel⟩, gT_of (tm3 80 rfl) rfl, gT_of (tm3 81 rfl) rfl⟩
theorem i_X11_find : miV yX11_find cX11_find 6 (some .int) 3 := ⟨⟨gT_of (tm3 86 rfl) rfl, ini_X11, by decide +kernel⟩, gT_of (tm3 84 rfl) rfl, gT_of (tm3 85 rfl) rfl⟩
theorem i_X11_found : miV yX11_found cX11_found 2 (some .int) 1 := ⟨⟨gT_of (tm3 96 rfl) rfl, ini_X11, by decide +kernel⟩, gT_of (tm3 94 rfl) rfl, gT_of (tm3 95 rfl) rfl⟩
theorem i_X11_fits : miV yX11_fits cX11_fits 7 (some .int) 4 := ⟨⟨gT_of (tm3 100 rfl) rfl, ini_X11, by decide +kernel⟩, gT_of (tm3 98 rfl) rfl, gT_of (tm3 99 rfl) rfl⟩
theorem i_X11_fit : miV yX11_fit cX11_fit 8 (some .int) 5 := ⟨⟨gT_of (tm3 134 rfl) rfl, ini_X11, by decide +kernel⟩, gT_of (tm3 132 rfl) rfl, gT_of (tm3 133 rfl) rfl⟩
theorem i_X11_sample : miV yX11_sample cX11_sample 4 (some .int) 2 := ⟨⟨gT_of (tm3 142 rfl) rfl, ini_X11, by decide +kernel⟩, gT_of (tm3 140 rfl) rfl, gT_of (tm3 141 rfl) rfl⟩
theorem i_X11_forget : miV yX11_forget cX11_forget 2 (some .int) 0 := ⟨⟨gT_of (tm3 160 rfl) rfl, ini_X11, by decide +kernel⟩, gT_of (tm3 158 rfl) rfl, gT_of (tm3 159 rfl) rfl⟩
theorem i_X11_stays : miV yX11_stays cX11_stays 1 (some .int) 0 := ⟨⟨gT_of (tm3 168 rfl) rfl, ini_X11, by decide +kernel⟩, gT_of (tm3 166 rfl) rfl, gT_of (tm3 167 rfl) rfl⟩
theorem i_X11_learnt : miV yX11_learnt cX11_learnt 1 (some .int) 0 := ⟨⟨gT_of (tm3 172 rfl) rfl, ini_X11, by decide +kernel⟩, gT_of (tm3 170 rfl) rfl, gT_of (tm3 171 rfl) rfl⟩
theorem i_X11_seen : miV yX11_seen cX11_seen 6 (some .int) 1 := ⟨⟨gT_of (tm3 186 rfl) rfl, ini_X11, by decide +kernel⟩, gT_of (tm3 184 rfl) rfl, gT_of (tm3 185 rfl) rfl⟩
theorem i_X11_rows : miV yX11_rows cX11_rows 7 (some .int) 4 := ⟨⟨gT_of (tm3 191 rfl) rfl, ini_X11, by decide +kernel⟩, gT_of (tm3 189 rfl) rfl, gT_of (tm3 190 rfl) rfl⟩
theorem i_X11_row : miV yX11_row cX11_row 8 (some .int) 5 := ⟨⟨gT_of (tm3 236 rfl) rfl, ini_X11, by decide +kernel⟩, gT_of (tm3 234 rfl) rfl, gT_of (tm3 235 rfl) rfl⟩
theorem i_X11_act : miV yX11_act cX11_act 5 (some .int) 3 := ⟨⟨gT_of (tm4 4 rfl) rfl, ini_X11, by decide +kernel⟩, gT_of (tm4 2 rfl) rfl, gT_of (tm4 3 rfl) rfl⟩
theorem i_X11_loop : miV yX11_loop cX11_loop 6 (some .int) 4 := ⟨⟨gT_of (tm4 30 rfl) rfl, ini_X11, by decide +kernel⟩, gT_of (tm4 28 rfl) rfl, gT_of (tm4 29 rfl) rfl⟩
theorem i_X11_clear : miV yX11_clear cX11_clear 2 (some .int) 0 := ⟨⟨gT_of (tm4 34 rfl) rfl, ini_X11, by decide +kernel⟩, gT_of (tm4 32 rfl) rfl, gT_of (tm4 33 rfl) rfl⟩
theorem i_X11_run : miV yX11_run cX11_run 4 (some .int) 1 := ⟨⟨gT_of (tm4 38 rfl) rfl, ini_X11, by decide +kernel⟩, gT_of (tm4 36 rfl) rfl, gT_of (tm4 37 rfl) rfl⟩
theorem i_X11_ran : miV yX11_ran cX11_ran 2 (some .int) 1 := ⟨⟨gT_of (tm4 72 rfl) rfl, ini_X11, by decide +kernel⟩, gT_of (tm4 70 rfl) rfl, gT_of (tm4 71 rfl) rfl⟩
theorem i_X11_read : miV yX11_read cX11_read 4 (some .int) 2 := ⟨⟨gT_of (tm4 76 rfl) rfl, ini_X11, by decide +kernel⟩, gT_of (tm4 74 rfl) rfl, gT_of (tm4 75 rfl) rfl⟩
theorem i_X11_about : miV yX11_about cX11_about 3 (some .int) 1 := ⟨⟨gT_of (tm4 84 rfl) rfl, ini_X11, by decide +kernel⟩, gT_of (tm4 82 rfl) rfl, gT_of (tm4 83 rfl) rfl⟩
theorem i_X11_pageOn : miV yX11_pageOn cX11_pageOn 2 (some (.object "ClickBench$Page")) 1 := ⟨⟨gT_of (tm2 225 rfl) rfl, ini_X11, by decide +kernel⟩, gT_of (tm2 224 rfl) rfl, gT_p (q := (⟨"ClickBench", "pageOn", "(I)LClickBench$Page;"⟩, 13)) (List.mem_of_getElem? (i := 19) rfl)⟩
theorem i_X11_partOn : miV yX11_partOn cX11_partOn 4 (some (.object "ClickBench$Part")) 2 := ⟨⟨gT_of (tm2 221 rfl) rfl, ini_X11, by decide +kernel⟩, gT_of (tm2 220 rfl) rfl, gT_p (q := (⟨"ClickBench", "partOn", "(II)LClickBench$Part;"⟩, 13)) (List.mem_of_getElem? (i := 18) rfl)⟩
theorem i_X11_loopOn : miV yX11_loopOn cX11_loopOn 6 (some (.object "ClickBench$Loop")) 3 := ⟨⟨gT_of (tm3 195 rfl) rfl, ini_X11, by decide +kernel⟩, gT_of (tm3 194 rfl) rfl, gT_p (q := (⟨"ClickBench", "loopOn", "(III)LClickBench$Loop;"⟩, 13)) (List.mem_of_getElem? (i := 41) rfl)⟩
theorem i_X11_likenessFor : miV yX11_likenessFor cX11_likenessFor 6 (some (.object "ClickBench$Likeness")) 2 := ⟨⟨gT_of (tm3 8 rfl) rfl, ini_X11, by decide +kernel⟩, gT_of (tm3 7 rfl) rfl, gT_p (q := (⟨"ClickBench", "likenessFor", "(LClickBench$Part;LClickBench$Page;)LClickBench$Likeness;"⟩, 13)) (List.mem_of_getElem? (i := 21) rfl)⟩
theorem i_X11_oldestTable : miV yX11_oldestTable cX11_oldestTable 2 (some (.object "ClickBench$Likeness")) 0 := ⟨⟨gT_of (tm3 12 rfl) rfl, ini_X11, by decide +kernel⟩, gT_of (tm3 11 rfl) rfl, gT_p (q := (⟨"ClickBench", "oldestTable", "()LClickBench$Likeness;"⟩, 13)) (List.mem_of_getElem? (i := 22) rfl)⟩
theorem i_X11_tell : miV yX11_tell cX11_tell 4 (some .int) 3 := ⟨⟨gT_of (tm4 8 rfl) rfl, ini_X11, by decide +kernel⟩, gT_of (tm4 7 rfl) rfl, gT_p (q := (⟨"ClickBench", "tell", "(ZLClickBench$Part;LClickBench$Loop;)I"⟩, 13)) (List.mem_of_getElem? (i := 45) rfl)⟩
theorem i_X11_perform : miV yX11_perform cX11_perform 6 (some .boolean) 2 := ⟨⟨gT_of (tm4 46 rfl) rfl, ini_X11, by decide +kernel⟩, gT_of (tm4 45 rfl) rfl, gT_p (q := (⟨"ClickBench", "perform", "(LClickBench$Act;LClickBench$Page;)Z"⟩, 13)) (List.mem_of_getElem? (i := 47) rfl)⟩
theorem i_X11_performRows : miV yX11_performRows cX11_performRows 6 (some .boolean) 3 := ⟨⟨gT_of (tm4 50 rfl) rfl, ini_X11, by decide +kernel⟩, gT_of (tm4 49 rfl) rfl, gT_p (q := (⟨"ClickBench", "performRows", "(LClickBench$Loop;ZLClickBench$Page;)Z"⟩, 13)) (List.mem_of_getElem? (i := 48) rfl)⟩
theorem i_X11_areMarks : miS yX11_areMarks cX11_areMarks 1 (some .boolean) 1 := ⟨⟨gT_of (tm3 103 rfl) rfl, ini_X11, by decide +kernel⟩, gT_of (tm3 102 rfl) rfl⟩
theorem i_X11_numberOf : miS yX11_numberOf cX11_numberOf 1 (some .int) 1 := ⟨⟨gT_of (tm2 229 rfl) rfl, ini_X11, by decide +kernel⟩, gT_of (tm2 228 rfl) rfl⟩
theorem i_X11_letterOf : miS yX11_letterOf cX11_letterOf 4 (some .int) 2 := ⟨⟨gT_of (tm2 236 rfl) rfl, ini_X11, by decide +kernel⟩, gT_of (tm2 235 rfl) rfl⟩
theorem i_X12_init : miI yX12_init cX12_init 1 0 := ⟨⟨gT_of (tm4 89 rfl) rfl, ini_X12, by decide +kernel⟩, gT_of (tm4 88 rfl) rfl, rfl⟩
theorem i_X12_sign : miV yX12_sign cX12_sign 2 (some .int) 1 := ⟨⟨gT_of (tm5 42 rfl) rfl, ini_X12, by decide +kernel⟩, gT_of (tm5 41 rfl) rfl, gT_p (q := (⟨"ClickBenchModel", "sign", "(I)I"⟩, 57)) (List.mem_of_getElem? (i := 56) rfl)⟩
theorem i_X12_isLetter : miS yX12_isLetter cX12_isLetter 1 (some .boolean) 1 := ⟨⟨gT_of (tm5 45 rfl) rfl, ini_X12, by decide +kernel⟩, gT_of (tm5 44 rfl) rfl⟩
theorem i_X12_fails : miV yX12_fails cX12_fails 3 none 2 := ⟨⟨gT_of (tm5 57 rfl) rfl, ini_X12, by decide +kernel⟩, gT_of (tm5 56 rfl) rfl, gT_p (q := (⟨"ClickBenchModel", "fails", "(II)V"⟩, 57)) (List.mem_of_getElem? (i := 59) rfl)⟩
theorem i_X12_isGood : miV yX12_isGood cX12_isGood 1 (some .boolean) 0 := ⟨⟨gT_of (tm5 61 rfl) rfl, ini_X12, by decide +kernel⟩, gT_of (tm5 60 rfl) rfl, gT_p (q := (⟨"ClickBenchModel", "isGood", "()Z"⟩, 57)) (List.mem_of_getElem? (i := 60) rfl)⟩
theorem i_X12_next : miV yX12_next cX12_next 3 none 0 := ⟨⟨gT_of (tm5 38 rfl) rfl, ini_X12, by decide +kernel⟩, gT_of (tm5 37 rfl) rfl, gT_p (q := (⟨"ClickBenchModel", "next", "()V"⟩, 57)) (List.mem_of_getElem? (i := 55) rfl)⟩
theorem i_X12_is : miV yX12_is cX12_is 2 (some .boolean) 1 := ⟨⟨gT_of (tm5 68 rfl) rfl, ini_X12, by decide +kernel⟩, gT_of (tm5 67 rfl) rfl, gT_p (q := (⟨"ClickBenchModel", "is", "(I)Z"⟩, 57)) (List.mem_of_getElem? (i := 61) rfl)⟩
theorem i_X12_wrong : miV yX12_wrong cX12_wrong 1 none 0 := ⟨⟨gT_of (tm5 53 rfl) rfl, ini_X12, by decide +kernel⟩, gT_of (tm5 52 rfl) rfl, gT_p (q := (⟨"ClickBenchModel", "wrong", "()V"⟩, 57)) (List.mem_of_getElem? (i := 58) rfl)⟩
theorem i_X12_spot : miS yX12_spot cX12_spot 2 (some .int) 2 := ⟨⟨gT_of (tm5 64 rfl) rfl, ini_X12, by decide +kernel⟩, gT_of (tm5 63 rfl) rfl⟩
theorem i_X12_readPart : miV yX12_readPart cX12_readPart 4 none 0 := ⟨⟨gT_of (tm5 49 rfl) rfl, ini_X12, by decide +kernel⟩, gT_of (tm5 48 rfl) rfl, gT_p (q := (⟨"ClickBenchModel", "readPart", "()V"⟩, 57)) (List.mem_of_getElem? (i := 57) rfl)⟩
theorem i_X12_readPage : miV yX12_readPage cX12_readPage 2 none 0 := ⟨⟨gT_of (tm5 34 rfl) rfl, ini_X12, by decide +kernel⟩, gT_of (tm5 33 rfl) rfl, gT_p (q := (⟨"ClickBenchModel", "readPage", "()V"⟩, 57)) (List.mem_of_getElem? (i := 54) rfl)⟩
theorem i_X12_measure : miV yX12_measure cX12_measure 5 none 0 := ⟨⟨gT_of (tm5 72 rfl) rfl, ini_X12, by decide +kernel⟩, gT_of (tm5 71 rfl) rfl, gT_p (q := (⟨"ClickBenchModel", "measure", "()V"⟩, 57)) (List.mem_of_getElem? (i := 62) rfl)⟩
theorem i_X12_isUnder : miV yX12_isUnder cX12_isUnder 5 (some .boolean) 3 := ⟨⟨gT_of (tm5 76 rfl) rfl, ini_X12, by decide +kernel⟩, gT_of (tm5 75 rfl) rfl, gT_p (q := (⟨"ClickBenchModel", "isUnder", "(III)Z"⟩, 57)) (List.mem_of_getElem? (i := 63) rfl)⟩
theorem i_X12_copyPage : miV yX12_copyPage cX12_copyPage 7 none 2 := ⟨⟨gT_of (tm5 80 rfl) rfl, ini_X12, by decide +kernel⟩, gT_of (tm5 79 rfl) rfl, gT_p (q := (⟨"ClickBenchModel", "copyPage", "(II)V"⟩, 57)) (List.mem_of_getElem? (i := 64) rfl)⟩
theorem i_X12_isShelf : miS yX12_isShelf cX12_isShelf 1 (some .boolean) 1 := ⟨⟨gT_of (tm5 30 rfl) rfl, ini_X12, by decide +kernel⟩, gT_of (tm5 29 rfl) rfl⟩
theorem i_X12_page : miV yX12_page cX12_page 3 (some .int) 1 := ⟨⟨gT_of (tm5 27 rfl) rfl, ini_X12, by decide +kernel⟩, gT_of (tm5 25 rfl) rfl, gT_of (tm5 26 rfl) rfl⟩
theorem i_X12_fault : miV yX12_fault cX12_fault 2 (some .int) 1 := ⟨⟨gT_of (tm5 84 rfl) rfl, ini_X12, by decide +kernel⟩, gT_of (tm5 82 rfl) rfl, gT_of (tm5 83 rfl) rfl⟩
theorem i_X12_isPart : miV yX12_isPart cX12_isPart 3 (some .boolean) 2 := ⟨⟨gT_of (tm5 92 rfl) rfl, ini_X12, by decide +kernel⟩, gT_of (tm5 91 rfl) rfl, gT_p (q := (⟨"ClickBenchModel", "isPart", "(II)Z"⟩, 57)) (List.mem_of_getElem? (i := 65) rfl)⟩
theorem i_X12_hasPage : miV yX12_hasPage cX12_hasPage 2 (some .boolean) 1 := ⟨⟨gT_of (tm5 157 rfl) rfl, ini_X12, by decide +kernel⟩, gT_of (tm5 156 rfl) rfl, gT_p (q := (⟨"ClickBenchModel", "hasPage", "(I)Z"⟩, 57)) (List.mem_of_getElem? (i := 75) rfl)⟩
theorem i_X12_left : miV yX12_left cX12_left 5 (some .int) 2 := ⟨⟨gT_of (tm5 96 rfl) rfl, ini_X12, by decide +kernel⟩, gT_of (tm5 95 rfl) rfl, gT_p (q := (⟨"ClickBenchModel", "left", "(II)I"⟩, 57)) (List.mem_of_getElem? (i := 66) rfl)⟩
theorem i_X12_right : miV yX12_right cX12_right 4 (some .int) 2 := ⟨⟨gT_of (tm5 100 rfl) rfl, ini_X12, by decide +kernel⟩, gT_of (tm5 99 rfl) rfl, gT_p (q := (⟨"ClickBenchModel", "right", "(II)I"⟩, 57)) (List.mem_of_getElem? (i := 67) rfl)⟩
theorem i_X12_label : miV yX12_label cX12_label 4 (some .int) 2 := ⟨⟨gT_of (tm5 104 rfl) rfl, ini_X12, by decide +kernel⟩, gT_of (tm5 103 rfl) rfl, gT_p (q := (⟨"ClickBenchModel", "label", "(II)I"⟩, 57)) (List.mem_of_getElem? (i := 68) rfl)⟩
theorem i_X12_part : miV yX12_part cX12_part 5 (some .int) 3 := ⟨⟨gT_of (tm5 88 rfl) rfl, ini_X12, by decide +kernel⟩, gT_of (tm5 86 rfl) rfl, gT_of (tm5 87 rfl) rfl⟩
theorem i_X12_sizeOf : miS yX12_sizeOf cX12_sizeOf 3 (some .int) 1 := ⟨⟨gT_of (tm5 112 rfl) rfl, ini_X12, by decide +kernel⟩, gT_of (tm5 111 rfl) rfl⟩
theorem i_X12_text : miV yX12_text cX12_text 9 (some .int) 4 := ⟨⟨gT_of (tm5 109 rfl) rfl, ini_X12, by decide +kernel⟩, gT_of (tm5 107 rfl) rfl, gT_of (tm5 108 rfl) rfl⟩
theorem i_X12_areSameWords : miV yX12_areSameWords cX12_areSameWords 4 (some .boolean) 2 := ⟨⟨gT_of (tm5 133 rfl) rfl, ini_X12, by decide +kernel⟩, gT_of (tm5 132 rfl) rfl, gT_p (q := (⟨"ClickBenchModel", "areSameWords", "(II)Z"⟩, 57)) (List.mem_of_getElem? (i := 72) rfl)⟩
theorem i_X12_change : miV yX12_change cX12_change 3 (some .int) 2 := ⟨⟨gT_of (tm5 129 rfl) rfl, ini_X12, by decide +kernel⟩, gT_of (tm5 128 rfl) rfl, gT_p (q := (⟨"ClickBenchModel", "change", "(II)I"⟩, 57)) (List.mem_of_getElem? (i := 71) rfl)⟩
theorem i_X12_measureAll : miV yX12_measureAll cX12_measureAll 5 none 2 := ⟨⟨gT_of (tm5 121 rfl) rfl, ini_X12, by decide +kernel⟩, gT_of (tm5 120 rfl) rfl, gT_p (q := (⟨"ClickBenchModel", "measureAll", "(II)V"⟩, 57)) (List.mem_of_getElem? (i := 69) rfl)⟩
theorem i_X12_measureOne : miV yX12_measureOne cX12_measureOne 13 (some .int) 4 := ⟨⟨gT_of (tm5 125 rfl) rfl, ini_X12, by decide +kernel⟩, gT_of (tm5 124 rfl) rfl, gT_p (q := (⟨"ClickBenchModel", "measureOne", "(IIII)I"⟩, 57)) (List.mem_of_getElem? (i := 70) rfl)⟩
theorem i_X12_far : miV yX12_far cX12_far 5 (some .int) 4 := ⟨⟨gT_of (tm5 117 rfl) rfl, ini_X12, by decide +kernel⟩, gT_of (tm5 115 rfl) rfl, gT_of (tm5 116 rfl) rfl⟩
theorem i_X12_beside : miV yX12_beside cX12_beside 5 (some .int) 4 := ⟨⟨gT_of (tm5 145 rfl) rfl, ini_X12, by decide +kernel⟩, gT_of (tm5 144 rfl) rfl, gT_p (q := (⟨"ClickBenchModel", "beside", "(IIII)I"⟩, 57)) (List.mem_of_getElem? (i := 74) rfl)⟩
theorem i_X12_costOf : miV yX12_costOf cX12_costOf 5 (some .int) 4 := ⟨⟨gT_of (tm5 141 rfl) rfl, ini_X12, by decide +kernel⟩, gT_of (tm5 140 rfl) rfl, gT_p (q := (⟨"ClickBenchModel", "costOf", "(IIII)I"⟩, 57)) (List.mem_of_getElem? (i := 73) rfl)⟩
theorem i_X12_cost : miV yX12_cost cX12_cost 5 (some .int) 4 := ⟨⟨gT_of (tm5 137 rfl) rfl, ini_X12, by decide +kernel⟩, gT_of (tm5 135 rfl) rfl, gT_of (tm5 136 rfl) rfl⟩
theorem i_X12_gap : miV yX12_gap cX12_gap 2 (some .boolean) 1 := ⟨⟨gT_of (tm5 149 rfl) rfl, ini_X12, by decide +kernel⟩, gT_of (tm5 147 rfl) rfl, gT_of (tm5 148 rfl) rfl⟩
theorem i_X12_seek : miV yX12_seek cX12_seek 6 (some .int) 3 := ⟨⟨gT_of (tm5 161 rfl) rfl, ini_X12, by decide +kernel⟩, gT_of (tm5 160 rfl) rfl, gT_p (q := (⟨"ClickBenchModel", "seek", "(III)I"⟩, 57)) (List.mem_of_getElem? (i := 76) rfl)⟩
theorem i_X12_find : miV yX12_find cX12_find 5 (some .int) 3 := ⟨⟨gT_of (tm5 153 rfl) rfl, ini_X12, by decide +kernel⟩, gT_of (tm5 151 rfl) rfl, gT_of (tm5 152 rfl) rfl⟩
theorem i_X12_found : miV yX12_found cX12_found 2 (some .int) 1 := ⟨⟨gT_of (tm5 165 rfl) rfl, ini_X12, by decide +kernel⟩, gT_of (tm5 163 rfl) rfl, gT_of (tm5 164 rfl) rfl⟩
theorem i_X12_arePaths : miV yX12_arePaths cX12_arePaths 7 (some .boolean) 4 := ⟨⟨gT_of (tm5 189 rfl) rfl, ini_X12, by decide +kernel⟩, gT_of (tm5 188 rfl) rfl, gT_p (q := (⟨"ClickBenchModel", "arePaths", "(IIII)Z"⟩, 57)) (List.mem_of_getElem? (i := 81) rfl)⟩
theorem i_X12_areLabels : miV yX12_areLabels cX12_areLabels 7 (some .boolean) 4 := ⟨⟨gT_of (tm5 185 rfl) rfl, ini_X12, by decide +kernel⟩, gT_of (tm5 184 rfl) rfl, gT_p (q := (⟨"ClickBenchModel", "areLabels", "(IIII)Z"⟩, 57)) (List.mem_of_getElem? (i := 80) rfl)⟩
theorem i_X12_kindAbove : miV yX12_kindAbove cX12_kindAbove 3 (some .long) 2 := ⟨⟨gT_of (tm5 177 rfl) rfl, ini_X12, by decide +kernel⟩, gT_of (tm5 176 rfl) rfl, gT_p (q := (⟨"ClickBenchModel", "kindAbove", "(II)J"⟩, 57)) (List.mem_of_getElem? (i := 78) rfl)⟩
theorem i_X12_titleAbove : miV yX12_titleAbove cX12_titleAbove 3 (some .long) 2 := ⟨⟨gT_of (tm5 181 rfl) rfl, ini_X12, by decide +kernel⟩, gT_of (tm5 180 rfl) rfl, gT_p (q := (⟨"ClickBenchModel", "titleAbove", "(II)J"⟩, 57)) (List.mem_of_getElem? (i := 79) rfl)⟩
theorem i_X12_alike : miV yX12_alike cX12_alike 8 (some .int) 4 := ⟨⟨gT_of (tm5 173 rfl) rfl, ini_X12, by decide +kernel⟩, gT_of (tm5 172 rfl) rfl, gT_p (q := (⟨"ClickBenchModel", "alike", "(IIII)I"⟩, 57)) (List.mem_of_getElem? (i := 77) rfl)⟩
theorem i_X12_fits : miV yX12_fits cX12_fits 7 (some .int) 4 := ⟨⟨gT_of (tm5 169 rfl) rfl, ini_X12, by decide +kernel⟩, gT_of (tm5 167 rfl) rfl, gT_of (tm5 168 rfl) rfl⟩
theorem i_X12_fit : miV yX12_fit cX12_fit 8 (some .int) 5 := ⟨⟨gT_of (tm5 193 rfl) rfl, ini_X12, by decide +kernel⟩, gT_of (tm5 191 rfl) rfl, gT_of (tm5 192 rfl) rfl⟩
theorem i_X12_sample : miV yX12_sample cX12_sample 3 (some .int) 2 := ⟨⟨gT_of (tm5 197 rfl) rfl, ini_X12, by decide +kernel⟩, gT_of (tm5 195 rfl) rfl, gT_of (tm5 196 rfl) rfl⟩
theorem i_X12_forget : miV yX12_forget cX12_forget 2 (some .int) 0 := ⟨⟨gT_of (tm5 201 rfl) rfl, ini_X12, by decide +kernel⟩, gT_of (tm5 199 rfl) rfl, gT_of (tm5 200 rfl) rfl⟩
theorem i_X12_stays : miV yX12_stays cX12_stays 3 (some .int) 0 := ⟨⟨gT_of (tm5 205 rfl) rfl, ini_X12, by decide +kernel⟩, gT_of (tm5 203 rfl) rfl, gT_of (tm5 204 rfl) rfl⟩
theorem i_X12_bitsOf : miS yX12_bitsOf cX12_bitsOf 3 (some .int) 1 := ⟨⟨gT_of (tm5 217 rfl) rfl, ini_X12, by decide +kernel⟩, gT_of (tm5 216 rfl) rfl⟩
theorem i_X12_lookAtSamples : miV yX12_lookAtSamples cX12_lookAtSamples 3 none 0 := ⟨⟨gT_of (tm5 214 rfl) rfl, ini_X12, by decide +kernel⟩, gT_of (tm5 213 rfl) rfl, gT_p (q := (⟨"ClickBenchModel", "lookAtSamples", "()V"⟩, 57)) (List.mem_of_getElem? (i := 82) rfl)⟩
theorem i_X12_tells : miV yX12_tells cX12_tells 3 (some .boolean) 1 := ⟨⟨gT_of (tm5 221 rfl) rfl, ini_X12, by decide +kernel⟩, gT_of (tm5 220 rfl) rfl, gT_p (q := (⟨"ClickBenchModel", "tells", "(I)Z"⟩, 57)) (List.mem_of_getElem? (i := 83) rfl)⟩
theorem i_X12_learnt : miV yX12_learnt cX12_learnt 4 (some .int) 0 := ⟨⟨gT_of (tm5 209 rfl) rfl, ini_X12, by decide +kernel⟩, gT_of (tm5 207 rfl) rfl, gT_of (tm5 208 rfl) rfl⟩
theorem i_X12_seen : miV yX12_seen cX12_seen 5 (some .int) 1 := ⟨⟨gT_of (tm5 225 rfl) rfl, ini_X12, by decide +kernel⟩, gT_of (tm5 223 rfl) rfl, gT_of (tm5 224 rfl) rfl⟩
theorem i_X12_lay : miV yX12_lay cX12_lay 12 (some .boolean) 4 := ⟨⟨gT_of (tm5 234 rfl) rfl, ini_X12, by decide +kernel⟩, gT_of (tm5 233 rfl) rfl, gT_p (q := (⟨"ClickBenchModel", "lay", "(IIII)Z"⟩, 57)) (List.mem_of_getElem? (i := 84) rfl)⟩
theorem i_X12_rowOf : miV yX12_rowOf cX12_rowOf 8 (some .int) 3 := ⟨⟨gT_of (tm6 2 rfl) rfl, ini_X12, by decide +kernel⟩, gT_of (tm6 1 rfl) rfl, gT_p (q := (⟨"ClickBenchModel", "rowOf", "(III)I"⟩, 57)) (List.mem_of_getElem? (i := 86) rfl)⟩
theorem i_X12_child : miV yX12_child cX12_child 7 (some .int) 4 := ⟨⟨gT_of (tm6 6 rfl) rfl, ini_X12, by decide +kernel⟩, gT_of (tm6 5 rfl) rfl, gT_p (q := (⟨"ClickBenchModel", "child", "(IIJI)I"⟩, 57)) (List.mem_of_getElem? (i := 87) rfl)⟩
theorem i_X12_rowsOf : miV yX12_rowsOf cX12_rowsOf 4 (some .int) 2 := ⟨⟨gT_of (tm5 238 rfl) rfl, ini_X12, by decide +kernel⟩, gT_of (tm5 237 rfl) rfl, gT_p (q := (⟨"ClickBenchModel", "rowsOf", "(II)I"⟩, 57)) (List.mem_of_getElem? (i := 85) rfl)⟩
theorem i_X12_rows : miV yX12_rows cX12_rows 5 (some .int) 4 := ⟨⟨gT_of (tm5 230 rfl) rfl, ini_X12, by decide +kernel⟩, gT_of (tm5 228 rfl) rfl, gT_of (tm5 229 rfl) rfl⟩
theorem i_X12_row : miV yX12_row cX12_row 7 (some .int) 5 := ⟨⟨gT_of (tm6 10 rfl) rfl, ini_X12, by decide +kernel⟩, gT_of (tm6 8 rfl) rfl, gT_of (tm6 9 rfl) rfl⟩
theorem i_X12_act : miV yX12_act cX12_act 4 (some .int) 3 := ⟨⟨gT_of (tm6 15 rfl) rfl, ini_X12, by decide +kernel⟩, gT_of (tm6 13 rfl) rfl, gT_of (tm6 14 rfl) rfl⟩
theorem i_X12_loop : miV yX12_loop cX12_loop 5 (some .int) 4 := ⟨⟨gT_of (tm6 19 rfl) rfl, ini_X12, by decide +kernel⟩, gT_of (tm6 17 rfl) rfl, gT_of (tm6 18 rfl) rfl⟩
theorem i_X12_clear : miV yX12_clear cX12_clear 2 (some .int) 0 := ⟨⟨gT_of (tm6 23 rfl) rfl, ini_X12, by decide +kernel⟩, gT_of (tm6 21 rfl) rfl, gT_of (tm6 22 rfl) rfl⟩
theorem i_X12_isInHarm : miV yX12_isInHarm cX12_isInHarm 4 (some .boolean) 2 := ⟨⟨gT_of (tm6 39 rfl) rfl, ini_X12, by decide +kernel⟩, gT_of (tm6 38 rfl) rfl, gT_p (q := (⟨"ClickBenchModel", "isInHarm", "(II)Z"⟩, 57)) (List.mem_of_getElem? (i := 90) rfl)⟩
theorem i_X12_does : miV yX12_does cX12_does 6 (some .boolean) 3 := ⟨⟨gT_of (tm6 35 rfl) rfl, ini_X12, by decide +kernel⟩, gT_of (tm6 34 rfl) rfl, gT_p (q := (⟨"ClickBenchModel", "does", "(III)Z"⟩, 57)) (List.mem_of_getElem? (i := 89) rfl)⟩
theorem i_X12_goes : miV yX12_goes cX12_goes 5 (some .boolean) 2 := ⟨⟨gT_of (tm6 31 rfl) rfl, ini_X12, by decide +kernel⟩, gT_of (tm6 30 rfl) rfl, gT_p (q := (⟨"ClickBenchModel", "goes", "(II)Z"⟩, 57)) (List.mem_of_getElem? (i := 88) rfl)⟩
theorem i_X12_run : miV yX12_run cX12_run 3 (some .int) 1 := ⟨⟨gT_of (tm6 27 rfl) rfl, ini_X12, by decide +kernel⟩, gT_of (tm6 25 rfl) rfl, gT_of (tm6 26 rfl) rfl⟩
theorem i_X12_ran : miV yX12_ran cX12_ran 2 (some .int) 1 := ⟨⟨gT_of (tm6 43 rfl) rfl, ini_X12, by decide +kernel⟩, gT_of (tm6 41 rfl) rfl, gT_of (tm6 42 rfl) rfl⟩
theorem i_X12_read : miV yX12_read cX12_read 3 (some .int) 2 := ⟨⟨gT_of (tm6 47 rfl) rfl, ini_X12, by decide +kernel⟩, gT_of (tm6 45 rfl) rfl, gT_of (tm6 46 rfl) rfl⟩
theorem i_X12_about : miV yX12_about cX12_about 2 (some .int) 1 := ⟨⟨gT_of (tm6 51 rfl) rfl, ini_X12, by decide +kernel⟩, gT_of (tm6 49 rfl) rfl, gT_of (tm6 50 rfl) rfl⟩
theorem i_X12_feed : miV yX12_feed cX12_feed 8 (some .int) 5 := ⟨⟨gT_of (tm6 55 rfl) rfl, ini_X12, by decide +kernel⟩, gT_of (tm6 53 rfl) rfl, gT_of (tm6 54 rfl) rfl⟩
theorem i_X12_end : miV yX12_end cX12_end 2 (some .int) 1 := ⟨⟨gT_of (tm6 59 rfl) rfl, ini_X12, by decide +kernel⟩, gT_of (tm6 57 rfl) rfl, gT_of (tm6 58 rfl) rfl⟩
theorem i_J6_bitCount_0f7a4 : miS yJ6_bitCount_0f7a4 cJ6_bitCount_0f7a4 1 (some .int) 1 := ⟨⟨gT_of (tm3 179 rfl) rfl, ini_java_lang_Integer, by decide +kernel⟩, gT_of (tm3 178 rfl) rfl⟩
theorem i_J9_abs_0f7a4 : miS yJ9_abs_0f7a4 cJ9_abs_0f7a4 1 (some .int) 1 := ⟨⟨gT_of (tm3 204 rfl) rfl, ini_java_lang_Math, by decide +kernel⟩, gT_of (tm3 203 rfl) rfl⟩
theorem i_J9_min_7cf53 : miS yJ9_min_7cf53 cJ9_min_7cf53 2 (some .int) 2 := ⟨⟨gT_of (tm3 55 rfl) rfl, ini_java_lang_Math, by decide +kernel⟩, gT_of (tm3 54 rfl) rfl⟩
theorem oi_code : Cond.code objectInit ⟨#[0xb1]⟩ 1 none ∈ gT := gT_of (tm1 23 rfl) rfl
theorem oi_inst : Cond.instanceMethod objectInit ∈ gT := gT_of (tm1 22 rfl) rfl
