/-! links, methods, objects -/
set_option maxRecDepth 20000 in
theorem fl_IF_10 : FLk "InstrumentFiles" 10 0 0 2 1 (.object "InstrumentFiles$Tape") true := ⟨_, _, _, tyF0, rfl, by decide, rfl, rfl, by decide +kernel, rfl, tyF0_ok, nmF0, Or.inl (mem_2 5 rfl rfl)⟩
set_option maxRecDepth 20000 in
theorem fl_IF_19 : FLk "InstrumentFiles" 19 0 1 2 2 (.object "InstrumentFiles$Program") true := ⟨_, _, _, tyF0, rfl, by decide, rfl, rfl, by decide +kernel, rfl, tyF0_ok, nmF0, Or.inl (mem_2 6 rfl rfl)⟩
set_option maxRecDepth 20000 in
theorem fl_IF_26 : FLk "InstrumentFiles" 26 0 2 2 5 (.object "InstrumentFiles$Reader") true := ⟨_, _, _, tyF0, rfl, by decide, rfl, rfl, by decide +kernel, rfl, tyF0_ok, nmF0, Or.inl (mem_2 7 rfl rfl)⟩
set_option maxRecDepth 20000 in
theorem fl_IF_33 : FLk "InstrumentFiles" 33 0 3 2 6 (.object "InstrumentFiles$Judge") true := ⟨_, _, _, tyF0, rfl, by decide, rfl, rfl, by decide +kernel, rfl, tyF0_ok, nmF0, Or.inl (mem_2 8 rfl rfl)⟩
set_option maxRecDepth 20000 in
theorem fl_IF_40 : FLk "InstrumentFiles" 40 0 4 2 7 (.object "InstrumentFiles$Machine") true := ⟨_, _, _, tyF0, rfl, by decide, rfl, rfl, by decide +kernel, rfl, tyF0_ok, nmF0, Or.inl (mem_2 9 rfl rfl)⟩
set_option maxRecDepth 20000 in
theorem fl_IF_44 : FLk "InstrumentFiles" 44 1 1 0 0 (.int) false := ⟨_, _, _, tyF1, rfl, by decide, rfl, rfl, by decide +kernel, rfl, tyF1_ok, nmF1, Or.inr ⟨"InstrumentFiles", men_1 31 rfl rfl⟩⟩
set_option maxRecDepth 20000 in
theorem fl_IF_67 : FLk "InstrumentFiles" 67 0 6 0 0 (.int) false := ⟨_, _, _, tyF0, rfl, by decide, rfl, rfl, by decide +kernel, rfl, tyF0_ok, nmF0, Or.inl (mem_2 11 rfl rfl)⟩
set_option maxRecDepth 20000 in
theorem fl_IF_74 : FLk "InstrumentFiles" 74 5 1 0 0 (.int) false := ⟨_, _, _, tyF5, rfl, by decide, rfl, rfl, by decide +kernel, rfl, tyF5_ok, nmF5, Or.inr ⟨"InstrumentFiles", men_1 164 rfl rfl⟩⟩
set_option maxRecDepth 20000 in
theorem fl_IF_77 : FLk "InstrumentFiles" 77 0 5 0 0 (.int) false := ⟨_, _, _, tyF0, rfl, by decide, rfl, rfl, by decide +kernel, rfl, tyF0_ok, nmF0, Or.inl (mem_2 10 rfl rfl)⟩
set_option maxRecDepth 20000 in
theorem fl_IF_80 : FLk "InstrumentFiles" 80 2 3 0 0 (.int) false := ⟨_, _, _, tyF2, rfl, by decide, rfl, rfl, by decide +kernel, rfl, tyF2_ok, nmF2, Or.inr ⟨"InstrumentFiles", men_1 145 rfl rfl⟩⟩
set_option maxRecDepth 20000 in
theorem fl_IF_83 : FLk "InstrumentFiles" 83 5 0 0 0 (.int) false := ⟨_, _, _, tyF5, rfl, by decide, rfl, rfl, by decide +kernel, rfl, tyF5_ok, nmF5, Or.inr ⟨"InstrumentFiles", men_1 162 rfl rfl⟩⟩
set_option maxRecDepth 20000 in
theorem fl_IF_90 : FLk "InstrumentFiles" 90 6 0 0 0 (.int) false := ⟨_, _, _, tyF6, rfl, by decide, rfl, rfl, by decide +kernel, rfl, tyF6_ok, nmF6, Or.inr ⟨"InstrumentFiles", men_1 177 rfl rfl⟩⟩
set_option maxRecDepth 20000 in
theorem fl_IF_108 : FLk "InstrumentFiles" 108 4 1 0 0 (.int) false := ⟨_, _, _, tyF4, rfl, by decide, rfl, rfl, by decide +kernel, rfl, tyF4_ok, nmF4, Or.inr ⟨"InstrumentFiles", men_1 79 rfl rfl⟩⟩
set_option maxRecDepth 20000 in
theorem fl_IF_113 : FLk "InstrumentFiles" 113 4 2 0 0 (.int) false := ⟨_, _, _, tyF4, rfl, by decide, rfl, rfl, by decide +kernel, rfl, tyF4_ok, nmF4, Or.inr ⟨"InstrumentFiles", men_1 82 rfl rfl⟩⟩
set_option maxRecDepth 20000 in
theorem fl_IF_116 : FLk "InstrumentFiles" 116 4 3 0 0 (.int) false := ⟨_, _, _, tyF4, rfl, by decide, rfl, rfl, by decide +kernel, rfl, tyF4_ok, nmF4, Or.inr ⟨"InstrumentFiles", men_1 85 rfl rfl⟩⟩
set_option maxRecDepth 20000 in
theorem fl_IF_119 : FLk "InstrumentFiles" 119 4 4 0 0 (.int) false := ⟨_, _, _, tyF4, rfl, by decide, rfl, rfl, by decide +kernel, rfl, tyF4_ok, nmF4, Or.inr ⟨"InstrumentFiles", men_1 87 rfl rfl⟩⟩
set_option maxRecDepth 20000 in
theorem fl_IF_122 : FLk "InstrumentFiles" 122 4 5 0 0 (.int) false := ⟨_, _, _, tyF4, rfl, by decide, rfl, rfl, by decide +kernel, rfl, tyF4_ok, nmF4, Or.inr ⟨"InstrumentFiles", men_1 92 rfl rfl⟩⟩
set_option maxRecDepth 20000 in
theorem fl_IF_123 : FLk "InstrumentFiles" 123 4 6 0 0 (.int) false := ⟨_, _, _, tyF4, rfl, by decide, rfl, rfl, by decide +kernel, rfl, tyF4_ok, nmF4, Or.inr ⟨"InstrumentFiles", men_1 96 rfl rfl⟩⟩
set_option maxRecDepth 20000 in
theorem fl_IF_126 : FLk "InstrumentFiles" 126 4 0 0 0 (.int) false := ⟨_, _, _, tyF4, rfl, by decide, rfl, rfl, by decide +kernel, rfl, tyF4_ok, nmF4, Or.inr ⟨"InstrumentFiles", men_1 75 rfl rfl⟩⟩
set_option maxRecDepth 20000 in
theorem fl_IF_129 : FLk "InstrumentFiles" 129 4 7 0 0 (.int) false := ⟨_, _, _, tyF4, rfl, by decide, rfl, rfl, by decide +kernel, rfl, tyF4_ok, nmF4, Or.inr ⟨"InstrumentFiles", men_1 99 rfl rfl⟩⟩
set_option maxRecDepth 20000 in
theorem fl_IF_136 : FLk "InstrumentFiles" 136 2 0 2 3 (.object "InstrumentFiles$Pool") true := ⟨_, _, _, tyF2, rfl, by decide, rfl, rfl, by decide +kernel, rfl, tyF2_ok, nmF2, Or.inr ⟨"InstrumentFiles", men_1 137 rfl rfl⟩⟩
set_option maxRecDepth 20000 in
theorem fl_IF_183 : FLk "InstrumentFiles" 183 7 9 0 0 (.int) false := ⟨_, _, _, tyF7, rfl, by decide, rfl, rfl, by decide +kernel, rfl, tyF7_ok, nmF7, Or.inr ⟨"InstrumentFiles", men_1 203 rfl rfl⟩⟩
set_option maxRecDepth 20000 in
theorem fl_IF_186 : FLk "InstrumentFiles" 186 7 14 1 0 (.long) false := ⟨_, _, _, tyF7, rfl, by decide, rfl, rfl, by decide +kernel, rfl, tyF7_ok, nmF7, Or.inr ⟨"InstrumentFiles", men_1 213 rfl rfl⟩⟩
set_option maxRecDepth 20000 in
theorem fl_IF_190 : FLk "InstrumentFiles" 190 7 10 0 0 (.int) false := ⟨_, _, _, tyF7, rfl, by decide, rfl, rfl, by decide +kernel, rfl, tyF7_ok, nmF7, Or.inr ⟨"InstrumentFiles", men_1 205 rfl rfl⟩⟩
set_option maxRecDepth 20000 in
theorem fl_IF_193 : FLk "InstrumentFiles" 193 7 11 0 0 (.int) false := ⟨_, _, _, tyF7, rfl, by decide, rfl, rfl, by decide +kernel, rfl, tyF7_ok, nmF7, Or.inr ⟨"InstrumentFiles", men_1 207 rfl rfl⟩⟩
set_option maxRecDepth 20000 in
theorem fl_IF_196 : FLk "InstrumentFiles" 196 7 12 0 0 (.int) false := ⟨_, _, _, tyF7, rfl, by decide, rfl, rfl, by decide +kernel, rfl, tyF7_ok, nmF7, Or.inr ⟨"InstrumentFiles", men_1 209 rfl rfl⟩⟩
set_option maxRecDepth 20000 in
theorem fl_IF_199 : FLk "InstrumentFiles" 199 7 13 0 0 (.int) false := ⟨_, _, _, tyF7, rfl, by decide, rfl, rfl, by decide +kernel, rfl, tyF7_ok, nmF7, Or.inr ⟨"InstrumentFiles", men_1 211 rfl rfl⟩⟩
set_option maxRecDepth 20000 in
theorem fl_IF_202 : FLk "InstrumentFiles" 202 3 3 0 0 (.int) false := ⟨_, _, _, tyF3, rfl, by decide, rfl, rfl, by decide +kernel, rfl, tyF3_ok, nmF3, Or.inr ⟨"InstrumentFiles", men_1 55 rfl rfl⟩⟩
set_option maxRecDepth 20000 in
theorem fl_IF_205 : FLk "InstrumentFiles" 205 2 2 0 0 (.int) false := ⟨_, _, _, tyF2, rfl, by decide, rfl, rfl, by decide +kernel, rfl, tyF2_ok, nmF2, Or.inr ⟨"InstrumentFiles", men_1 142 rfl rfl⟩⟩
set_option maxRecDepth 20000 in
theorem fl_Judge_20 : FLk "InstrumentFiles$Judge" 20 4 8 0 0 (.int) false := ⟨_, _, _, tyF4, rfl, by decide, rfl, rfl, by decide +kernel, rfl, tyF4_ok, nmF4, Or.inr ⟨"InstrumentFiles", men_1 100 rfl rfl⟩⟩
set_option maxRecDepth 20000 in
theorem fl_Judge_24 : FLk "InstrumentFiles$Judge" 24 6 1 0 0 (.int) false := ⟨_, _, _, tyF6, rfl, by decide, rfl, rfl, by decide +kernel, rfl, tyF6_ok, nmF6, Or.inl (mem_1 178 rfl rfl)⟩
set_option maxRecDepth 20000 in
theorem fl_Judge_29 : FLk "InstrumentFiles$Judge" 29 6 2 3 0 (.boolean) false := ⟨_, _, _, tyF6, rfl, by decide, rfl, rfl, by decide +kernel, rfl, tyF6_ok, nmF6, Or.inl (mem_1 179 rfl rfl)⟩
set_option maxRecDepth 20000 in
theorem fl_Judge_33 : FLk "InstrumentFiles$Judge" 33 4 5 0 0 (.int) false := ⟨_, _, _, tyF4, rfl, by decide, rfl, rfl, by decide +kernel, rfl, tyF4_ok, nmF4, Or.inr ⟨"InstrumentFiles", men_1 89 rfl rfl⟩⟩
set_option maxRecDepth 20000 in
theorem fl_Judge_36 : FLk "InstrumentFiles$Judge" 36 6 0 0 0 (.int) false := ⟨_, _, _, tyF6, rfl, by decide, rfl, rfl, by decide +kernel, rfl, tyF6_ok, nmF6, Or.inl (mem_1 176 rfl rfl)⟩
set_option maxRecDepth 20000 in
theorem fl_Judge_57 : FLk "InstrumentFiles$Judge" 57 4 6 0 0 (.int) false := ⟨_, _, _, tyF4, rfl, by decide, rfl, rfl, by decide +kernel, rfl, tyF4_ok, nmF4, Or.inr ⟨"InstrumentFiles", men_1 93 rfl rfl⟩⟩
set_option maxRecDepth 20000 in
theorem fl_Judge_111 : FLk "InstrumentFiles$Judge" 111 2 0 2 3 (.object "InstrumentFiles$Pool") true := ⟨_, _, _, tyF2, rfl, by decide, rfl, rfl, by decide +kernel, rfl, tyF2_ok, nmF2, Or.inr ⟨"InstrumentFiles", men_1 136 rfl rfl⟩⟩
set_option maxRecDepth 20000 in
theorem fl_Judge_123 : FLk "InstrumentFiles$Judge" 123 4 3 0 0 (.int) false := ⟨_, _, _, tyF4, rfl, by decide, rfl, rfl, by decide +kernel, rfl, tyF4_ok, nmF4, Or.inr ⟨"InstrumentFiles", men_1 83 rfl rfl⟩⟩
set_option maxRecDepth 20000 in
theorem fl_Judge_129 : FLk "InstrumentFiles$Judge" 129 4 1 0 0 (.int) false := ⟨_, _, _, tyF4, rfl, by decide, rfl, rfl, by decide +kernel, rfl, tyF4_ok, nmF4, Or.inr ⟨"InstrumentFiles", men_1 77 rfl rfl⟩⟩
set_option maxRecDepth 20000 in
theorem fl_Judge_139 : FLk "InstrumentFiles$Judge" 139 4 2 0 0 (.int) false := ⟨_, _, _, tyF4, rfl, by decide, rfl, rfl, by decide +kernel, rfl, tyF4_ok, nmF4, Or.inr ⟨"InstrumentFiles", men_1 81 rfl rfl⟩⟩
set_option maxRecDepth 20000 in
theorem fl_Judge_169 : FLk "InstrumentFiles$Judge" 169 4 4 0 0 (.int) false := ⟨_, _, _, tyF4, rfl, by decide, rfl, rfl, by decide +kernel, rfl, tyF4_ok, nmF4, Or.inr ⟨"InstrumentFiles", men_1 88 rfl rfl⟩⟩
set_option maxRecDepth 20000 in
theorem fl_M_7 : FLk "InstrumentFilesModel" 7 8 0 2 24 (.array .int) true := ⟨_, _, _, tyF8, rfl, by decide, rfl, rfl, by decide +kernel, rfl, tyF8_ok, nmF8, Or.inl (mem_4 71 rfl rfl)⟩
set_option maxRecDepth 20000 in
theorem fl_M_13 : FLk "InstrumentFilesModel" 13 8 2 2 25 (.array .double) true := ⟨_, _, _, tyF8, rfl, by decide, rfl, rfl, by decide +kernel, rfl, tyF8_ok, nmF8, Or.inl (mem_4 73 rfl rfl)⟩
set_option maxRecDepth 20000 in
theorem fl_M_17 : FLk "InstrumentFilesModel" 17 8 5 2 26 (.array .int) true := ⟨_, _, _, tyF8, rfl, by decide, rfl, rfl, by decide +kernel, rfl, tyF8_ok, nmF8, Or.inl (mem_4 76 rfl rfl)⟩
set_option maxRecDepth 20000 in
theorem fl_M_20 : FLk "InstrumentFilesModel" 20 8 6 2 27 (.array .long) true := ⟨_, _, _, tyF8, rfl, by decide, rfl, rfl, by decide +kernel, rfl, tyF8_ok, nmF8, Or.inl (mem_4 77 rfl rfl)⟩
set_option maxRecDepth 20000 in
theorem fl_M_24 : FLk "InstrumentFilesModel" 24 8 7 2 28 (.array .int) true := ⟨_, _, _, tyF8, rfl, by decide, rfl, rfl, by decide +kernel, rfl, tyF8_ok, nmF8, Or.inl (mem_4 78 rfl rfl)⟩
set_option maxRecDepth 20000 in
theorem fl_M_27 : FLk "InstrumentFilesModel" 27 8 8 2 29 (.array .int) true := ⟨_, _, _, tyF8, rfl, by decide, rfl, rfl, by decide +kernel, rfl, tyF8_ok, nmF8, Or.inl (mem_4 79 rfl rfl)⟩
set_option maxRecDepth 20000 in
theorem fl_M_30 : FLk "InstrumentFilesModel" 30 8 10 2 30 (.array .int) true := ⟨_, _, _, tyF8, rfl, by decide, rfl, rfl, by decide +kernel, rfl, tyF8_ok, nmF8, Or.inl (mem_4 81 rfl rfl)⟩
set_option maxRecDepth 20000 in
theorem fl_M_33 : FLk "InstrumentFilesModel" 33 8 11 2 31 (.array .int) true := ⟨_, _, _, tyF8, rfl, by decide, rfl, rfl, by decide +kernel, rfl, tyF8_ok, nmF8, Or.inl (mem_4 82 rfl rfl)⟩
set_option maxRecDepth 20000 in
theorem fl_M_36 : FLk "InstrumentFilesModel" 36 8 12 2 32 (.array .int) true := ⟨_, _, _, tyF8, rfl, by decide, rfl, rfl, by decide +kernel, rfl, tyF8_ok, nmF8, Or.inl (mem_4 83 rfl rfl)⟩
set_option maxRecDepth 20000 in
theorem fl_M_39 : FLk "InstrumentFilesModel" 39 8 13 2 33 (.array .int) true := ⟨_, _, _, tyF8, rfl, by decide, rfl, rfl, by decide +kernel, rfl, tyF8_ok, nmF8, Or.inl (mem_4 84 rfl rfl)⟩
set_option maxRecDepth 20000 in
theorem fl_M_42 : FLk "InstrumentFilesModel" 42 8 14 2 34 (.array .int) true := ⟨_, _, _, tyF8, rfl, by decide, rfl, rfl, by decide +kernel, rfl, tyF8_ok, nmF8, Or.inl (mem_4 85 rfl rfl)⟩
set_option maxRecDepth 20000 in
theorem fl_M_45 : FLk "InstrumentFilesModel" 45 8 15 2 35 (.array .int) true := ⟨_, _, _, tyF8, rfl, by decide, rfl, rfl, by decide +kernel, rfl, tyF8_ok, nmF8, Or.inl (mem_4 86 rfl rfl)⟩
set_option maxRecDepth 20000 in
theorem fl_M_48 : FLk "InstrumentFilesModel" 48 8 16 2 36 (.array .int) true := ⟨_, _, _, tyF8, rfl, by decide, rfl, rfl, by decide +kernel, rfl, tyF8_ok, nmF8, Or.inl (mem_4 87 rfl rfl)⟩
set_option maxRecDepth 20000 in
theorem fl_M_51 : FLk "InstrumentFilesModel" 51 8 17 2 37 (.array .int) true := ⟨_, _, _, tyF8, rfl, by decide, rfl, rfl, by decide +kernel, rfl, tyF8_ok, nmF8, Or.inl (mem_4 88 rfl rfl)⟩
set_option maxRecDepth 20000 in
theorem fl_M_54 : FLk "InstrumentFilesModel" 54 8 18 2 38 (.array .int) true := ⟨_, _, _, tyF8, rfl, by decide, rfl, rfl, by decide +kernel, rfl, tyF8_ok, nmF8, Or.inl (mem_4 89 rfl rfl)⟩
set_option maxRecDepth 20000 in
theorem fl_M_57 : FLk "InstrumentFilesModel" 57 8 19 2 39 (.array .int) true := ⟨_, _, _, tyF8, rfl, by decide, rfl, rfl, by decide +kernel, rfl, tyF8_ok, nmF8, Or.inl (mem_4 90 rfl rfl)⟩
set_option maxRecDepth 20000 in
theorem fl_M_60 : FLk "InstrumentFilesModel" 60 8 20 2 40 (.array .int) true := ⟨_, _, _, tyF8, rfl, by decide, rfl, rfl, by decide +kernel, rfl, tyF8_ok, nmF8, Or.inl (mem_4 91 rfl rfl)⟩
set_option maxRecDepth 20000 in
theorem fl_M_63 : FLk "InstrumentFilesModel" 63 8 21 2 41 (.array .int) true := ⟨_, _, _, tyF8, rfl, by decide, rfl, rfl, by decide +kernel, rfl, tyF8_ok, nmF8, Or.inl (mem_4 92 rfl rfl)⟩
set_option maxRecDepth 20000 in
theorem fl_M_66 : FLk "InstrumentFilesModel" 66 8 22 2 42 (.array .int) true := ⟨_, _, _, tyF8, rfl, by decide, rfl, rfl, by decide +kernel, rfl, tyF8_ok, nmF8, Or.inl (mem_4 93 rfl rfl)⟩
set_option maxRecDepth 20000 in
theorem fl_M_69 : FLk "InstrumentFilesModel" 69 8 23 2 43 (.array .boolean) true := ⟨_, _, _, tyF8, rfl, by decide, rfl, rfl, by decide +kernel, rfl, tyF8_ok, nmF8, Or.inl (mem_4 94 rfl rfl)⟩
set_option maxRecDepth 20000 in
theorem fl_M_73 : FLk "InstrumentFilesModel" 73 8 24 2 44 (.array .int) true := ⟨_, _, _, tyF8, rfl, by decide, rfl, rfl, by decide +kernel, rfl, tyF8_ok, nmF8, Or.inl (mem_4 95 rfl rfl)⟩
set_option maxRecDepth 20000 in
theorem fl_M_76 : FLk "InstrumentFilesModel" 76 8 25 2 45 (.array .int) true := ⟨_, _, _, tyF8, rfl, by decide, rfl, rfl, by decide +kernel, rfl, tyF8_ok, nmF8, Or.inl (mem_4 96 rfl rfl)⟩
set_option maxRecDepth 20000 in
theorem fl_M_79 : FLk "InstrumentFilesModel" 79 8 26 2 46 (.array .int) true := ⟨_, _, _, tyF8, rfl, by decide, rfl, rfl, by decide +kernel, rfl, tyF8_ok, nmF8, Or.inl (mem_4 97 rfl rfl)⟩
set_option maxRecDepth 20000 in
theorem fl_M_82 : FLk "InstrumentFilesModel" 82 8 27 2 47 (.array .int) true := ⟨_, _, _, tyF8, rfl, by decide, rfl, rfl, by decide +kernel, rfl, tyF8_ok, nmF8, Or.inl (mem_4 98 rfl rfl)⟩
set_option maxRecDepth 20000 in
theorem fl_M_85 : FLk "InstrumentFilesModel" 85 8 34 2 48 (.array .int) true := ⟨_, _, _, tyF8, rfl, by decide, rfl, rfl, by decide +kernel, rfl, tyF8_ok, nmF8, Or.inl (mem_4 105 rfl rfl)⟩
set_option maxRecDepth 20000 in
theorem fl_M_88 : FLk "InstrumentFilesModel" 88 8 35 2 49 (.array .int) true := ⟨_, _, _, tyF8, rfl, by decide, rfl, rfl, by decide +kernel, rfl, tyF8_ok, nmF8, Or.inl (mem_4 106 rfl rfl)⟩
set_option maxRecDepth 20000 in
theorem fl_M_91 : FLk "InstrumentFilesModel" 91 8 37 2 50 (.array .int) true := ⟨_, _, _, tyF8, rfl, by decide, rfl, rfl, by decide +kernel, rfl, tyF8_ok, nmF8, Or.inl (mem_4 108 rfl rfl)⟩
set_option maxRecDepth 20000 in
theorem fl_M_94 : FLk "InstrumentFilesModel" 94 8 38 2 51 (.array .int) true := ⟨_, _, _, tyF8, rfl, by decide, rfl, rfl, by decide +kernel, rfl, tyF8_ok, nmF8, Or.inl (mem_4 109 rfl rfl)⟩
set_option maxRecDepth 20000 in
theorem fl_M_97 : FLk "InstrumentFilesModel" 97 8 39 2 52 (.array .int) true := ⟨_, _, _, tyF8, rfl, by decide, rfl, rfl, by decide +kernel, rfl, tyF8_ok, nmF8, Or.inl (mem_4 110 rfl rfl)⟩
set_option maxRecDepth 20000 in
theorem fl_M_100 : FLk "InstrumentFilesModel" 100 8 40 2 53 (.array .int) true := ⟨_, _, _, tyF8, rfl, by decide, rfl, rfl, by decide +kernel, rfl, tyF8_ok, nmF8, Or.inl (mem_4 111 rfl rfl)⟩
set_option maxRecDepth 20000 in
theorem fl_M_103 : FLk "InstrumentFilesModel" 103 8 41 2 54 (.array .double) true := ⟨_, _, _, tyF8, rfl, by decide, rfl, rfl, by decide +kernel, rfl, tyF8_ok, nmF8, Or.inl (mem_4 112 rfl rfl)⟩
set_option maxRecDepth 20000 in
theorem fl_M_110 : FLk "InstrumentFilesModel" 110 8 1 0 0 (.int) false := ⟨_, _, _, tyF8, rfl, by decide, rfl, rfl, by decide +kernel, rfl, tyF8_ok, nmF8, Or.inl (mem_4 72 rfl rfl)⟩
set_option maxRecDepth 20000 in
theorem fl_M_118 : FLk "InstrumentFilesModel" 118 8 28 0 0 (.int) false := ⟨_, _, _, tyF8, rfl, by decide, rfl, rfl, by decide +kernel, rfl, tyF8_ok, nmF8, Or.inl (mem_4 99 rfl rfl)⟩
set_option maxRecDepth 20000 in
theorem fl_M_121 : FLk "InstrumentFilesModel" 121 8 29 0 0 (.int) false := ⟨_, _, _, tyF8, rfl, by decide, rfl, rfl, by decide +kernel, rfl, tyF8_ok, nmF8, Or.inl (mem_4 100 rfl rfl)⟩
set_option maxRecDepth 20000 in
theorem fl_M_124 : FLk "InstrumentFilesModel" 124 8 31 0 0 (.int) false := ⟨_, _, _, tyF8, rfl, by decide, rfl, rfl, by decide +kernel, rfl, tyF8_ok, nmF8, Or.inl (mem_4 102 rfl rfl)⟩
set_option maxRecDepth 20000 in
theorem fl_M_138 : FLk "InstrumentFilesModel" 138 8 4 0 0 (.int) false := ⟨_, _, _, tyF8, rfl, by decide, rfl, rfl, by decide +kernel, rfl, tyF8_ok, nmF8, Or.inl (mem_4 75 rfl rfl)⟩
set_option maxRecDepth 20000 in
theorem fl_M_156 : FLk "InstrumentFilesModel" 156 8 3 0 0 (.int) false := ⟨_, _, _, tyF8, rfl, by decide, rfl, rfl, by decide +kernel, rfl, tyF8_ok, nmF8, Or.inl (mem_4 74 rfl rfl)⟩
set_option maxRecDepth 20000 in
theorem fl_M_162 : FLk "InstrumentFilesModel" 162 8 9 0 0 (.int) false := ⟨_, _, _, tyF8, rfl, by decide, rfl, rfl, by decide +kernel, rfl, tyF8_ok, nmF8, Or.inl (mem_4 80 rfl rfl)⟩
set_option maxRecDepth 20000 in
theorem fl_M_168 : FLk "InstrumentFilesModel" 168 8 30 0 0 (.int) false := ⟨_, _, _, tyF8, rfl, by decide, rfl, rfl, by decide +kernel, rfl, tyF8_ok, nmF8, Or.inl (mem_4 101 rfl rfl)⟩
set_option maxRecDepth 20000 in
theorem fl_M_177 : FLk "InstrumentFilesModel" 177 8 33 0 0 (.int) false := ⟨_, _, _, tyF8, rfl, by decide, rfl, rfl, by decide +kernel, rfl, tyF8_ok, nmF8, Or.inl (mem_4 104 rfl rfl)⟩
set_option maxRecDepth 20000 in
theorem fl_M_180 : FLk "InstrumentFilesModel" 180 8 32 3 0 (.boolean) false := ⟨_, _, _, tyF8, rfl, by decide, rfl, rfl, by decide +kernel, rfl, tyF8_ok, nmF8, Or.inl (mem_4 103 rfl rfl)⟩
set_option maxRecDepth 20000 in
theorem fl_M_243 : FLk "InstrumentFilesModel" 243 8 36 0 0 (.int) false := ⟨_, _, _, tyF8, rfl, by decide, rfl, rfl, by decide +kernel, rfl, tyF8_ok, nmF8, Or.inl (mem_4 107 rfl rfl)⟩
set_option maxRecDepth 20000 in
theorem fl_M_246 : FLk "InstrumentFilesModel" 246 8 48 0 0 (.int) false := ⟨_, _, _, tyF8, rfl, by decide, rfl, rfl, by decide +kernel, rfl, tyF8_ok, nmF8, Or.inl (mem_4 119 rfl rfl)⟩
set_option maxRecDepth 20000 in
theorem fl_M_249 : FLk "InstrumentFilesModel" 249 8 44 0 0 (.int) false := ⟨_, _, _, tyF8, rfl, by decide, rfl, rfl, by decide +kernel, rfl, tyF8_ok, nmF8, Or.inl (mem_4 115 rfl rfl)⟩
set_option maxRecDepth 20000 in
theorem fl_M_252 : FLk "InstrumentFilesModel" 252 8 47 0 0 (.int) false := ⟨_, _, _, tyF8, rfl, by decide, rfl, rfl, by decide +kernel, rfl, tyF8_ok, nmF8, Or.inl (mem_4 118 rfl rfl)⟩
set_option maxRecDepth 20000 in
theorem fl_M_255 : FLk "InstrumentFilesModel" 255 8 42 3 0 (.boolean) false := ⟨_, _, _, tyF8, rfl, by decide, rfl, rfl, by decide +kernel, rfl, tyF8_ok, nmF8, Or.inl (mem_4 113 rfl rfl)⟩
set_option maxRecDepth 20000 in
theorem fl_M_258 : FLk "InstrumentFilesModel" 258 8 43 1 0 (.long) false := ⟨_, _, _, tyF8, rfl, by decide, rfl, rfl, by decide +kernel, rfl, tyF8_ok, nmF8, Or.inl (mem_4 114 rfl rfl)⟩
set_option maxRecDepth 20000 in
theorem fl_M_262 : FLk "InstrumentFilesModel" 262 8 45 0 0 (.int) false := ⟨_, _, _, tyF8, rfl, by decide, rfl, rfl, by decide +kernel, rfl, tyF8_ok, nmF8, Or.inl (mem_4 116 rfl rfl)⟩
set_option maxRecDepth 20000 in
theorem fl_M_265 : FLk "InstrumentFilesModel" 265 8 46 0 0 (.int) false := ⟨_, _, _, tyF8, rfl, by decide, rfl, rfl, by decide +kernel, rfl, tyF8_ok, nmF8, Or.inl (mem_4 117 rfl rfl)⟩
set_option maxRecDepth 20000 in
theorem fl_Mach_11 : FLk "InstrumentFiles$Machine" 11 7 0 2 18 (.array .long) true := ⟨_, _, _, tyF7, rfl, by decide, rfl, rfl, by decide +kernel, rfl, tyF7_ok, nmF7, Or.inl (mem_1 193 rfl rfl)⟩
set_option maxRecDepth 20000 in
theorem fl_Mach_15 : FLk "InstrumentFiles$Machine" 15 7 1 2 19 (.array .long) true := ⟨_, _, _, tyF7, rfl, by decide, rfl, rfl, by decide +kernel, rfl, tyF7_ok, nmF7, Or.inl (mem_1 194 rfl rfl)⟩
set_option maxRecDepth 20000 in
theorem fl_Mach_18 : FLk "InstrumentFiles$Machine" 18 7 2 2 20 (.array .long) true := ⟨_, _, _, tyF7, rfl, by decide, rfl, rfl, by decide +kernel, rfl, tyF7_ok, nmF7, Or.inl (mem_1 195 rfl rfl)⟩
set_option maxRecDepth 20000 in
theorem fl_Mach_21 : FLk "InstrumentFiles$Machine" 21 7 3 2 21 (.array .int) true := ⟨_, _, _, tyF7, rfl, by decide, rfl, rfl, by decide +kernel, rfl, tyF7_ok, nmF7, Or.inl (mem_1 196 rfl rfl)⟩
set_option maxRecDepth 20000 in
theorem fl_Mach_25 : FLk "InstrumentFiles$Machine" 25 7 4 2 22 (.array .int) true := ⟨_, _, _, tyF7, rfl, by decide, rfl, rfl, by decide +kernel, rfl, tyF7_ok, nmF7, Or.inl (mem_1 197 rfl rfl)⟩
set_option maxRecDepth 20000 in
theorem fl_Mach_28 : FLk "InstrumentFiles$Machine" 28 7 5 2 23 (.array .int) true := ⟨_, _, _, tyF7, rfl, by decide, rfl, rfl, by decide +kernel, rfl, tyF7_ok, nmF7, Or.inl (mem_1 198 rfl rfl)⟩
set_option maxRecDepth 20000 in
theorem fl_Mach_31 : FLk "InstrumentFiles$Machine" 31 7 9 0 0 (.int) false := ⟨_, _, _, tyF7, rfl, by decide, rfl, rfl, by decide +kernel, rfl, tyF7_ok, nmF7, Or.inl (mem_1 202 rfl rfl)⟩
set_option maxRecDepth 20000 in
theorem fl_Mach_35 : FLk "InstrumentFiles$Machine" 35 7 10 0 0 (.int) false := ⟨_, _, _, tyF7, rfl, by decide, rfl, rfl, by decide +kernel, rfl, tyF7_ok, nmF7, Or.inl (mem_1 204 rfl rfl)⟩
set_option maxRecDepth 20000 in
theorem fl_Mach_38 : FLk "InstrumentFiles$Machine" 38 7 11 0 0 (.int) false := ⟨_, _, _, tyF7, rfl, by decide, rfl, rfl, by decide +kernel, rfl, tyF7_ok, nmF7, Or.inl (mem_1 206 rfl rfl)⟩
set_option maxRecDepth 20000 in
theorem fl_Mach_41 : FLk "InstrumentFiles$Machine" 41 7 12 0 0 (.int) false := ⟨_, _, _, tyF7, rfl, by decide, rfl, rfl, by decide +kernel, rfl, tyF7_ok, nmF7, Or.inl (mem_1 208 rfl rfl)⟩
set_option maxRecDepth 20000 in
theorem fl_Mach_44 : FLk "InstrumentFiles$Machine" 44 7 13 0 0 (.int) false := ⟨_, _, _, tyF7, rfl, by decide, rfl, rfl, by decide +kernel, rfl, tyF7_ok, nmF7, Or.inl (mem_1 210 rfl rfl)⟩
set_option maxRecDepth 20000 in
theorem fl_Mach_47 : FLk "InstrumentFiles$Machine" 47 7 14 1 0 (.long) false := ⟨_, _, _, tyF7, rfl, by decide, rfl, rfl, by decide +kernel, rfl, tyF7_ok, nmF7, Or.inl (mem_1 212 rfl rfl)⟩
set_option maxRecDepth 20000 in
theorem fl_Mach_51 : FLk "InstrumentFiles$Machine" 51 7 7 0 0 (.int) false := ⟨_, _, _, tyF7, rfl, by decide, rfl, rfl, by decide +kernel, rfl, tyF7_ok, nmF7, Or.inl (mem_1 200 rfl rfl)⟩
set_option maxRecDepth 20000 in
theorem fl_Mach_54 : FLk "InstrumentFiles$Machine" 54 7 6 0 0 (.int) false := ⟨_, _, _, tyF7, rfl, by decide, rfl, rfl, by decide +kernel, rfl, tyF7_ok, nmF7, Or.inl (mem_1 199 rfl rfl)⟩
set_option maxRecDepth 20000 in
theorem fl_Mach_61 : FLk "InstrumentFiles$Machine" 61 4 1 0 0 (.int) false := ⟨_, _, _, tyF4, rfl, by decide, rfl, rfl, by decide +kernel, rfl, tyF4_ok, nmF4, Or.inr ⟨"InstrumentFiles", men_1 76 rfl rfl⟩⟩
set_option maxRecDepth 20000 in
theorem fl_Mach_88 : FLk "InstrumentFiles$Machine" 88 7 8 0 0 (.int) false := ⟨_, _, _, tyF7, rfl, by decide, rfl, rfl, by decide +kernel, rfl, tyF7_ok, nmF7, Or.inl (mem_1 201 rfl rfl)⟩
set_option maxRecDepth 20000 in
theorem fl_Mach_129 : FLk "InstrumentFiles$Machine" 129 2 0 2 3 (.object "InstrumentFiles$Pool") true := ⟨_, _, _, tyF2, rfl, by decide, rfl, rfl, by decide +kernel, rfl, tyF2_ok, nmF2, Or.inr ⟨"InstrumentFiles", men_1 138 rfl rfl⟩⟩
set_option maxRecDepth 20000 in
theorem fl_Meth_9 : FLk "InstrumentFiles$Method" 9 4 9 2 14 (.array .int) true := ⟨_, _, _, tyF4, rfl, by decide, rfl, rfl, by decide +kernel, rfl, tyF4_ok, nmF4, Or.inl (mem_1 103 rfl rfl)⟩
set_option maxRecDepth 20000 in
theorem fl_Meth_15 : FLk "InstrumentFiles$Method" 15 4 10 2 15 (.array .int) true := ⟨_, _, _, tyF4, rfl, by decide, rfl, rfl, by decide +kernel, rfl, tyF4_ok, nmF4, Or.inl (mem_1 104 rfl rfl)⟩
set_option maxRecDepth 20000 in
theorem fl_Meth_18 : FLk "InstrumentFiles$Method" 18 4 11 2 16 (.array .int) true := ⟨_, _, _, tyF4, rfl, by decide, rfl, rfl, by decide +kernel, rfl, tyF4_ok, nmF4, Or.inl (mem_1 105 rfl rfl)⟩
set_option maxRecDepth 20000 in
theorem fl_Meth_21 : FLk "InstrumentFiles$Method" 21 4 12 2 17 (.array .int) true := ⟨_, _, _, tyF4, rfl, by decide, rfl, rfl, by decide +kernel, rfl, tyF4_ok, nmF4, Or.inl (mem_1 106 rfl rfl)⟩
set_option maxRecDepth 20000 in
theorem fl_Meth_24 : FLk "InstrumentFiles$Method" 24 4 7 0 0 (.int) false := ⟨_, _, _, tyF4, rfl, by decide, rfl, rfl, by decide +kernel, rfl, tyF4_ok, nmF4, Or.inl (mem_1 97 rfl rfl)⟩
set_option maxRecDepth 20000 in
theorem fl_Meth_28 : FLk "InstrumentFiles$Method" 28 4 8 0 0 (.int) false := ⟨_, _, _, tyF4, rfl, by decide, rfl, rfl, by decide +kernel, rfl, tyF4_ok, nmF4, Or.inl (mem_1 101 rfl rfl)⟩
set_option maxRecDepth 20000 in
theorem fl_Meth_37 : FLk "InstrumentFiles$Method" 37 4 5 0 0 (.int) false := ⟨_, _, _, tyF4, rfl, by decide, rfl, rfl, by decide +kernel, rfl, tyF4_ok, nmF4, Or.inl (mem_1 90 rfl rfl)⟩
set_option maxRecDepth 20000 in
theorem fl_Meth_40 : FLk "InstrumentFiles$Method" 40 4 6 0 0 (.int) false := ⟨_, _, _, tyF4, rfl, by decide, rfl, rfl, by decide +kernel, rfl, tyF4_ok, nmF4, Or.inl (mem_1 94 rfl rfl)⟩
set_option maxRecDepth 20000 in
theorem sl_Ops_13 : Cond.fieldLink "InstrumentFiles$Ops" 13 "InstrumentFiles$Ops" (stn 0) "[I" ∈ lw_gd := mem_3 29 rfl rfl
set_option maxRecDepth 20000 in
theorem sl_Ops_17 : Cond.fieldLink "InstrumentFiles$Ops" 17 "InstrumentFiles$Ops" (stn 1) "[I" ∈ lw_gd := mem_3 34 rfl rfl
set_option maxRecDepth 20000 in
theorem sl_Ops_20 : Cond.fieldLink "InstrumentFiles$Ops" 20 "InstrumentFiles$Ops" (stn 2) "[I" ∈ lw_gd := mem_3 41 rfl rfl
set_option maxRecDepth 20000 in
theorem fl_Pool_9 : FLk "InstrumentFiles$Pool" 9 3 0 2 11 (.array .int) true := ⟨_, _, _, tyF3, rfl, by decide, rfl, rfl, by decide +kernel, rfl, tyF3_ok, nmF3, Or.inl (mem_1 50 rfl rfl)⟩
set_option maxRecDepth 20000 in
theorem fl_Pool_15 : FLk "InstrumentFiles$Pool" 15 3 1 2 12 (.array .int) true := ⟨_, _, _, tyF3, rfl, by decide, rfl, rfl, by decide +kernel, rfl, tyF3_ok, nmF3, Or.inl (mem_1 51 rfl rfl)⟩
set_option maxRecDepth 20000 in
theorem fl_Pool_18 : FLk "InstrumentFiles$Pool" 18 3 2 2 13 (.array .long) true := ⟨_, _, _, tyF3, rfl, by decide, rfl, rfl, by decide +kernel, rfl, tyF3_ok, nmF3, Or.inl (mem_1 52 rfl rfl)⟩
set_option maxRecDepth 20000 in
theorem fl_Pool_22 : FLk "InstrumentFiles$Pool" 22 3 3 0 0 (.int) false := ⟨_, _, _, tyF3, rfl, by decide, rfl, rfl, by decide +kernel, rfl, tyF3_ok, nmF3, Or.inl (mem_1 53 rfl rfl)⟩
set_option maxRecDepth 20000 in
theorem fl_Prog_12 : FLk "InstrumentFiles$Program" 12 2 0 2 3 (.object "InstrumentFiles$Pool") true := ⟨_, _, _, tyF2, rfl, by decide, rfl, rfl, by decide +kernel, rfl, tyF2_ok, nmF2, Or.inl (mem_1 134 rfl rfl)⟩
set_option maxRecDepth 20000 in
theorem fl_Prog_20 : FLk "InstrumentFiles$Program" 20 2 1 2 10 (.array (.object "InstrumentFiles$Method")) true := ⟨_, _, _, tyF2, rfl, by decide, rfl, rfl, by decide +kernel, rfl, tyF2_ok, nmF2, Or.inl (mem_1 139 rfl rfl)⟩
set_option maxRecDepth 20000 in
theorem fl_Prog_25 : FLk "InstrumentFiles$Program" 25 2 2 0 0 (.int) false := ⟨_, _, _, tyF2, rfl, by decide, rfl, rfl, by decide +kernel, rfl, tyF2_ok, nmF2, Or.inl (mem_1 140 rfl rfl)⟩
set_option maxRecDepth 20000 in
theorem fl_Prog_29 : FLk "InstrumentFiles$Program" 29 2 3 0 0 (.int) false := ⟨_, _, _, tyF2, rfl, by decide, rfl, rfl, by decide +kernel, rfl, tyF2_ok, nmF2, Or.inl (mem_1 143 rfl rfl)⟩
set_option maxRecDepth 20000 in
theorem fl_Prog_32 : FLk "InstrumentFiles$Program" 32 3 3 0 0 (.int) false := ⟨_, _, _, tyF3, rfl, by decide, rfl, rfl, by decide +kernel, rfl, tyF3_ok, nmF3, Or.inr ⟨"InstrumentFiles", men_1 54 rfl rfl⟩⟩
set_option maxRecDepth 20000 in
theorem fl_Prog_43 : FLk "InstrumentFiles$Program" 43 4 0 0 0 (.int) false := ⟨_, _, _, tyF4, rfl, by decide, rfl, rfl, by decide +kernel, rfl, tyF4_ok, nmF4, Or.inr ⟨"InstrumentFiles", men_1 73 rfl rfl⟩⟩
set_option maxRecDepth 20000 in
theorem fl_Read_9 : FLk "InstrumentFiles$Reader" 9 5 0 0 0 (.int) false := ⟨_, _, _, tyF5, rfl, by decide, rfl, rfl, by decide +kernel, rfl, tyF5_ok, nmF5, Or.inl (mem_1 161 rfl rfl)⟩
set_option maxRecDepth 20000 in
theorem fl_Read_15 : FLk "InstrumentFiles$Reader" 15 5 1 0 0 (.int) false := ⟨_, _, _, tyF5, rfl, by decide, rfl, rfl, by decide +kernel, rfl, tyF5_ok, nmF5, Or.inl (mem_1 163 rfl rfl)⟩
set_option maxRecDepth 20000 in
theorem fl_Read_27 : FLk "InstrumentFiles$Reader" 27 2 2 0 0 (.int) false := ⟨_, _, _, tyF2, rfl, by decide, rfl, rfl, by decide +kernel, rfl, tyF2_ok, nmF2, Or.inr ⟨"InstrumentFiles", men_1 141 rfl rfl⟩⟩
set_option maxRecDepth 20000 in
theorem fl_Read_30 : FLk "InstrumentFiles$Reader" 30 2 0 2 3 (.object "InstrumentFiles$Pool") true := ⟨_, _, _, tyF2, rfl, by decide, rfl, rfl, by decide +kernel, rfl, tyF2_ok, nmF2, Or.inr ⟨"InstrumentFiles", men_1 135 rfl rfl⟩⟩
set_option maxRecDepth 20000 in
theorem fl_Read_79 : FLk "InstrumentFiles$Reader" 79 4 0 0 0 (.int) false := ⟨_, _, _, tyF4, rfl, by decide, rfl, rfl, by decide +kernel, rfl, tyF4_ok, nmF4, Or.inr ⟨"InstrumentFiles", men_1 74 rfl rfl⟩⟩
set_option maxRecDepth 20000 in
theorem fl_Read_94 : FLk "InstrumentFiles$Reader" 94 2 3 0 0 (.int) false := ⟨_, _, _, tyF2, rfl, by decide, rfl, rfl, by decide +kernel, rfl, tyF2_ok, nmF2, Or.inr ⟨"InstrumentFiles", men_1 144 rfl rfl⟩⟩
set_option maxRecDepth 20000 in
theorem fl_Read_100 : FLk "InstrumentFiles$Reader" 100 4 7 0 0 (.int) false := ⟨_, _, _, tyF4, rfl, by decide, rfl, rfl, by decide +kernel, rfl, tyF4_ok, nmF4, Or.inr ⟨"InstrumentFiles", men_1 98 rfl rfl⟩⟩
set_option maxRecDepth 20000 in
theorem fl_Read_103 : FLk "InstrumentFiles$Reader" 103 4 8 0 0 (.int) false := ⟨_, _, _, tyF4, rfl, by decide, rfl, rfl, by decide +kernel, rfl, tyF4_ok, nmF4, Or.inr ⟨"InstrumentFiles", men_1 102 rfl rfl⟩⟩
set_option maxRecDepth 20000 in
theorem fl_Read_106 : FLk "InstrumentFiles$Reader" 106 4 1 0 0 (.int) false := ⟨_, _, _, tyF4, rfl, by decide, rfl, rfl, by decide +kernel, rfl, tyF4_ok, nmF4, Or.inr ⟨"InstrumentFiles", men_1 78 rfl rfl⟩⟩
set_option maxRecDepth 20000 in
theorem fl_Read_115 : FLk "InstrumentFiles$Reader" 115 4 2 0 0 (.int) false := ⟨_, _, _, tyF4, rfl, by decide, rfl, rfl, by decide +kernel, rfl, tyF4_ok, nmF4, Or.inr ⟨"InstrumentFiles", men_1 80 rfl rfl⟩⟩
set_option maxRecDepth 20000 in
theorem fl_Read_118 : FLk "InstrumentFiles$Reader" 118 4 3 0 0 (.int) false := ⟨_, _, _, tyF4, rfl, by decide, rfl, rfl, by decide +kernel, rfl, tyF4_ok, nmF4, Or.inr ⟨"InstrumentFiles", men_1 84 rfl rfl⟩⟩
set_option maxRecDepth 20000 in
theorem fl_Read_121 : FLk "InstrumentFiles$Reader" 121 4 4 0 0 (.int) false := ⟨_, _, _, tyF4, rfl, by decide, rfl, rfl, by decide +kernel, rfl, tyF4_ok, nmF4, Or.inr ⟨"InstrumentFiles", men_1 86 rfl rfl⟩⟩
set_option maxRecDepth 20000 in
theorem fl_Read_124 : FLk "InstrumentFiles$Reader" 124 4 5 0 0 (.int) false := ⟨_, _, _, tyF4, rfl, by decide, rfl, rfl, by decide +kernel, rfl, tyF4_ok, nmF4, Or.inr ⟨"InstrumentFiles", men_1 91 rfl rfl⟩⟩
set_option maxRecDepth 20000 in
theorem fl_Read_131 : FLk "InstrumentFiles$Reader" 131 4 6 0 0 (.int) false := ⟨_, _, _, tyF4, rfl, by decide, rfl, rfl, by decide +kernel, rfl, tyF4_ok, nmF4, Or.inr ⟨"InstrumentFiles", men_1 95 rfl rfl⟩⟩
set_option maxRecDepth 20000 in
theorem fl_Tape_11 : FLk "InstrumentFiles$Tape" 11 1 0 2 9 (.array .int) true := ⟨_, _, _, tyF1, rfl, by decide, rfl, rfl, by decide +kernel, rfl, tyF1_ok, nmF1, Or.inl (mem_1 29 rfl rfl)⟩
set_option maxRecDepth 20000 in
theorem fl_Tape_15 : FLk "InstrumentFiles$Tape" 15 1 1 0 0 (.int) false := ⟨_, _, _, tyF1, rfl, by decide, rfl, rfl, by decide +kernel, rfl, tyF1_ok, nmF1, Or.inl (mem_1 30 rfl rfl)⟩
set_option maxRecDepth 20000 in
theorem ml_Dbl_7 : Cond.methodLink "InstrumentFiles$Doubles" 7 y_Dbl_isNan ∈ lw_gd := mem_2 100 rfl rfl
set_option maxRecDepth 20000 in
theorem ml_Dbl_21 : Cond.methodLink "InstrumentFiles$Doubles" 21 y_Dbl_canonical ∈ lw_gd := mem_3 220 rfl rfl
set_option maxRecDepth 20000 in
theorem ml_Dbl_25 : Cond.methodLink "InstrumentFiles$Doubles" 25 y_JM_max ∈ lw_gd := mem_3 196 rfl rfl
set_option maxRecDepth 20000 in
theorem ml_Dbl_35 : Cond.methodLink "InstrumentFiles$Doubles" 35 y_Dbl_absolute ∈ lw_gd := mem_3 190 rfl rfl
set_option maxRecDepth 20000 in
theorem ml_Dbl_38 : Cond.methodLink "InstrumentFiles$Doubles" 38 y_Dbl_scaleOf ∈ lw_gd := mem_3 193 rfl rfl
set_option maxRecDepth 20000 in
theorem ml_Dbl_42 : Cond.methodLink "InstrumentFiles$Doubles" 42 y_Dbl_digitsOf ∈ lw_gd := mem_3 197 rfl rfl
set_option maxRecDepth 20000 in
theorem ml_Dbl_45 : Cond.methodLink "InstrumentFiles$Doubles" 45 y_Dbl_shiftedDown ∈ lw_gd := mem_3 202 rfl rfl
set_option maxRecDepth 20000 in
theorem ml_Dbl_49 : Cond.methodLink "InstrumentFiles$Doubles" 49 y_Dbl_rounded ∈ lw_gd := mem_3 206 rfl rfl
set_option maxRecDepth 20000 in
theorem ml_Dbl_53 : Cond.methodLink "InstrumentFiles$Doubles" 53 y_Dbl_leadingZeros ∈ lw_gd := mem_3 209 rfl rfl
set_option maxRecDepth 20000 in
theorem ml_Dbl_56 : Cond.methodLink "InstrumentFiles$Doubles" 56 y_Dbl_productAbove49 ∈ lw_gd := mem_3 224 rfl rfl
set_option maxRecDepth 20000 in
theorem ml_Dbl_62 : Cond.methodLink "InstrumentFiles$Doubles" 62 y_Dbl_quotientWith60 ∈ lw_gd := mem_3 231 rfl rfl
set_option maxRecDepth 20000 in
theorem ml_Dbl_65 : Cond.methodLink "InstrumentFiles$Doubles" 65 y_Dbl_rootWith29 ∈ lw_gd := mem_4 22 rfl rfl
set_option maxRecDepth 20000 in
theorem ml_Dbl_76 : Cond.methodLink "InstrumentFiles$Doubles" 76 y_JM_abs ∈ lw_gd := mem_4 1 rfl rfl
set_option maxRecDepth 20000 in
theorem ml_Dbl_83 : Cond.methodLink "InstrumentFiles$Doubles" 83 y_JM_min ∈ lw_gd := mem_3 212 rfl rfl
set_option maxRecDepth 20000 in
theorem ml_IF_18 : Cond.methodLink "InstrumentFiles" 18 y_Prog_init ∈ lw_gd := mem_1 40 rfl rfl
set_option maxRecDepth 20000 in
theorem ml_IF_48 : Cond.methodLink "InstrumentFiles" 48 y_Tape_append ∈ lw_gd := mem_2 31 rfl rfl
set_option maxRecDepth 20000 in
theorem ml_IF_52 : Cond.methodLink "InstrumentFiles" 52 y_Tape_has ∈ lw_gd := mem_2 43 rfl rfl
set_option maxRecDepth 20000 in
theorem ml_IF_56 : Cond.methodLink "InstrumentFiles" 56 y_Tape_byteAt ∈ lw_gd := mem_2 47 rfl rfl
set_option maxRecDepth 20000 in
theorem ml_IF_60 : Cond.methodLink "InstrumentFiles" 60 y_Tape_replace ∈ lw_gd := mem_2 52 rfl rfl
set_option maxRecDepth 20000 in
theorem ml_IF_64 : Cond.methodLink "InstrumentFiles" 64 y_Tape_sumAhead ∈ lw_gd := mem_2 64 rfl rfl
set_option maxRecDepth 20000 in
theorem ml_IF_70 : Cond.methodLink "InstrumentFiles" 70 y_Read_readFile ∈ lw_gd := mem_2 72 rfl rfl
set_option maxRecDepth 20000 in
theorem ml_IF_86 : Cond.methodLink "InstrumentFiles" 86 y_Judge_judgeMethod ∈ lw_gd := mem_2 174 rfl rfl
set_option maxRecDepth 20000 in
theorem ml_IF_91 : Cond.methodLink "InstrumentFiles" 91 y_Prog_forget ∈ lw_gd := mem_3 63 rfl rfl
set_option maxRecDepth 20000 in
theorem ml_IF_94 : Cond.methodLink "InstrumentFiles" 94 y_Dbl_canonical ∈ lw_gd := mem_3 72 rfl rfl
set_option maxRecDepth 20000 in
theorem ml_IF_100 : Cond.methodLink "InstrumentFiles" 100 y_Mach_setTable ∈ lw_gd := mem_3 73 rfl rfl
set_option maxRecDepth 20000 in
theorem ml_IF_104 : Cond.methodLink "InstrumentFiles" 104 y_Prog_methodAt ∈ lw_gd := mem_3 81 rfl rfl
set_option maxRecDepth 20000 in
theorem ml_IF_132 : Cond.methodLink "InstrumentFiles" 132 y_Meth_isAside ∈ lw_gd := mem_3 82 rfl rfl
set_option maxRecDepth 20000 in
theorem ml_IF_140 : Cond.methodLink "InstrumentFiles" 140 y_Pool_has ∈ lw_gd := mem_3 90 rfl rfl
set_option maxRecDepth 20000 in
theorem ml_IF_145 : Cond.methodLink "InstrumentFiles" 145 y_Pool_tagOf ∈ lw_gd := mem_3 92 rfl rfl
set_option maxRecDepth 20000 in
theorem ml_IF_148 : Cond.methodLink "InstrumentFiles" 148 y_Pool_isTagged ∈ lw_gd := mem_3 96 rfl rfl
set_option maxRecDepth 20000 in
theorem ml_IF_152 : Cond.methodLink "InstrumentFiles" 152 y_Pool_sizeOf ∈ lw_gd := mem_3 97 rfl rfl
set_option maxRecDepth 20000 in
theorem ml_IF_155 : Cond.methodLink "InstrumentFiles" 155 y_Pool_valueOf ∈ lw_gd := mem_3 101 rfl rfl
set_option maxRecDepth 20000 in
theorem ml_IF_161 : Cond.methodLink "InstrumentFiles" 161 y_Meth_kindsAt ∈ lw_gd := mem_3 107 rfl rfl
set_option maxRecDepth 20000 in
theorem ml_IF_164 : Cond.methodLink "InstrumentFiles" 164 y_Kinds_item ∈ lw_gd := mem_3 108 rfl rfl
set_option maxRecDepth 20000 in
theorem ml_IF_169 : Cond.methodLink "InstrumentFiles" 169 y_Kinds_local ∈ lw_gd := mem_3 109 rfl rfl
set_option maxRecDepth 20000 in
theorem ml_IF_172 : Cond.methodLink "InstrumentFiles" 172 y_Mach_prepare ∈ lw_gd := mem_3 114 rfl rfl
set_option maxRecDepth 20000 in
theorem ml_IF_175 : Cond.methodLink "InstrumentFiles" 175 y_Mach_giveArgument ∈ lw_gd := mem_3 125 rfl rfl
set_option maxRecDepth 20000 in
theorem ml_IF_179 : Cond.methodLink "InstrumentFiles" 179 y_Mach_run ∈ lw_gd := mem_3 135 rfl rfl
set_option maxRecDepth 20000 in
theorem ml_JD_122 : Cond.methodLink "java/lang/Double" 122 y_JD_isNaN ∈ lw_gd := mem_5 137 rfl rfl
set_option maxRecDepth 20000 in
theorem ml_JD_134 : Cond.methodLink "java/lang/Double" 134 y_d2r ∈ lw_gd := mem_5 140 rfl rfl
set_option maxRecDepth 20000 in
theorem ml_Judge_9 : Cond.methodLink "InstrumentFiles$Judge" 9 y_Prog_methodAt ∈ lw_gd := mem_2 178 rfl rfl
set_option maxRecDepth 20000 in
theorem ml_Judge_15 : Cond.methodLink "InstrumentFiles$Judge" 15 y_Meth_forgetJudgement ∈ lw_gd := mem_2 179 rfl rfl
set_option maxRecDepth 20000 in
theorem ml_Judge_39 : Cond.methodLink "InstrumentFiles$Judge" 39 y_Judge_judgeOp ∈ lw_gd := mem_2 183 rfl rfl
set_option maxRecDepth 20000 in
theorem ml_Judge_43 : Cond.methodLink "InstrumentFiles$Judge" 43 y_Meth_codeAt ∈ lw_gd := mem_2 206 rfl rfl
set_option maxRecDepth 20000 in
theorem ml_Judge_47 : Cond.methodLink "InstrumentFiles$Judge" 47 y_Ops_hasByte ∈ lw_gd := mem_3 50 rfl rfl
set_option maxRecDepth 20000 in
theorem ml_Judge_53 : Cond.methodLink "InstrumentFiles$Judge" 53 y_Judge_judgeMapPlaces ∈ lw_gd := mem_3 51 rfl rfl
set_option maxRecDepth 20000 in
theorem ml_Judge_60 : Cond.methodLink "InstrumentFiles$Judge" 60 y_Meth_mapPlace ∈ lw_gd := mem_3 55 rfl rfl
set_option maxRecDepth 20000 in
theorem ml_Judge_63 : Cond.methodLink "InstrumentFiles$Judge" 63 y_Meth_kindsAt ∈ lw_gd := mem_3 59 rfl rfl
set_option maxRecDepth 20000 in
theorem ml_Judge_66 : Cond.methodLink "InstrumentFiles$Judge" 66 y_Judge_meetsMap ∈ lw_gd := mem_2 187 rfl rfl
set_option maxRecDepth 20000 in
theorem ml_Judge_70 : Cond.methodLink "InstrumentFiles$Judge" 70 y_Meth_setKinds ∈ lw_gd := mem_2 202 rfl rfl
set_option maxRecDepth 20000 in
theorem ml_Judge_74 : Cond.methodLink "InstrumentFiles$Judge" 74 y_Ops_isOp ∈ lw_gd := mem_2 210 rfl rfl
set_option maxRecDepth 20000 in
theorem ml_Judge_77 : Cond.methodLink "InstrumentFiles$Judge" 77 y_Ops_size ∈ lw_gd := mem_2 213 rfl rfl
set_option maxRecDepth 20000 in
theorem ml_Judge_80 : Cond.methodLink "InstrumentFiles$Judge" 80 y_Ops_goesOn ∈ lw_gd := mem_2 219 rfl rfl
set_option maxRecDepth 20000 in
theorem ml_Judge_83 : Cond.methodLink "InstrumentFiles$Judge" 83 y_Judge_hasEntry ∈ lw_gd := mem_2 222 rfl rfl
set_option maxRecDepth 20000 in
theorem ml_Judge_87 : Cond.methodLink "InstrumentFiles$Judge" 87 y_Judge_judgeCall ∈ lw_gd := mem_2 237 rfl rfl
set_option maxRecDepth 20000 in
theorem ml_Judge_91 : Cond.methodLink "InstrumentFiles$Judge" 91 y_Judge_judgeStack ∈ lw_gd := mem_3 22 rfl rfl
set_option maxRecDepth 20000 in
theorem ml_Judge_95 : Cond.methodLink "InstrumentFiles$Judge" 95 y_Ops_jumps ∈ lw_gd := mem_3 43 rfl rfl
set_option maxRecDepth 20000 in
theorem ml_Judge_98 : Cond.methodLink "InstrumentFiles$Judge" 98 y_Judge_reaches ∈ lw_gd := mem_3 46 rfl rfl
set_option maxRecDepth 20000 in
theorem ml_Judge_102 : Cond.methodLink "InstrumentFiles$Judge" 102 y_Meth_mapAt ∈ lw_gd := mem_2 191 rfl rfl
set_option maxRecDepth 20000 in
theorem ml_Judge_105 : Cond.methodLink "InstrumentFiles$Judge" 105 y_Kinds_fits ∈ lw_gd := mem_2 195 rfl rfl
set_option maxRecDepth 20000 in
theorem ml_Judge_115 : Cond.methodLink "InstrumentFiles$Judge" 115 y_Pool_isTagged ∈ lw_gd := mem_2 226 rfl rfl
set_option maxRecDepth 20000 in
theorem ml_Judge_120 : Cond.methodLink "InstrumentFiles$Judge" 120 y_Pool_isListed ∈ lw_gd := mem_2 227 rfl rfl
set_option maxRecDepth 20000 in
theorem ml_Judge_126 : Cond.methodLink "InstrumentFiles$Judge" 126 y_Kinds_depth ∈ lw_gd := mem_3 1 rfl rfl
set_option maxRecDepth 20000 in
theorem ml_Judge_132 : Cond.methodLink "InstrumentFiles$Judge" 132 y_Judge_popped ∈ lw_gd := mem_3 2 rfl rfl
set_option maxRecDepth 20000 in
theorem ml_Judge_136 : Cond.methodLink "InstrumentFiles$Judge" 136 y_Meth_takenKind ∈ lw_gd := mem_3 12 rfl rfl
set_option maxRecDepth 20000 in
theorem ml_Judge_142 : Cond.methodLink "InstrumentFiles$Judge" 142 y_Judge_push ∈ lw_gd := mem_3 17 rfl rfl
set_option maxRecDepth 20000 in
theorem ml_Judge_146 : Cond.methodLink "InstrumentFiles$Judge" 146 y_Ops_taken ∈ lw_gd := mem_3 26 rfl rfl
set_option maxRecDepth 20000 in
theorem ml_Judge_149 : Cond.methodLink "InstrumentFiles$Judge" 149 y_Ops_takenKind ∈ lw_gd := mem_3 31 rfl rfl
set_option maxRecDepth 20000 in
theorem ml_Judge_150 : Cond.methodLink "InstrumentFiles$Judge" 150 y_Kinds_local ∈ lw_gd := mem_3 36 rfl rfl
set_option maxRecDepth 20000 in
theorem ml_Judge_154 : Cond.methodLink "InstrumentFiles$Judge" 154 y_Kinds_withLocal ∈ lw_gd := mem_3 37 rfl rfl
set_option maxRecDepth 20000 in
theorem ml_Judge_158 : Cond.methodLink "InstrumentFiles$Judge" 158 y_Kinds_push ∈ lw_gd := mem_3 21 rfl rfl
set_option maxRecDepth 20000 in
theorem ml_Judge_160 : Cond.methodLink "InstrumentFiles$Judge" 160 y_Ops_pushedKind ∈ lw_gd := mem_3 38 rfl rfl
set_option maxRecDepth 20000 in
theorem ml_Judge_163 : Cond.methodLink "InstrumentFiles$Judge" 163 y_Kinds_item ∈ lw_gd := mem_3 6 rfl rfl
set_option maxRecDepth 20000 in
theorem ml_Judge_166 : Cond.methodLink "InstrumentFiles$Judge" 166 y_Kinds_pop ∈ lw_gd := mem_3 9 rfl rfl
set_option maxRecDepth 20000 in
theorem ml_Kinds_11 : Cond.methodLink "InstrumentFiles$Kinds" 11 y_Kinds_depth ∈ lw_gd := mem_2 164 rfl rfl
set_option maxRecDepth 20000 in
theorem ml_Kinds_17 : Cond.methodLink "InstrumentFiles$Kinds" 17 y_Kinds_local ∈ lw_gd := mem_2 199 rfl rfl
set_option maxRecDepth 20000 in
theorem ml_L_9 : Cond.methodLink "InstrumentFilesLaw" 9 y_IF_init ∈ lw_gd := mem_1 17 rfl rfl
set_option maxRecDepth 20000 in
theorem ml_L_12 : Cond.methodLink "InstrumentFilesLaw" 12 y_M_init ∈ lw_gd := mem_4 67 rfl rfl
set_option maxRecDepth 20000 in
theorem ml_L_15 : Cond.methodLink "InstrumentFilesLaw" 15 y_IF_feed ∈ lw_gd := mem_2 27 rfl rfl
set_option maxRecDepth 20000 in
theorem ml_L_19 : Cond.methodLink "InstrumentFilesLaw" 19 y_M_feed ∈ lw_gd := mem_4 221 rfl rfl
set_option maxRecDepth 20000 in
theorem ml_L_20 : Cond.methodLink "InstrumentFilesLaw" 20 y_IF_wipe ∈ lw_gd := mem_2 35 rfl rfl
set_option maxRecDepth 20000 in
theorem ml_L_24 : Cond.methodLink "InstrumentFilesLaw" 24 y_M_wipe ∈ lw_gd := mem_4 228 rfl rfl
set_option maxRecDepth 20000 in
theorem ml_L_25 : Cond.methodLink "InstrumentFilesLaw" 25 y_IF_alter ∈ lw_gd := mem_2 39 rfl rfl
set_option maxRecDepth 20000 in
theorem ml_L_29 : Cond.methodLink "InstrumentFilesLaw" 29 y_M_alter ∈ lw_gd := mem_4 232 rfl rfl
set_option maxRecDepth 20000 in
theorem ml_L_30 : Cond.methodLink "InstrumentFilesLaw" 30 y_IF_at ∈ lw_gd := mem_2 56 rfl rfl
set_option maxRecDepth 20000 in
theorem ml_L_34 : Cond.methodLink "InstrumentFilesLaw" 34 y_M_at ∈ lw_gd := mem_4 236 rfl rfl
set_option maxRecDepth 20000 in
theorem ml_L_35 : Cond.methodLink "InstrumentFilesLaw" 35 y_IF_seal ∈ lw_gd := mem_2 60 rfl rfl
set_option maxRecDepth 20000 in
theorem ml_L_38 : Cond.methodLink "InstrumentFilesLaw" 38 y_M_seal ∈ lw_gd := mem_5 0 rfl rfl
set_option maxRecDepth 20000 in
theorem ml_L_39 : Cond.methodLink "InstrumentFilesLaw" 39 y_IF_read ∈ lw_gd := mem_2 68 rfl rfl
set_option maxRecDepth 20000 in
theorem ml_L_42 : Cond.methodLink "InstrumentFilesLaw" 42 y_M_read ∈ lw_gd := mem_5 8 rfl rfl
set_option maxRecDepth 20000 in
theorem ml_L_43 : Cond.methodLink "InstrumentFilesLaw" 43 y_IF_fault ∈ lw_gd := mem_3 64 rfl rfl
set_option maxRecDepth 20000 in
theorem ml_L_46 : Cond.methodLink "InstrumentFilesLaw" 46 y_M_fault ∈ lw_gd := mem_5 103 rfl rfl
set_option maxRecDepth 20000 in
theorem ml_L_47 : Cond.methodLink "InstrumentFilesLaw" 47 y_IF_table ∈ lw_gd := mem_3 68 rfl rfl
set_option maxRecDepth 20000 in
theorem ml_L_51 : Cond.methodLink "InstrumentFilesLaw" 51 y_M_table ∈ lw_gd := mem_5 107 rfl rfl
set_option maxRecDepth 20000 in
theorem ml_L_52 : Cond.methodLink "InstrumentFilesLaw" 52 y_IF_method ∈ lw_gd := mem_3 77 rfl rfl
set_option maxRecDepth 20000 in
theorem ml_L_55 : Cond.methodLink "InstrumentFilesLaw" 55 y_M_method ∈ lw_gd := mem_5 120 rfl rfl
set_option maxRecDepth 20000 in
theorem ml_L_56 : Cond.methodLink "InstrumentFilesLaw" 56 y_IF_pool ∈ lw_gd := mem_3 86 rfl rfl
set_option maxRecDepth 20000 in
theorem ml_L_60 : Cond.methodLink "InstrumentFilesLaw" 60 y_M_pool ∈ lw_gd := mem_5 128 rfl rfl
set_option maxRecDepth 20000 in
theorem ml_L_61 : Cond.methodLink "InstrumentFilesLaw" 61 y_IF_kind ∈ lw_gd := mem_3 103 rfl rfl
set_option maxRecDepth 20000 in
theorem ml_L_65 : Cond.methodLink "InstrumentFilesLaw" 65 y_M_kind ∈ lw_gd := mem_5 144 rfl rfl
set_option maxRecDepth 20000 in
theorem ml_L_66 : Cond.methodLink "InstrumentFilesLaw" 66 y_IF_call ∈ lw_gd := mem_3 110 rfl rfl
set_option maxRecDepth 20000 in
theorem ml_L_70 : Cond.methodLink "InstrumentFilesLaw" 70 y_M_call ∈ lw_gd := mem_5 148 rfl rfl
set_option maxRecDepth 20000 in
theorem ml_L_71 : Cond.methodLink "InstrumentFilesLaw" 71 y_IF_result ∈ lw_gd := mem_4 53 rfl rfl
set_option maxRecDepth 20000 in
theorem ml_L_75 : Cond.methodLink "InstrumentFilesLaw" 75 y_M_result ∈ lw_gd := mem_5 235 rfl rfl
set_option maxRecDepth 20000 in
theorem ml_L_76 : Cond.methodLink "InstrumentFilesLaw" 76 y_IF_told ∈ lw_gd := mem_4 57 rfl rfl
set_option maxRecDepth 20000 in
theorem ml_L_79 : Cond.methodLink "InstrumentFilesLaw" 79 y_M_told ∈ lw_gd := mem_5 239 rfl rfl
set_option maxRecDepth 20000 in
theorem ml_L_80 : Cond.methodLink "InstrumentFilesLaw" 80 y_IF_count ∈ lw_gd := mem_4 61 rfl rfl
set_option maxRecDepth 20000 in
theorem ml_L_83 : Cond.methodLink "InstrumentFilesLaw" 83 y_M_count ∈ lw_gd := mem_6 3 rfl rfl
set_option maxRecDepth 20000 in
theorem ml_M_106 : Cond.methodLink "InstrumentFilesModel" 106 y_M_in ∈ lw_gd := mem_4 225 rfl rfl
set_option maxRecDepth 20000 in
theorem ml_M_114 : Cond.methodLink "InstrumentFilesModel" 114 y_M_sumAhead ∈ lw_gd := mem_5 4 rfl rfl
set_option maxRecDepth 20000 in
theorem ml_M_127 : Cond.methodLink "InstrumentFilesModel" 127 y_M_faults ∈ lw_gd := mem_5 24 rfl rfl
set_option maxRecDepth 20000 in
theorem ml_M_131 : Cond.methodLink "InstrumentFilesModel" 131 y_M_take ∈ lw_gd := mem_5 20 rfl rfl
set_option maxRecDepth 20000 in
theorem ml_M_135 : Cond.methodLink "InstrumentFilesModel" 135 y_M_taken ∈ lw_gd := mem_5 16 rfl rfl
set_option maxRecDepth 20000 in
theorem ml_M_141 : Cond.methodLink "InstrumentFilesModel" 141 y_M_takeLong ∈ lw_gd := mem_5 32 rfl rfl
set_option maxRecDepth 20000 in
theorem ml_M_145 : Cond.methodLink "InstrumentFilesModel" 145 y_M_isSameWord ∈ lw_gd := mem_5 44 rfl rfl
set_option maxRecDepth 20000 in
theorem ml_M_149 : Cond.methodLink "InstrumentFilesModel" 149 y_M_readName ∈ lw_gd := mem_5 40 rfl rfl
set_option maxRecDepth 20000 in
theorem ml_M_153 : Cond.methodLink "InstrumentFilesModel" 153 y_M_readMap ∈ lw_gd := mem_5 48 rfl rfl
set_option maxRecDepth 20000 in
theorem ml_M_159 : Cond.methodLink "InstrumentFilesModel" 159 y_M_readPool ∈ lw_gd := mem_5 28 rfl rfl
set_option maxRecDepth 20000 in
theorem ml_M_165 : Cond.methodLink "InstrumentFilesModel" 165 y_M_readMethod ∈ lw_gd := mem_5 36 rfl rfl
set_option maxRecDepth 20000 in
theorem ml_M_171 : Cond.methodLink "InstrumentFilesModel" 171 y_M_readFile ∈ lw_gd := mem_5 12 rfl rfl
set_option maxRecDepth 20000 in
theorem ml_M_174 : Cond.methodLink "InstrumentFilesModel" 174 y_M_judge ∈ lw_gd := mem_5 52 rfl rfl
set_option maxRecDepth 20000 in
theorem ml_M_184 : Cond.methodLink "InstrumentFilesModel" 184 y_M_judgeOp ∈ lw_gd := mem_5 56 rfl rfl
set_option maxRecDepth 20000 in
theorem ml_M_188 : Cond.methodLink "InstrumentFilesModel" 188 y_M_hasByte ∈ lw_gd := mem_5 72 rfl rfl
set_option maxRecDepth 20000 in
theorem ml_M_192 : Cond.methodLink "InstrumentFilesModel" 192 y_M_mapAt ∈ lw_gd := mem_5 60 rfl rfl
set_option maxRecDepth 20000 in
theorem ml_M_196 : Cond.methodLink "InstrumentFilesModel" 196 y_M_fits ∈ lw_gd := mem_5 64 rfl rfl
set_option maxRecDepth 20000 in
theorem ml_M_199 : Cond.methodLink "InstrumentFilesModel" 199 y_M_becomes ∈ lw_gd := mem_5 68 rfl rfl
set_option maxRecDepth 20000 in
theorem ml_M_202 : Cond.methodLink "InstrumentFilesModel" 202 y_M_isEntry ∈ lw_gd := mem_5 75 rfl rfl
set_option maxRecDepth 20000 in
theorem ml_M_205 : Cond.methodLink "InstrumentFilesModel" 205 y_M_judgeKinds ∈ lw_gd := mem_5 87 rfl rfl
set_option maxRecDepth 20000 in
theorem ml_M_209 : Cond.methodLink "InstrumentFilesModel" 209 y_M_isWord ∈ lw_gd := mem_5 83 rfl rfl
set_option maxRecDepth 20000 in
theorem ml_M_213 : Cond.methodLink "InstrumentFilesModel" 213 y_M_isListed ∈ lw_gd := mem_5 79 rfl rfl
set_option maxRecDepth 20000 in
theorem ml_M_216 : Cond.methodLink "InstrumentFilesModel" 216 y_M_pops ∈ lw_gd := mem_5 91 rfl rfl
set_option maxRecDepth 20000 in
theorem ml_M_219 : Cond.methodLink "InstrumentFilesModel" 219 y_M_wants ∈ lw_gd := mem_5 95 rfl rfl
set_option maxRecDepth 20000 in
theorem ml_M_223 : Cond.methodLink "InstrumentFilesModel" 223 y_M_pushes ∈ lw_gd := mem_5 99 rfl rfl
set_option maxRecDepth 20000 in
theorem ml_M_226 : Cond.methodLink "InstrumentFilesModel" 226 y_M_doubleOf ∈ lw_gd := mem_5 111 rfl rfl
set_option maxRecDepth 20000 in
theorem ml_M_230 : Cond.methodLink "InstrumentFilesModel" 230 y_M_isMethod ∈ lw_gd := mem_5 124 rfl rfl
set_option maxRecDepth 20000 in
theorem ml_M_237 : Cond.methodLink "InstrumentFilesModel" 237 y_JD_doubleToLongBits ∈ lw_gd := mem_5 134 rfl rfl
set_option maxRecDepth 20000 in
theorem ml_M_268 : Cond.methodLink "InstrumentFilesModel" 268 y_M_enter ∈ lw_gd := mem_5 152 rfl rfl
set_option maxRecDepth 20000 in
theorem ml_M_271 : Cond.methodLink "InstrumentFilesModel" 271 y_M_give ∈ lw_gd := mem_5 156 rfl rfl
set_option maxRecDepth 20000 in
theorem ml_M_275 : Cond.methodLink "InstrumentFilesModel" 275 y_M_fails ∈ lw_gd := mem_5 160 rfl rfl
set_option maxRecDepth 20000 in
theorem ml_M_278 : Cond.methodLink "InstrumentFilesModel" 278 y_M_step ∈ lw_gd := mem_5 164 rfl rfl
set_option maxRecDepth 20000 in
theorem ml_M_281 : Cond.methodLink "InstrumentFilesModel" 281 y_M_calls ∈ lw_gd := mem_5 168 rfl rfl
set_option maxRecDepth 20000 in
theorem ml_M_283 : Cond.methodLink "InstrumentFilesModel" 283 y_M_gives ∈ lw_gd := mem_5 172 rfl rfl
set_option maxRecDepth 20000 in
theorem ml_M_285 : Cond.methodLink "InstrumentFilesModel" 285 y_M_pop ∈ lw_gd := mem_5 176 rfl rfl
set_option maxRecDepth 20000 in
theorem ml_M_288 : Cond.methodLink "InstrumentFilesModel" 288 y_M_moves ∈ lw_gd := mem_5 184 rfl rfl
set_option maxRecDepth 20000 in
theorem ml_M_291 : Cond.methodLink "InstrumentFilesModel" 291 y_M_joinsInts ∈ lw_gd := mem_5 188 rfl rfl
set_option maxRecDepth 20000 in
theorem ml_M_294 : Cond.methodLink "InstrumentFilesModel" 294 y_M_joinsDoubles ∈ lw_gd := mem_5 192 rfl rfl
set_option maxRecDepth 20000 in
theorem ml_M_297 : Cond.methodLink "InstrumentFilesModel" 297 y_M_turns ∈ lw_gd := mem_5 213 rfl rfl
set_option maxRecDepth 20000 in
theorem ml_M_300 : Cond.methodLink "InstrumentFilesModel" 300 y_M_push ∈ lw_gd := mem_5 180 rfl rfl
set_option maxRecDepth 20000 in
theorem ml_M_308 : Cond.methodLink "InstrumentFilesModel" 308 y_M_isEndless ∈ lw_gd := mem_5 199 rfl rfl
set_option maxRecDepth 20000 in
theorem ml_M_318 : Cond.methodLink "InstrumentFilesModel" 318 y_l2r ∈ lw_gd := mem_5 117 rfl rfl
set_option maxRecDepth 20000 in
theorem ml_M_321 : Cond.methodLink "InstrumentFilesModel" 321 y_M_plus ∈ lw_gd := mem_5 196 rfl rfl
set_option maxRecDepth 20000 in
theorem ml_M_325 : Cond.methodLink "InstrumentFilesModel" 325 y_M_minus ∈ lw_gd := mem_5 204 rfl rfl
set_option maxRecDepth 20000 in
theorem ml_M_328 : Cond.methodLink "InstrumentFilesModel" 328 y_M_times ∈ lw_gd := mem_5 207 rfl rfl
set_option maxRecDepth 20000 in
theorem ml_M_331 : Cond.methodLink "InstrumentFilesModel" 331 y_M_by ∈ lw_gd := mem_5 210 rfl rfl
set_option maxRecDepth 20000 in
theorem ml_M_334 : Cond.methodLink "InstrumentFilesModel" 334 y_M_listed ∈ lw_gd := mem_5 217 rfl rfl
set_option maxRecDepth 20000 in
theorem ml_M_338 : Cond.methodLink "InstrumentFilesModel" 338 y_M_root ∈ lw_gd := mem_5 221 rfl rfl
set_option maxRecDepth 20000 in
theorem ml_M_342 : Cond.methodLink "InstrumentFilesModel" 342 y_M_floor ∈ lw_gd := mem_5 229 rfl rfl
set_option maxRecDepth 20000 in
theorem ml_Mach_57 : Cond.methodLink "InstrumentFiles$Machine" 57 y_Mach_enter ∈ lw_gd := mem_3 118 rfl rfl
set_option maxRecDepth 20000 in
theorem ml_Mach_66 : Cond.methodLink "InstrumentFiles$Machine" 66 y_Meth_takenKind ∈ lw_gd := mem_3 129 rfl rfl
set_option maxRecDepth 20000 in
theorem ml_Mach_70 : Cond.methodLink "InstrumentFiles$Machine" 70 y_Dbl_canonical ∈ lw_gd := mem_3 130 rfl rfl
set_option maxRecDepth 20000 in
theorem ml_Mach_76 : Cond.methodLink "InstrumentFiles$Machine" 76 y_Mach_setLocal ∈ lw_gd := mem_3 131 rfl rfl
set_option maxRecDepth 20000 in
theorem ml_Mach_80 : Cond.methodLink "InstrumentFiles$Machine" 80 y_Mach_runOp ∈ lw_gd := mem_3 139 rfl rfl
set_option maxRecDepth 20000 in
theorem ml_Mach_84 : Cond.methodLink "InstrumentFiles$Machine" 84 y_Mach_nextPlace ∈ lw_gd := mem_3 148 rfl rfl
set_option maxRecDepth 20000 in
theorem ml_Mach_91 : Cond.methodLink "InstrumentFiles$Machine" 91 y_Mach_fail ∈ lw_gd := mem_3 179 rfl rfl
set_option maxRecDepth 20000 in
theorem ml_Mach_94 : Cond.methodLink "InstrumentFiles$Machine" 94 y_JM_max ∈ lw_gd := mem_3 122 rfl rfl
set_option maxRecDepth 20000 in
theorem ml_Mach_100 : Cond.methodLink "InstrumentFiles$Machine" 100 y_Mach_pop ∈ lw_gd := mem_3 171 rfl rfl
set_option maxRecDepth 20000 in
theorem ml_Mach_104 : Cond.methodLink "InstrumentFiles$Machine" 104 y_Mach_push ∈ lw_gd := mem_3 163 rfl rfl
set_option maxRecDepth 20000 in
theorem ml_Mach_108 : Cond.methodLink "InstrumentFiles$Machine" 108 y_Prog_methodAt ∈ lw_gd := mem_3 147 rfl rfl
set_option maxRecDepth 20000 in
theorem ml_Mach_114 : Cond.methodLink "InstrumentFiles$Machine" 114 y_Mach_openMethod ∈ lw_gd := mem_3 143 rfl rfl
set_option maxRecDepth 20000 in
theorem ml_Mach_118 : Cond.methodLink "InstrumentFiles$Machine" 118 y_Meth_codeAt ∈ lw_gd := mem_3 152 rfl rfl
set_option maxRecDepth 20000 in
theorem ml_Mach_121 : Cond.methodLink "InstrumentFiles$Machine" 121 y_Ops_size ∈ lw_gd := mem_3 153 rfl rfl
set_option maxRecDepth 20000 in
theorem ml_Mach_126 : Cond.methodLink "InstrumentFiles$Machine" 126 y_Mach_goTo ∈ lw_gd := mem_3 154 rfl rfl
set_option maxRecDepth 20000 in
theorem ml_Mach_133 : Cond.methodLink "InstrumentFiles$Machine" 133 y_Mach_runMove ∈ lw_gd := mem_3 158 rfl rfl
set_option maxRecDepth 20000 in
theorem ml_Mach_137 : Cond.methodLink "InstrumentFiles$Machine" 137 y_Mach_runInts ∈ lw_gd := mem_3 175 rfl rfl
set_option maxRecDepth 20000 in
theorem ml_Mach_140 : Cond.methodLink "InstrumentFiles$Machine" 140 y_Mach_runDoubles ∈ lw_gd := mem_3 183 rfl rfl
set_option maxRecDepth 20000 in
theorem ml_Mach_143 : Cond.methodLink "InstrumentFiles$Machine" 143 y_Mach_runChange ∈ lw_gd := mem_3 234 rfl rfl
set_option maxRecDepth 20000 in
theorem ml_Mach_146 : Cond.methodLink "InstrumentFiles$Machine" 146 y_Pool_valueOf ∈ lw_gd := mem_3 162 rfl rfl
set_option maxRecDepth 20000 in
theorem ml_Mach_152 : Cond.methodLink "InstrumentFiles$Machine" 152 y_Mach_runListed ∈ lw_gd := mem_4 12 rfl rfl
set_option maxRecDepth 20000 in
theorem ml_Mach_155 : Cond.methodLink "InstrumentFiles$Machine" 155 y_Mach_runRest ∈ lw_gd := mem_4 36 rfl rfl
set_option maxRecDepth 20000 in
theorem ml_Mach_159 : Cond.methodLink "InstrumentFiles$Machine" 159 y_Mach_local ∈ lw_gd := mem_3 167 rfl rfl
set_option maxRecDepth 20000 in
theorem ml_Mach_162 : Cond.methodLink "InstrumentFiles$Machine" 162 y_Dbl_add ∈ lw_gd := mem_3 187 rfl rfl
set_option maxRecDepth 20000 in
theorem ml_Mach_166 : Cond.methodLink "InstrumentFiles$Machine" 166 y_Dbl_negate ∈ lw_gd := mem_3 217 rfl rfl
set_option maxRecDepth 20000 in
theorem ml_Mach_169 : Cond.methodLink "InstrumentFiles$Machine" 169 y_Dbl_multiply ∈ lw_gd := mem_3 221 rfl rfl
set_option maxRecDepth 20000 in
theorem ml_Mach_172 : Cond.methodLink "InstrumentFiles$Machine" 172 y_Dbl_divide ∈ lw_gd := mem_3 228 rfl rfl
set_option maxRecDepth 20000 in
theorem ml_Mach_175 : Cond.methodLink "InstrumentFiles$Machine" 175 y_Dbl_fromInt ∈ lw_gd := mem_3 238 rfl rfl
set_option maxRecDepth 20000 in
theorem ml_Mach_178 : Cond.methodLink "InstrumentFiles$Machine" 178 y_Dbl_toInt ∈ lw_gd := mem_4 4 rfl rfl
set_option maxRecDepth 20000 in
theorem ml_Mach_182 : Cond.methodLink "InstrumentFiles$Machine" 182 y_Dbl_isBelow ∈ lw_gd := mem_4 9 rfl rfl
set_option maxRecDepth 20000 in
theorem ml_Mach_186 : Cond.methodLink "InstrumentFiles$Machine" 186 y_Mach_callInside ∈ lw_gd := mem_4 40 rfl rfl
set_option maxRecDepth 20000 in
theorem ml_Mach_190 : Cond.methodLink "InstrumentFiles$Machine" 190 y_Mach_leave ∈ lw_gd := mem_4 44 rfl rfl
set_option maxRecDepth 20000 in
theorem ml_Mach_193 : Cond.methodLink "InstrumentFiles$Machine" 193 y_Mach_pushFromTable ∈ lw_gd := mem_4 48 rfl rfl
set_option maxRecDepth 20000 in
theorem ml_Mach_200 : Cond.methodLink "InstrumentFiles$Machine" 200 y_Dbl_absolute ∈ lw_gd := mem_4 17 rfl rfl
set_option maxRecDepth 20000 in
theorem ml_Mach_205 : Cond.methodLink "InstrumentFiles$Machine" 205 y_Dbl_root ∈ lw_gd := mem_4 19 rfl rfl
set_option maxRecDepth 20000 in
theorem ml_Mach_210 : Cond.methodLink "InstrumentFiles$Machine" 210 y_Dbl_floor ∈ lw_gd := mem_4 27 rfl rfl
set_option maxRecDepth 20000 in
theorem ml_Mach_213 : Cond.methodLink "InstrumentFiles$Machine" 213 y_Dbl_sign ∈ lw_gd := mem_4 32 rfl rfl
set_option maxRecDepth 20000 in
theorem ml_Meth_31 : Cond.methodLink "InstrumentFiles$Method" 31 y_Kinds_local ∈ lw_gd := mem_3 16 rfl rfl
set_option maxRecDepth 20000 in
theorem ml_Ops_9 : Cond.methodLink "InstrumentFiles$Ops" 9 y_Ops_hasByte ∈ lw_gd := mem_2 216 rfl rfl
set_option maxRecDepth 20000 in
theorem ml_Pool_26 : Cond.methodLink "InstrumentFiles$Pool" 26 y_Pool_has ∈ lw_gd := mem_2 126 rfl rfl
set_option maxRecDepth 20000 in
theorem ml_Pool_30 : Cond.methodLink "InstrumentFiles$Pool" 30 y_Pool_valueOf ∈ lw_gd := mem_2 231 rfl rfl
set_option maxRecDepth 20000 in
theorem ml_Pool_34 : Cond.methodLink "InstrumentFiles$Pool" 34 y_Pool_isTagged ∈ lw_gd := mem_2 232 rfl rfl
set_option maxRecDepth 20000 in
theorem ml_Prog_35 : Cond.methodLink "InstrumentFiles$Program" 35 y_Pool_isTagged ∈ lw_gd := mem_2 122 rfl rfl
set_option maxRecDepth 20000 in
theorem ml_Prog_39 : Cond.methodLink "InstrumentFiles$Program" 39 y_Prog_methodAt ∈ lw_gd := mem_2 130 rfl rfl
set_option maxRecDepth 20000 in
theorem ml_Prog_46 : Cond.methodLink "InstrumentFiles$Program" 46 y_Pool_valueOf ∈ lw_gd := mem_2 134 rfl rfl
set_option maxRecDepth 20000 in
theorem ml_Read_18 : Cond.methodLink "InstrumentFiles$Reader" 18 y_Prog_forget ∈ lw_gd := mem_2 76 rfl rfl
set_option maxRecDepth 20000 in
theorem ml_Read_23 : Cond.methodLink "InstrumentFiles$Reader" 23 y_Read_take ∈ lw_gd := mem_2 80 rfl rfl
set_option maxRecDepth 20000 in
theorem ml_Read_34 : Cond.methodLink "InstrumentFiles$Reader" 34 y_Read_readPool ∈ lw_gd := mem_2 85 rfl rfl
set_option maxRecDepth 20000 in
theorem ml_Read_38 : Cond.methodLink "InstrumentFiles$Reader" 38 y_Read_readMethods ∈ lw_gd := mem_2 106 rfl rfl
set_option maxRecDepth 20000 in
theorem ml_Read_42 : Cond.methodLink "InstrumentFiles$Reader" 42 y_Tape_sumAhead ∈ lw_gd := mem_2 172 rfl rfl
set_option maxRecDepth 20000 in
theorem ml_Read_48 : Cond.methodLink "InstrumentFiles$Reader" 48 y_Tape_has ∈ lw_gd := mem_2 173 rfl rfl
set_option maxRecDepth 20000 in
theorem ml_Read_52 : Cond.methodLink "InstrumentFiles$Reader" 52 y_Tape_byteAt ∈ lw_gd := mem_2 84 rfl rfl
set_option maxRecDepth 20000 in
theorem ml_Read_55 : Cond.methodLink "InstrumentFiles$Reader" 55 y_Read_takeMany ∈ lw_gd := mem_2 89 rfl rfl
set_option maxRecDepth 20000 in
theorem ml_Read_59 : Cond.methodLink "InstrumentFiles$Reader" 59 y_Pool_append ∈ lw_gd := mem_2 93 rfl rfl
set_option maxRecDepth 20000 in
theorem ml_Read_65 : Cond.methodLink "InstrumentFiles$Reader" 65 y_Dbl_canonical ∈ lw_gd := mem_2 97 rfl rfl
set_option maxRecDepth 20000 in
theorem ml_Read_71 : Cond.methodLink "InstrumentFiles$Reader" 71 y_Prog_nextMethod ∈ lw_gd := mem_2 110 rfl rfl
set_option maxRecDepth 20000 in
theorem ml_Read_75 : Cond.methodLink "InstrumentFiles$Reader" 75 y_Read_takeName ∈ lw_gd := mem_2 114 rfl rfl
set_option maxRecDepth 20000 in
theorem ml_Read_84 : Cond.methodLink "InstrumentFiles$Reader" 84 y_Read_readHead ∈ lw_gd := mem_2 138 rfl rfl
set_option maxRecDepth 20000 in
theorem ml_Read_88 : Cond.methodLink "InstrumentFiles$Reader" 88 y_Read_readCode ∈ lw_gd := mem_2 145 rfl rfl
set_option maxRecDepth 20000 in
theorem ml_Read_91 : Cond.methodLink "InstrumentFiles$Reader" 91 y_Read_readMaps ∈ lw_gd := mem_2 153 rfl rfl
set_option maxRecDepth 20000 in
theorem ml_Read_97 : Cond.methodLink "InstrumentFiles$Reader" 97 y_Prog_canName ∈ lw_gd := mem_2 118 rfl rfl
set_option maxRecDepth 20000 in
theorem ml_Read_109 : Cond.methodLink "InstrumentFiles$Reader" 109 y_Kinds_withLocal ∈ lw_gd := mem_2 142 rfl rfl
set_option maxRecDepth 20000 in
theorem ml_Read_127 : Cond.methodLink "InstrumentFiles$Reader" 127 y_Meth_setCode ∈ lw_gd := mem_2 149 rfl rfl
set_option maxRecDepth 20000 in
theorem ml_Read_134 : Cond.methodLink "InstrumentFiles$Reader" 134 y_Read_takeMapKinds ∈ lw_gd := mem_2 157 rfl rfl
set_option maxRecDepth 20000 in
theorem ml_Read_138 : Cond.methodLink "InstrumentFiles$Reader" 138 y_Meth_appendMap ∈ lw_gd := mem_2 168 rfl rfl
set_option maxRecDepth 20000 in
theorem ml_Read_141 : Cond.methodLink "InstrumentFiles$Reader" 141 y_Kinds_push ∈ lw_gd := mem_2 161 rfl rfl
set_option maxRecDepth 20000 in
theorem ml_Tape_19 : Cond.methodLink "InstrumentFiles$Tape" 19 y_Tape_has ∈ lw_gd := mem_2 51 rfl rfl
set_option maxRecDepth 20000 in
theorem nt_y_d2r : Cond.native y_d2r ∈ lw_gd := mem_5 142 rfl rfl
set_option maxRecDepth 20000 in
theorem ns_y_d2r : Cond.static y_d2r ∈ lw_gd := mem_5 141 rfl rfl
set_option maxRecDepth 20000 in
theorem nt_y_l2r : Cond.native y_l2r ∈ lw_gd := mem_5 119 rfl rfl
set_option maxRecDepth 20000 in
theorem ns_y_l2r : Cond.static y_l2r ∈ lw_gd := mem_5 118 rfl rfl
set_option maxRecDepth 20000 in
theorem in_JD : Cond.initialized "java/lang/Double" ∈ lw_gd := mem_1 13 rfl rfl
set_option maxRecDepth 20000 in
theorem ct_Dbl_13 : Cond.constantLong "InstrumentFiles$Doubles" 13 (9221120237041090560) ∈ lw_gd := mem_2 105 rfl rfl
set_option maxRecDepth 20000 in
theorem ct_Dbl_15 : Cond.constantLong "InstrumentFiles$Doubles" 15 (9223372036854775807) ∈ lw_gd := mem_2 103 rfl rfl
set_option maxRecDepth 20000 in
theorem ct_Dbl_17 : Cond.constantLong "InstrumentFiles$Doubles" 17 (9218868437227405312) ∈ lw_gd := mem_2 104 rfl rfl
set_option maxRecDepth 20000 in
theorem ct_Dbl_19 : Cond.constantLong "InstrumentFiles$Doubles" 19 (-9223372036854775808) ∈ lw_gd := mem_3 205 rfl rfl
set_option maxRecDepth 20000 in
theorem ct_Dbl_31 : Cond.constantLong "InstrumentFiles$Doubles" 31 (4503599627370495) ∈ lw_gd := mem_3 200 rfl rfl
set_option maxRecDepth 20000 in
theorem ct_Dbl_33 : Cond.constantLong "InstrumentFiles$Doubles" 33 (4503599627370496) ∈ lw_gd := mem_3 201 rfl rfl
set_option maxRecDepth 20000 in
theorem ct_Dbl_60 : Cond.constantLong "InstrumentFiles$Doubles" 60 (67108863) ∈ lw_gd := mem_3 227 rfl rfl
set_option maxRecDepth 20000 in
theorem ct_Dbl_68 : Cond.constantLong "InstrumentFiles$Doubles" 68 (3) ∈ lw_gd := mem_4 25 rfl rfl
set_option maxRecDepth 20000 in
theorem ct_Dbl_70 : Cond.constantLong "InstrumentFiles$Doubles" 70 (-4616189618054758400) ∈ lw_gd := mem_4 30 rfl rfl
set_option maxRecDepth 20000 in
theorem ct_Dbl_72 : Cond.constantLong "InstrumentFiles$Doubles" 72 (-1) ∈ lw_gd := mem_4 31 rfl rfl
set_option maxRecDepth 20000 in
theorem ct_Dbl_74 : Cond.constantLong "InstrumentFiles$Doubles" 74 (4607182418800017408) ∈ lw_gd := mem_4 35 rfl rfl
set_option maxRecDepth 20000 in
theorem ct_Dbl_81 : Cond.constant "InstrumentFiles$Doubles" 81 (-2147483648) ∈ lw_gd := mem_4 7 rfl rfl
set_option maxRecDepth 20000 in
theorem ct_Dbl_82 : Cond.constant "InstrumentFiles$Doubles" 82 (2147483647) ∈ lw_gd := mem_4 8 rfl rfl
set_option maxRecDepth 20000 in
theorem ct_Dbl_86 : Cond.constantLong "InstrumentFiles$Doubles" 86 (7) ∈ lw_gd := mem_3 215 rfl rfl
set_option maxRecDepth 20000 in
theorem ct_Dbl_88 : Cond.constantLong "InstrumentFiles$Doubles" 88 (4) ∈ lw_gd := mem_3 216 rfl rfl
set_option maxRecDepth 20000 in
theorem ct_IF_143 : Cond.constantLong "InstrumentFiles" 143 (-101) ∈ lw_gd := mem_3 91 rfl rfl
set_option maxRecDepth 20000 in
theorem ct_IF_159 : Cond.constantLong "InstrumentFiles" 159 (-102) ∈ lw_gd := mem_3 102 rfl rfl
set_option maxRecDepth 20000 in
theorem ct_JD_137 : Cond.constantLong "java/lang/Double" 137 (9221120237041090560) ∈ lw_gd := mem_5 143 rfl rfl
set_option maxRecDepth 20000 in
theorem ct_Kinds_15 : Cond.constant "InstrumentFiles$Kinds" 15 (16777216) ∈ lw_gd := mem_2 167 rfl rfl
set_option maxRecDepth 20000 in
theorem ct_Kinds_16 : Cond.constant "InstrumentFiles$Kinds" 16 (117444607) ∈ lw_gd := mem_2 198 rfl rfl
set_option maxRecDepth 20000 in
theorem ct_L_13 : Cond.constantLong "InstrumentFilesLaw" 13 (4294967295) ∈ lw_gd := mem_6 7 rfl rfl
set_option maxRecDepth 20000 in
theorem ct_M_233 : Cond.constantLong "InstrumentFilesModel" 233 (-101) ∈ lw_gd := mem_5 132 rfl rfl
set_option maxRecDepth 20000 in
theorem ct_M_235 : Cond.constantLong "InstrumentFilesModel" 235 (-102) ∈ lw_gd := mem_5 133 rfl rfl
set_option maxRecDepth 20000 in
theorem ct_M_304 : Cond.constantDouble "InstrumentFilesModel" 304 (9218868437227405312) ∈ lw_gd := mem_5 202 rfl rfl
set_option maxRecDepth 20000 in
theorem ct_M_306 : Cond.constantDouble "InstrumentFilesModel" 306 (18442240474082181120) ∈ lw_gd := mem_5 203 rfl rfl
set_option maxRecDepth 20000 in
theorem ct_M_312 : Cond.constantDouble "InstrumentFilesModel" 312 (9221120237041090560) ∈ lw_gd := mem_5 116 rfl rfl
set_option maxRecDepth 20000 in
theorem ct_M_314 : Cond.constantLong "InstrumentFilesModel" 314 (9218868437227405312) ∈ lw_gd := mem_5 114 rfl rfl
set_option maxRecDepth 20000 in
theorem ct_M_316 : Cond.constantLong "InstrumentFilesModel" 316 (4503599627370495) ∈ lw_gd := mem_5 115 rfl rfl
set_option maxRecDepth 20000 in
theorem ct_M_345 : Cond.constantDouble "InstrumentFilesModel" 345 (13830554455654793216) ∈ lw_gd := mem_5 234 rfl rfl
set_option maxRecDepth 20000 in
theorem ct_M_347 : Cond.constantDouble "InstrumentFilesModel" 347 (14064741636278059008) ∈ lw_gd := mem_5 232 rfl rfl
set_option maxRecDepth 20000 in
theorem ct_M_349 : Cond.constantDouble "InstrumentFilesModel" 349 (4841369599423283200) ∈ lw_gd := mem_5 233 rfl rfl
set_option maxRecDepth 20000 in
theorem ct_M_351 : Cond.constantDouble "InstrumentFilesModel" 351 (4611686018427387904) ∈ lw_gd := mem_5 224 rfl rfl
set_option maxRecDepth 20000 in
theorem ct_M_353 : Cond.constantLong "InstrumentFilesModel" 353 (4503599627370496) ∈ lw_gd := mem_5 225 rfl rfl
set_option maxRecDepth 20000 in
theorem ct_M_355 : Cond.constantLong "InstrumentFilesModel" 355 (3) ∈ lw_gd := mem_5 226 rfl rfl
set_option maxRecDepth 20000 in
theorem ct_M_357 : Cond.constantLong "InstrumentFilesModel" 357 (2) ∈ lw_gd := mem_5 227 rfl rfl
set_option maxRecDepth 20000 in
theorem ct_M_359 : Cond.constantLong "InstrumentFilesModel" 359 (9007199254740992) ∈ lw_gd := mem_5 228 rfl rfl
set_option maxRecDepth 20000 in
theorem ct_Mach_196 : Cond.constantLong "InstrumentFiles$Machine" 196 (8) ∈ lw_gd := mem_4 52 rfl rfl
set_option maxRecDepth 20000 in
theorem ct_Mach_198 : Cond.constantLong "InstrumentFiles$Machine" 198 (6382195) ∈ lw_gd := mem_4 16 rfl rfl
set_option maxRecDepth 20000 in
theorem ct_Mach_203 : Cond.constantLong "InstrumentFiles$Machine" 203 (1919905652) ∈ lw_gd := mem_4 18 rfl rfl
set_option maxRecDepth 20000 in
theorem ct_Mach_208 : Cond.constantLong "InstrumentFiles$Machine" 208 (439905906546) ∈ lw_gd := mem_4 26 rfl rfl
set_option maxRecDepth 20000 in
theorem ct_Pool_38 : Cond.constantLong "InstrumentFiles$Pool" 38 (6382195) ∈ lw_gd := mem_2 233 rfl rfl
set_option maxRecDepth 20000 in
theorem ct_Pool_40 : Cond.constantLong "InstrumentFiles$Pool" 40 (1919905652) ∈ lw_gd := mem_2 234 rfl rfl
set_option maxRecDepth 20000 in
theorem ct_Pool_42 : Cond.constantLong "InstrumentFiles$Pool" 42 (439905906546) ∈ lw_gd := mem_2 235 rfl rfl
set_option maxRecDepth 20000 in
theorem ct_Pool_44 : Cond.constantLong "InstrumentFiles$Pool" 44 (1936287598) ∈ lw_gd := mem_2 236 rfl rfl
set_option maxRecDepth 20000 in
theorem cs_Dbl_canonical : CSm y_Dbl_canonical c_Dbl_canonical 2 ((some .long)) 1 := ⟨mem_2 98 rfl rfl, mem_1 10 rfl rfl, mem_2 99 rfl rfl, by decide +kernel⟩
set_option maxRecDepth 20000 in
theorem cs_Dbl_isNan : CSm y_Dbl_isNan c_Dbl_isNan 2 ((some .boolean)) 1 := ⟨mem_2 101 rfl rfl, mem_1 10 rfl rfl, mem_2 102 rfl rfl, by decide +kernel⟩
set_option maxRecDepth 20000 in
theorem cs_Dbl_absolute : CSm y_Dbl_absolute c_Dbl_absolute 2 ((some .long)) 1 := ⟨mem_3 191 rfl rfl, mem_1 10 rfl rfl, mem_3 192 rfl rfl, by decide +kernel⟩
set_option maxRecDepth 20000 in
theorem cs_Dbl_negate : CSm y_Dbl_negate c_Dbl_negate 2 ((some .long)) 1 := ⟨mem_3 218 rfl rfl, mem_1 10 rfl rfl, mem_3 219 rfl rfl, by decide +kernel⟩
set_option maxRecDepth 20000 in
theorem cs_Dbl_scaleOf : CSm y_Dbl_scaleOf c_Dbl_scaleOf 2 ((some .int)) 1 := ⟨mem_3 194 rfl rfl, mem_1 10 rfl rfl, mem_3 195 rfl rfl, by decide +kernel⟩
set_option maxRecDepth 20000 in
theorem cs_Dbl_digitsOf : CSm y_Dbl_digitsOf c_Dbl_digitsOf 4 ((some .long)) 1 := ⟨mem_3 198 rfl rfl, mem_1 10 rfl rfl, mem_3 199 rfl rfl, by decide +kernel⟩
set_option maxRecDepth 20000 in
theorem cs_Dbl_add : CSm y_Dbl_add c_Dbl_add 14 ((some .long)) 2 := ⟨mem_3 188 rfl rfl, mem_1 10 rfl rfl, mem_3 189 rfl rfl, by decide +kernel⟩
set_option maxRecDepth 20000 in
theorem cs_Dbl_multiply : CSm y_Dbl_multiply c_Dbl_multiply 14 ((some .long)) 2 := ⟨mem_3 222 rfl rfl, mem_1 10 rfl rfl, mem_3 223 rfl rfl, by decide +kernel⟩
set_option maxRecDepth 20000 in
theorem cs_Dbl_productAbove49 : CSm y_Dbl_productAbove49 c_Dbl_productAbove49 12 ((some .long)) 2 := ⟨mem_3 225 rfl rfl, mem_1 10 rfl rfl, mem_3 226 rfl rfl, by decide +kernel⟩
set_option maxRecDepth 20000 in
theorem cs_Dbl_divide : CSm y_Dbl_divide c_Dbl_divide 14 ((some .long)) 2 := ⟨mem_3 229 rfl rfl, mem_1 10 rfl rfl, mem_3 230 rfl rfl, by decide +kernel⟩
set_option maxRecDepth 20000 in
theorem cs_Dbl_quotientWith60 : CSm y_Dbl_quotientWith60 c_Dbl_quotientWith60 9 ((some .long)) 2 := ⟨mem_3 232 rfl rfl, mem_1 10 rfl rfl, mem_3 233 rfl rfl, by decide +kernel⟩
set_option maxRecDepth 20000 in
theorem cs_Dbl_root : CSm y_Dbl_root c_Dbl_root 7 ((some .long)) 1 := ⟨mem_4 20 rfl rfl, mem_1 10 rfl rfl, mem_4 21 rfl rfl, by decide +kernel⟩
set_option maxRecDepth 20000 in
theorem cs_Dbl_rootWith29 : CSm y_Dbl_rootWith29 c_Dbl_rootWith29 11 ((some .long)) 1 := ⟨mem_4 23 rfl rfl, mem_1 10 rfl rfl, mem_4 24 rfl rfl, by decide +kernel⟩
set_option maxRecDepth 20000 in
theorem cs_Dbl_floor : CSm y_Dbl_floor c_Dbl_floor 6 ((some .long)) 1 := ⟨mem_4 28 rfl rfl, mem_1 10 rfl rfl, mem_4 29 rfl rfl, by decide +kernel⟩
set_option maxRecDepth 20000 in
theorem cs_Dbl_sign : CSm y_Dbl_sign c_Dbl_sign 2 ((some .long)) 1 := ⟨mem_4 33 rfl rfl, mem_1 10 rfl rfl, mem_4 34 rfl rfl, by decide +kernel⟩
set_option maxRecDepth 20000 in
theorem cs_Dbl_isBelow : CSm y_Dbl_isBelow c_Dbl_isBelow 8 ((some .boolean)) 2 := ⟨mem_4 10 rfl rfl, mem_1 10 rfl rfl, mem_4 11 rfl rfl, by decide +kernel⟩
set_option maxRecDepth 20000 in
theorem cs_Dbl_fromInt : CSm y_Dbl_fromInt c_Dbl_fromInt 3 ((some .long)) 1 := ⟨mem_3 239 rfl rfl, mem_1 10 rfl rfl, mem_4 0 rfl rfl, by decide +kernel⟩
set_option maxRecDepth 20000 in
theorem cs_Dbl_toInt : CSm y_Dbl_toInt c_Dbl_toInt 4 ((some .int)) 1 := ⟨mem_4 5 rfl rfl, mem_1 10 rfl rfl, mem_4 6 rfl rfl, by decide +kernel⟩
set_option maxRecDepth 20000 in
theorem cs_Dbl_rounded : CSm y_Dbl_rounded c_Dbl_rounded 13 ((some .long)) 3 := ⟨mem_3 207 rfl rfl, mem_1 10 rfl rfl, mem_3 208 rfl rfl, by decide +kernel⟩
set_option maxRecDepth 20000 in
theorem cs_Dbl_shiftedDown : CSm y_Dbl_shiftedDown c_Dbl_shiftedDown 5 ((some .long)) 2 := ⟨mem_3 203 rfl rfl, mem_1 10 rfl rfl, mem_3 204 rfl rfl, by decide +kernel⟩
set_option maxRecDepth 20000 in
theorem cs_Dbl_leadingZeros : CSm y_Dbl_leadingZeros c_Dbl_leadingZeros 6 ((some .int)) 1 := ⟨mem_3 210 rfl rfl, mem_1 10 rfl rfl, mem_3 211 rfl rfl, by decide +kernel⟩
set_option maxRecDepth 20000 in
theorem cv_Judge_judgeMethod : CVm y_Judge_judgeMethod c_Judge_judgeMethod 6 ((some .int)) 2 6 := ⟨⟨_, _, rfl⟩, mem_2 175 rfl rfl, mem_2 176 rfl rfl, mem_1 7 rfl rfl, mem_2 177 rfl rfl, by decide +kernel⟩
set_option maxRecDepth 20000 in
theorem cv_Judge_judgeMapPlaces : CVm y_Judge_judgeMapPlaces c_Judge_judgeMapPlaces 3 ((some .int)) 1 6 := ⟨⟨_, _, rfl⟩, mem_3 53 rfl rfl, mem_p 17 (by decide +kernel) rfl, mem_1 7 rfl rfl, mem_3 54 rfl rfl, by decide +kernel⟩
set_option maxRecDepth 20000 in
theorem cv_Judge_judgeOp : CVm y_Judge_judgeOp c_Judge_judgeOp 7 ((some .int)) 2 6 := ⟨⟨_, _, rfl⟩, mem_2 185 rfl rfl, mem_p 9 (by decide +kernel) rfl, mem_1 7 rfl rfl, mem_2 186 rfl rfl, by decide +kernel⟩
set_option maxRecDepth 20000 in
theorem cv_Judge_meetsMap : CVm y_Judge_meetsMap c_Judge_meetsMap 4 ((some .boolean)) 1 6 := ⟨⟨_, _, rfl⟩, mem_2 189 rfl rfl, mem_p 10 (by decide +kernel) rfl, mem_1 7 rfl rfl, mem_2 190 rfl rfl, by decide +kernel⟩
set_option maxRecDepth 20000 in
theorem cv_Judge_reaches : CVm y_Judge_reaches c_Judge_reaches 4 ((some .boolean)) 2 6 := ⟨⟨_, _, rfl⟩, mem_3 48 rfl rfl, mem_p 16 (by decide +kernel) rfl, mem_1 7 rfl rfl, mem_3 49 rfl rfl, by decide +kernel⟩
set_option maxRecDepth 20000 in
theorem cv_Judge_hasEntry : CVm y_Judge_hasEntry c_Judge_hasEntry 5 ((some .boolean)) 4 6 := ⟨⟨_, _, rfl⟩, mem_2 224 rfl rfl, mem_p 11 (by decide +kernel) rfl, mem_1 7 rfl rfl, mem_2 225 rfl rfl, by decide +kernel⟩
set_option maxRecDepth 20000 in
theorem cv_Judge_judgeCall : CVm y_Judge_judgeCall c_Judge_judgeCall 5 ((some .int)) 2 6 := ⟨⟨_, _, rfl⟩, mem_2 239 rfl rfl, mem_p 12 (by decide +kernel) rfl, mem_1 7 rfl rfl, mem_3 0 rfl rfl, by decide +kernel⟩
set_option maxRecDepth 20000 in
theorem cv_Judge_judgeStack : CVm y_Judge_judgeStack c_Judge_judgeStack 8 ((some .int)) 3 6 := ⟨⟨_, _, rfl⟩, mem_3 24 rfl rfl, mem_p 15 (by decide +kernel) rfl, mem_1 7 rfl rfl, mem_3 25 rfl rfl, by decide +kernel⟩
set_option maxRecDepth 20000 in
theorem cv_Judge_popped : CVm y_Judge_popped c_Judge_popped 2 ((some .int)) 0 6 := ⟨⟨_, _, rfl⟩, mem_3 4 rfl rfl, mem_p 13 (by decide +kernel) rfl, mem_1 7 rfl rfl, mem_3 5 rfl rfl, by decide +kernel⟩
set_option maxRecDepth 20000 in
theorem cv_Judge_push : CVm y_Judge_push c_Judge_push 3 ((some .int)) 2 6 := ⟨⟨_, _, rfl⟩, mem_3 19 rfl rfl, mem_p 14 (by decide +kernel) rfl, mem_1 7 rfl rfl, mem_3 20 rfl rfl, by decide +kernel⟩
set_option maxRecDepth 20000 in
theorem cs_Kinds_depth : CSm y_Kinds_depth c_Kinds_depth 1 ((some .int)) 1 := ⟨mem_2 165 rfl rfl, mem_1 11 rfl rfl, mem_2 166 rfl rfl, by decide +kernel⟩
set_option maxRecDepth 20000 in
theorem cs_Kinds_item : CSm y_Kinds_item c_Kinds_item 2 ((some .int)) 2 := ⟨mem_3 7 rfl rfl, mem_1 11 rfl rfl, mem_3 8 rfl rfl, by decide +kernel⟩
set_option maxRecDepth 20000 in
theorem cs_Kinds_local : CSm y_Kinds_local c_Kinds_local 2 ((some .int)) 2 := ⟨mem_2 200 rfl rfl, mem_1 11 rfl rfl, mem_2 201 rfl rfl, by decide +kernel⟩
set_option maxRecDepth 20000 in
theorem cs_Kinds_push : CSm y_Kinds_push c_Kinds_push 2 ((some .int)) 2 := ⟨mem_2 162 rfl rfl, mem_1 11 rfl rfl, mem_2 163 rfl rfl, by decide +kernel⟩
set_option maxRecDepth 20000 in
theorem cs_Kinds_pop : CSm y_Kinds_pop c_Kinds_pop 2 ((some .int)) 1 := ⟨mem_3 10 rfl rfl, mem_1 11 rfl rfl, mem_3 11 rfl rfl, by decide +kernel⟩
set_option maxRecDepth 20000 in
theorem cs_Kinds_withLocal : CSm y_Kinds_withLocal c_Kinds_withLocal 4 ((some .int)) 3 := ⟨mem_2 143 rfl rfl, mem_1 11 rfl rfl, mem_2 144 rfl rfl, by decide +kernel⟩
set_option maxRecDepth 20000 in
theorem cs_Kinds_fits : CSm y_Kinds_fits c_Kinds_fits 5 ((some .boolean)) 2 := ⟨mem_2 196 rfl rfl, mem_1 11 rfl rfl, mem_2 197 rfl rfl, by decide +kernel⟩
set_option maxRecDepth 20000 in
theorem cv_Mach_setTable : CVm y_Mach_setTable c_Mach_setTable 5 ((some .boolean)) 2 7 := ⟨⟨_, _, rfl⟩, mem_3 74 rfl rfl, mem_3 75 rfl rfl, mem_1 8 rfl rfl, mem_3 76 rfl rfl, by decide +kernel⟩
set_option maxRecDepth 20000 in
theorem cv_Mach_prepare : CVm y_Mach_prepare c_Mach_prepare 2 (none) 1 7 := ⟨⟨_, _, rfl⟩, mem_3 115 rfl rfl, mem_3 116 rfl rfl, mem_1 8 rfl rfl, mem_3 117 rfl rfl, by decide +kernel⟩
set_option maxRecDepth 20000 in
theorem cv_Mach_giveArgument : CVm y_Mach_giveArgument c_Mach_giveArgument 5 (none) 3 7 := ⟨⟨_, _, rfl⟩, mem_3 126 rfl rfl, mem_3 127 rfl rfl, mem_1 8 rfl rfl, mem_3 128 rfl rfl, by decide +kernel⟩
set_option maxRecDepth 20000 in
theorem cv_Mach_run : CVm y_Mach_run c_Mach_run 4 (none) 2 7 := ⟨⟨_, _, rfl⟩, mem_3 136 rfl rfl, mem_3 137 rfl rfl, mem_1 8 rfl rfl, mem_3 138 rfl rfl, by decide +kernel⟩
set_option maxRecDepth 20000 in
theorem cv_Mach_enter : CVm y_Mach_enter c_Mach_enter 2 (none) 1 7 := ⟨⟨_, _, rfl⟩, mem_3 120 rfl rfl, mem_p 18 (by decide +kernel) rfl, mem_1 8 rfl rfl, mem_3 121 rfl rfl, by decide +kernel⟩
set_option maxRecDepth 20000 in
theorem cv_Mach_leave : CVm y_Mach_leave c_Mach_leave 4 (none) 0 7 := ⟨⟨_, _, rfl⟩, mem_4 46 rfl rfl, mem_p 35 (by decide +kernel) rfl, mem_1 8 rfl rfl, mem_4 47 rfl rfl, by decide +kernel⟩
set_option maxRecDepth 20000 in
theorem cv_Mach_fail : CVm y_Mach_fail c_Mach_fail 2 (none) 1 7 := ⟨⟨_, _, rfl⟩, mem_3 181 rfl rfl, mem_p 29 (by decide +kernel) rfl, mem_1 8 rfl rfl, mem_3 182 rfl rfl, by decide +kernel⟩
set_option maxRecDepth 20000 in
theorem cv_Mach_nextPlace : CVm y_Mach_nextPlace c_Mach_nextPlace 2 ((some .int)) 0 7 := ⟨⟨_, _, rfl⟩, mem_3 150 rfl rfl, mem_p 22 (by decide +kernel) rfl, mem_1 8 rfl rfl, mem_3 151 rfl rfl, by decide +kernel⟩
set_option maxRecDepth 20000 in
theorem cv_Mach_goTo : CVm y_Mach_goTo c_Mach_goTo 3 (none) 1 7 := ⟨⟨_, _, rfl⟩, mem_3 156 rfl rfl, mem_p 23 (by decide +kernel) rfl, mem_1 8 rfl rfl, mem_3 157 rfl rfl, by decide +kernel⟩
set_option maxRecDepth 20000 in
theorem cv_Mach_openMethod : CVm y_Mach_openMethod c_Mach_openMethod 3 ((some (.object "InstrumentFiles$Method"))) 1 7 := ⟨⟨_, _, rfl⟩, mem_3 145 rfl rfl, mem_p 21 (by decide +kernel) rfl, mem_1 8 rfl rfl, mem_3 146 rfl rfl, by decide +kernel⟩
set_option maxRecDepth 20000 in
theorem cv_Mach_push : CVm y_Mach_push c_Mach_push 3 (none) 1 7 := ⟨⟨_, _, rfl⟩, mem_3 165 rfl rfl, mem_p 25 (by decide +kernel) rfl, mem_1 8 rfl rfl, mem_3 166 rfl rfl, by decide +kernel⟩
set_option maxRecDepth 20000 in
theorem cv_Mach_pop : CVm y_Mach_pop c_Mach_pop 2 ((some .long)) 0 7 := ⟨⟨_, _, rfl⟩, mem_3 173 rfl rfl, mem_p 27 (by decide +kernel) rfl, mem_1 8 rfl rfl, mem_3 174 rfl rfl, by decide +kernel⟩
set_option maxRecDepth 20000 in
theorem cv_Mach_local : CVm y_Mach_local c_Mach_local 3 ((some .long)) 1 7 := ⟨⟨_, _, rfl⟩, mem_3 169 rfl rfl, mem_p 26 (by decide +kernel) rfl, mem_1 8 rfl rfl, mem_3 170 rfl rfl, by decide +kernel⟩
set_option maxRecDepth 20000 in
theorem cv_Mach_setLocal : CVm y_Mach_setLocal c_Mach_setLocal 5 (none) 2 7 := ⟨⟨_, _, rfl⟩, mem_3 133 rfl rfl, mem_p 19 (by decide +kernel) rfl, mem_1 8 rfl rfl, mem_3 134 rfl rfl, by decide +kernel⟩
set_option maxRecDepth 20000 in
theorem cv_Mach_runOp : CVm y_Mach_runOp c_Mach_runOp 5 (none) 1 7 := ⟨⟨_, _, rfl⟩, mem_3 141 rfl rfl, mem_p 20 (by decide +kernel) rfl, mem_1 8 rfl rfl, mem_3 142 rfl rfl, by decide +kernel⟩
set_option maxRecDepth 20000 in
theorem cv_Mach_runMove : CVm y_Mach_runMove c_Mach_runMove 6 (none) 3 7 := ⟨⟨_, _, rfl⟩, mem_3 160 rfl rfl, mem_p 24 (by decide +kernel) rfl, mem_1 8 rfl rfl, mem_3 161 rfl rfl, by decide +kernel⟩
set_option maxRecDepth 20000 in
theorem cv_Mach_runInts : CVm y_Mach_runInts c_Mach_runInts 4 (none) 1 7 := ⟨⟨_, _, rfl⟩, mem_3 177 rfl rfl, mem_p 28 (by decide +kernel) rfl, mem_1 8 rfl rfl, mem_3 178 rfl rfl, by decide +kernel⟩
set_option maxRecDepth 20000 in
theorem cv_Mach_runDoubles : CVm y_Mach_runDoubles c_Mach_runDoubles 6 (none) 1 7 := ⟨⟨_, _, rfl⟩, mem_3 185 rfl rfl, mem_p 30 (by decide +kernel) rfl, mem_1 8 rfl rfl, mem_3 186 rfl rfl, by decide +kernel⟩
set_option maxRecDepth 20000 in
theorem cv_Mach_runChange : CVm y_Mach_runChange c_Mach_runChange 4 (none) 1 7 := ⟨⟨_, _, rfl⟩, mem_3 236 rfl rfl, mem_p 31 (by decide +kernel) rfl, mem_1 8 rfl rfl, mem_3 237 rfl rfl, by decide +kernel⟩
set_option maxRecDepth 20000 in
theorem cv_Mach_runRest : CVm y_Mach_runRest c_Mach_runRest 4 (none) 3 7 := ⟨⟨_, _, rfl⟩, mem_4 38 rfl rfl, mem_p 33 (by decide +kernel) rfl, mem_1 8 rfl rfl, mem_4 39 rfl rfl, by decide +kernel⟩
set_option maxRecDepth 20000 in
theorem cv_Mach_callInside : CVm y_Mach_callInside c_Mach_callInside 5 (none) 2 7 := ⟨⟨_, _, rfl⟩, mem_4 42 rfl rfl, mem_p 34 (by decide +kernel) rfl, mem_1 8 rfl rfl, mem_4 43 rfl rfl, by decide +kernel⟩
set_option maxRecDepth 20000 in
theorem cv_Mach_pushFromTable : CVm y_Mach_pushFromTable c_Mach_pushFromTable 3 (none) 1 7 := ⟨⟨_, _, rfl⟩, mem_4 50 rfl rfl, mem_p 36 (by decide +kernel) rfl, mem_1 8 rfl rfl, mem_4 51 rfl rfl, by decide +kernel⟩
set_option maxRecDepth 20000 in
theorem cv_Mach_runListed : CVm y_Mach_runListed c_Mach_runListed 5 (none) 1 7 := ⟨⟨_, _, rfl⟩, mem_4 14 rfl rfl, mem_p 32 (by decide +kernel) rfl, mem_1 8 rfl rfl, mem_4 15 rfl rfl, by decide +kernel⟩
set_option maxRecDepth 20000 in
theorem cv_Meth_isAside : CVm y_Meth_isAside c_Meth_isAside 1 ((some .boolean)) 0 4 := ⟨⟨_, _, rfl⟩, mem_3 83 rfl rfl, mem_3 84 rfl rfl, mem_1 5 rfl rfl, mem_3 85 rfl rfl, by decide +kernel⟩
set_option maxRecDepth 20000 in
theorem cv_Meth_takenKind : CVm y_Meth_takenKind c_Meth_takenKind 2 ((some .int)) 1 4 := ⟨⟨_, _, rfl⟩, mem_3 13 rfl rfl, mem_3 14 rfl rfl, mem_1 5 rfl rfl, mem_3 15 rfl rfl, by decide +kernel⟩
set_option maxRecDepth 20000 in
theorem cv_Meth_codeAt : CVm y_Meth_codeAt c_Meth_codeAt 2 ((some .int)) 1 4 := ⟨⟨_, _, rfl⟩, mem_2 207 rfl rfl, mem_2 208 rfl rfl, mem_1 5 rfl rfl, mem_2 209 rfl rfl, by decide +kernel⟩
set_option maxRecDepth 20000 in
theorem cv_Meth_setCode : CVm y_Meth_setCode c_Meth_setCode 3 (none) 2 4 := ⟨⟨_, _, rfl⟩, mem_2 150 rfl rfl, mem_2 151 rfl rfl, mem_1 5 rfl rfl, mem_2 152 rfl rfl, by decide +kernel⟩
set_option maxRecDepth 20000 in
theorem cv_Meth_appendMap : CVm y_Meth_appendMap c_Meth_appendMap 3 (none) 2 4 := ⟨⟨_, _, rfl⟩, mem_2 169 rfl rfl, mem_2 170 rfl rfl, mem_1 5 rfl rfl, mem_2 171 rfl rfl, by decide +kernel⟩
set_option maxRecDepth 20000 in
theorem cv_Meth_mapPlace : CVm y_Meth_mapPlace c_Meth_mapPlace 2 ((some .int)) 1 4 := ⟨⟨_, _, rfl⟩, mem_3 56 rfl rfl, mem_3 57 rfl rfl, mem_1 5 rfl rfl, mem_3 58 rfl rfl, by decide +kernel⟩
set_option maxRecDepth 20000 in
theorem cv_Meth_mapAt : CVm y_Meth_mapAt c_Meth_mapAt 3 ((some .int)) 1 4 := ⟨⟨_, _, rfl⟩, mem_2 192 rfl rfl, mem_2 193 rfl rfl, mem_1 5 rfl rfl, mem_2 194 rfl rfl, by decide +kernel⟩
set_option maxRecDepth 20000 in
theorem cv_Meth_kindsAt : CVm y_Meth_kindsAt c_Meth_kindsAt 2 ((some .int)) 1 4 := ⟨⟨_, _, rfl⟩, mem_3 60 rfl rfl, mem_3 61 rfl rfl, mem_1 5 rfl rfl, mem_3 62 rfl rfl, by decide +kernel⟩
set_option maxRecDepth 20000 in
theorem cv_Meth_setKinds : CVm y_Meth_setKinds c_Meth_setKinds 3 (none) 2 4 := ⟨⟨_, _, rfl⟩, mem_2 203 rfl rfl, mem_2 204 rfl rfl, mem_1 5 rfl rfl, mem_2 205 rfl rfl, by decide +kernel⟩
set_option maxRecDepth 20000 in
theorem cv_Meth_forgetJudgement : CVm y_Meth_forgetJudgement c_Meth_forgetJudgement 2 (none) 0 4 := ⟨⟨_, _, rfl⟩, mem_2 180 rfl rfl, mem_2 181 rfl rfl, mem_1 5 rfl rfl, mem_2 182 rfl rfl, by decide +kernel⟩
set_option maxRecDepth 20000 in
theorem cs_Ops_isOp : CSm y_Ops_isOp c_Ops_isOp 1 ((some .boolean)) 1 := ⟨mem_2 211 rfl rfl, mem_1 12 rfl rfl, mem_2 212 rfl rfl, by decide +kernel⟩
set_option maxRecDepth 20000 in
theorem cs_Ops_hasByte : CSm y_Ops_hasByte c_Ops_hasByte 1 ((some .boolean)) 1 := ⟨mem_2 217 rfl rfl, mem_1 12 rfl rfl, mem_2 218 rfl rfl, by decide +kernel⟩
set_option maxRecDepth 20000 in
theorem cs_Ops_size : CSm y_Ops_size c_Ops_size 1 ((some .int)) 1 := ⟨mem_2 214 rfl rfl, mem_1 12 rfl rfl, mem_2 215 rfl rfl, by decide +kernel⟩
set_option maxRecDepth 20000 in
theorem cs_Ops_goesOn : CSm y_Ops_goesOn c_Ops_goesOn 1 ((some .boolean)) 1 := ⟨mem_2 220 rfl rfl, mem_1 12 rfl rfl, mem_2 221 rfl rfl, by decide +kernel⟩
set_option maxRecDepth 20000 in
theorem cs_Ops_jumps : CSm y_Ops_jumps c_Ops_jumps 1 ((some .boolean)) 1 := ⟨mem_3 44 rfl rfl, mem_1 12 rfl rfl, mem_3 45 rfl rfl, by decide +kernel⟩
set_option maxRecDepth 20000 in
theorem cs_Ops_taken : CSm y_Ops_taken c_Ops_taken 1 ((some .int)) 1 := ⟨mem_3 27 rfl rfl, mem_1 12 rfl rfl, mem_3 28 rfl rfl, by decide +kernel⟩
set_option maxRecDepth 20000 in
theorem cs_Ops_takenKind : CSm y_Ops_takenKind c_Ops_takenKind 1 ((some .int)) 1 := ⟨mem_3 32 rfl rfl, mem_1 12 rfl rfl, mem_3 33 rfl rfl, by decide +kernel⟩
set_option maxRecDepth 20000 in
theorem cs_Ops_pushedKind : CSm y_Ops_pushedKind c_Ops_pushedKind 1 ((some .int)) 1 := ⟨mem_3 39 rfl rfl, mem_1 12 rfl rfl, mem_3 40 rfl rfl, by decide +kernel⟩
set_option maxRecDepth 20000 in
theorem cv_Pool_has : CVm y_Pool_has c_Pool_has 2 ((some .boolean)) 1 3 := ⟨⟨_, _, rfl⟩, mem_2 127 rfl rfl, mem_2 128 rfl rfl, mem_1 4 rfl rfl, mem_2 129 rfl rfl, by decide +kernel⟩
set_option maxRecDepth 20000 in
theorem cv_Pool_isTagged : CVm y_Pool_isTagged c_Pool_isTagged 3 ((some .boolean)) 2 3 := ⟨⟨_, _, rfl⟩, mem_2 123 rfl rfl, mem_2 124 rfl rfl, mem_1 4 rfl rfl, mem_2 125 rfl rfl, by decide +kernel⟩
set_option maxRecDepth 20000 in
theorem cv_Pool_isListed : CVm y_Pool_isListed c_Pool_isListed 4 ((some .boolean)) 1 3 := ⟨⟨_, _, rfl⟩, mem_2 228 rfl rfl, mem_2 229 rfl rfl, mem_1 4 rfl rfl, mem_2 230 rfl rfl, by decide +kernel⟩
set_option maxRecDepth 20000 in
theorem cv_Pool_tagOf : CVm y_Pool_tagOf c_Pool_tagOf 2 ((some .int)) 1 3 := ⟨⟨_, _, rfl⟩, mem_3 93 rfl rfl, mem_3 94 rfl rfl, mem_1 4 rfl rfl, mem_3 95 rfl rfl, by decide +kernel⟩
set_option maxRecDepth 20000 in
theorem cv_Pool_sizeOf : CVm y_Pool_sizeOf c_Pool_sizeOf 2 ((some .int)) 1 3 := ⟨⟨_, _, rfl⟩, mem_3 98 rfl rfl, mem_3 99 rfl rfl, mem_1 4 rfl rfl, mem_3 100 rfl rfl, by decide +kernel⟩
set_option maxRecDepth 20000 in
theorem cv_Pool_valueOf : CVm y_Pool_valueOf c_Pool_valueOf 2 ((some .long)) 1 3 := ⟨⟨_, _, rfl⟩, mem_2 135 rfl rfl, mem_2 136 rfl rfl, mem_1 4 rfl rfl, mem_2 137 rfl rfl, by decide +kernel⟩
set_option maxRecDepth 20000 in
theorem cv_Pool_append : CVm y_Pool_append c_Pool_append 5 (none) 3 3 := ⟨⟨_, _, rfl⟩, mem_2 94 rfl rfl, mem_2 95 rfl rfl, mem_1 4 rfl rfl, mem_2 96 rfl rfl, by decide +kernel⟩
set_option maxRecDepth 20000 in
theorem cv_Prog_forget : CVm y_Prog_forget c_Prog_forget 1 (none) 0 2 := ⟨⟨_, _, rfl⟩, mem_2 77 rfl rfl, mem_2 78 rfl rfl, mem_1 3 rfl rfl, mem_2 79 rfl rfl, by decide +kernel⟩
set_option maxRecDepth 20000 in
theorem cv_Prog_methodAt : CVm y_Prog_methodAt c_Prog_methodAt 2 ((some (.object "InstrumentFiles$Method"))) 1 2 := ⟨⟨_, _, rfl⟩, mem_2 131 rfl rfl, mem_2 132 rfl rfl, mem_1 3 rfl rfl, mem_2 133 rfl rfl, by decide +kernel⟩
set_option maxRecDepth 20000 in
theorem cv_Prog_nextMethod : CVm y_Prog_nextMethod c_Prog_nextMethod 1 ((some (.object "InstrumentFiles$Method"))) 0 2 := ⟨⟨_, _, rfl⟩, mem_2 111 rfl rfl, mem_2 112 rfl rfl, mem_1 3 rfl rfl, mem_2 113 rfl rfl, by decide +kernel⟩
set_option maxRecDepth 20000 in
theorem cv_Prog_canName : CVm y_Prog_canName c_Prog_canName 5 ((some .boolean)) 1 2 := ⟨⟨_, _, rfl⟩, mem_2 119 rfl rfl, mem_2 120 rfl rfl, mem_1 3 rfl rfl, mem_2 121 rfl rfl, by decide +kernel⟩
set_option maxRecDepth 20000 in
theorem cv_Read_readFile : CVm y_Read_readFile c_Read_readFile 4 (none) 2 5 := ⟨⟨_, _, rfl⟩, mem_2 73 rfl rfl, mem_2 74 rfl rfl, mem_1 6 rfl rfl, mem_2 75 rfl rfl, by decide +kernel⟩
set_option maxRecDepth 20000 in
theorem cv_Read_take : CVm y_Read_take c_Read_take 6 ((some .int)) 4 5 := ⟨⟨_, _, rfl⟩, mem_2 82 rfl rfl, mem_p 0 (by decide +kernel) rfl, mem_1 6 rfl rfl, mem_2 83 rfl rfl, by decide +kernel⟩
set_option maxRecDepth 20000 in
theorem cv_Read_takeMany : CVm y_Read_takeMany c_Read_takeMany 8 ((some .long)) 4 5 := ⟨⟨_, _, rfl⟩, mem_2 91 rfl rfl, mem_p 2 (by decide +kernel) rfl, mem_1 6 rfl rfl, mem_2 92 rfl rfl, by decide +kernel⟩
set_option maxRecDepth 20000 in
theorem cv_Read_readPool : CVm y_Read_readPool c_Read_readPool 7 (none) 2 5 := ⟨⟨_, _, rfl⟩, mem_2 87 rfl rfl, mem_p 1 (by decide +kernel) rfl, mem_1 6 rfl rfl, mem_2 88 rfl rfl, by decide +kernel⟩
set_option maxRecDepth 20000 in
theorem cv_Read_readMethods : CVm y_Read_readMethods c_Read_readMethods 6 (none) 2 5 := ⟨⟨_, _, rfl⟩, mem_2 108 rfl rfl, mem_p 3 (by decide +kernel) rfl, mem_1 6 rfl rfl, mem_2 109 rfl rfl, by decide +kernel⟩
set_option maxRecDepth 20000 in
theorem cv_Read_takeName : CVm y_Read_takeName c_Read_takeName 4 ((some .int)) 2 5 := ⟨⟨_, _, rfl⟩, mem_2 116 rfl rfl, mem_p 4 (by decide +kernel) rfl, mem_1 6 rfl rfl, mem_2 117 rfl rfl, by decide +kernel⟩
set_option maxRecDepth 20000 in
theorem cv_Read_readHead : CVm y_Read_readHead c_Read_readHead 4 (none) 2 5 := ⟨⟨_, _, rfl⟩, mem_2 140 rfl rfl, mem_p 5 (by decide +kernel) rfl, mem_1 6 rfl rfl, mem_2 141 rfl rfl, by decide +kernel⟩
set_option maxRecDepth 20000 in
theorem cv_Read_readCode : CVm y_Read_readCode c_Read_readCode 4 (none) 2 5 := ⟨⟨_, _, rfl⟩, mem_2 147 rfl rfl, mem_p 6 (by decide +kernel) rfl, mem_1 6 rfl rfl, mem_2 148 rfl rfl, by decide +kernel⟩
set_option maxRecDepth 20000 in
theorem cv_Read_readMaps : CVm y_Read_readMaps c_Read_readMaps 7 (none) 2 5 := ⟨⟨_, _, rfl⟩, mem_2 155 rfl rfl, mem_p 7 (by decide +kernel) rfl, mem_1 6 rfl rfl, mem_2 156 rfl rfl, by decide +kernel⟩
set_option maxRecDepth 20000 in
theorem cv_Read_takeMapKinds : CVm y_Read_takeMapKinds c_Read_takeMapKinds 6 ((some .int)) 2 5 := ⟨⟨_, _, rfl⟩, mem_2 159 rfl rfl, mem_p 8 (by decide +kernel) rfl, mem_1 6 rfl rfl, mem_2 160 rfl rfl, by decide +kernel⟩
set_option maxRecDepth 20000 in
theorem cv_Tape_has : CVm y_Tape_has c_Tape_has 2 ((some .boolean)) 1 1 := ⟨⟨_, _, rfl⟩, mem_2 44 rfl rfl, mem_2 45 rfl rfl, mem_1 2 rfl rfl, mem_2 46 rfl rfl, by decide +kernel⟩
set_option maxRecDepth 20000 in
theorem cv_Tape_byteAt : CVm y_Tape_byteAt c_Tape_byteAt 2 ((some .int)) 1 1 := ⟨⟨_, _, rfl⟩, mem_2 48 rfl rfl, mem_2 49 rfl rfl, mem_1 2 rfl rfl, mem_2 50 rfl rfl, by decide +kernel⟩
set_option maxRecDepth 20000 in
theorem cv_Tape_replace : CVm y_Tape_replace c_Tape_replace 3 ((some .int)) 2 1 := ⟨⟨_, _, rfl⟩, mem_2 53 rfl rfl, mem_2 54 rfl rfl, mem_1 2 rfl rfl, mem_2 55 rfl rfl, by decide +kernel⟩
set_option maxRecDepth 20000 in
theorem cv_Tape_append : CVm y_Tape_append c_Tape_append 2 (none) 1 1 := ⟨⟨_, _, rfl⟩, mem_2 32 rfl rfl, mem_2 33 rfl rfl, mem_1 2 rfl rfl, mem_2 34 rfl rfl, by decide +kernel⟩
set_option maxRecDepth 20000 in
theorem cv_Tape_sumAhead : CVm y_Tape_sumAhead c_Tape_sumAhead 4 ((some .int)) 1 1 := ⟨⟨_, _, rfl⟩, mem_2 65 rfl rfl, mem_2 66 rfl rfl, mem_1 2 rfl rfl, mem_2 67 rfl rfl, by decide +kernel⟩
set_option maxRecDepth 20000 in
theorem cv_IF_feed : CVm y_IF_feed c_IF_feed 5 ((some .int)) 2 0 := ⟨⟨_, _, rfl⟩, mem_2 28 rfl rfl, mem_2 29 rfl rfl, mem_1 1 rfl rfl, mem_2 30 rfl rfl, by decide +kernel⟩
set_option maxRecDepth 20000 in
theorem cv_IF_wipe : CVm y_IF_wipe c_IF_wipe 2 ((some .int)) 0 0 := ⟨⟨_, _, rfl⟩, mem_2 36 rfl rfl, mem_2 37 rfl rfl, mem_1 1 rfl rfl, mem_2 38 rfl rfl, by decide +kernel⟩
set_option maxRecDepth 20000 in
theorem cv_IF_alter : CVm y_IF_alter c_IF_alter 3 ((some .int)) 2 0 := ⟨⟨_, _, rfl⟩, mem_2 40 rfl rfl, mem_2 41 rfl rfl, mem_1 1 rfl rfl, mem_2 42 rfl rfl, by decide +kernel⟩
set_option maxRecDepth 20000 in
theorem cv_IF_at : CVm y_IF_at c_IF_at 2 ((some .int)) 1 0 := ⟨⟨_, _, rfl⟩, mem_2 57 rfl rfl, mem_2 58 rfl rfl, mem_1 1 rfl rfl, mem_2 59 rfl rfl, by decide +kernel⟩
set_option maxRecDepth 20000 in
theorem cv_IF_seal : CVm y_IF_seal c_IF_seal 2 ((some .int)) 0 0 := ⟨⟨_, _, rfl⟩, mem_2 61 rfl rfl, mem_2 62 rfl rfl, mem_1 1 rfl rfl, mem_2 63 rfl rfl, by decide +kernel⟩
set_option maxRecDepth 20000 in
theorem cv_IF_read : CVm y_IF_read c_IF_read 3 ((some .int)) 0 0 := ⟨⟨_, _, rfl⟩, mem_2 69 rfl rfl, mem_2 70 rfl rfl, mem_1 1 rfl rfl, mem_2 71 rfl rfl, by decide +kernel⟩
set_option maxRecDepth 20000 in
theorem cv_IF_fault : CVm y_IF_fault c_IF_fault 1 ((some .int)) 0 0 := ⟨⟨_, _, rfl⟩, mem_3 65 rfl rfl, mem_3 66 rfl rfl, mem_1 1 rfl rfl, mem_3 67 rfl rfl, by decide +kernel⟩
set_option maxRecDepth 20000 in
theorem cv_IF_table : CVm y_IF_table c_IF_table 4 ((some .int)) 2 0 := ⟨⟨_, _, rfl⟩, mem_3 69 rfl rfl, mem_3 70 rfl rfl, mem_1 1 rfl rfl, mem_3 71 rfl rfl, by decide +kernel⟩
set_option maxRecDepth 20000 in
theorem cv_IF_method : CVm y_IF_method c_IF_method 4 ((some .int)) 2 0 := ⟨⟨_, _, rfl⟩, mem_3 78 rfl rfl, mem_3 79 rfl rfl, mem_1 1 rfl rfl, mem_3 80 rfl rfl, by decide +kernel⟩
set_option maxRecDepth 20000 in
theorem cv_IF_pool : CVm y_IF_pool c_IF_pool 4 ((some .long)) 2 0 := ⟨⟨_, _, rfl⟩, mem_3 87 rfl rfl, mem_3 88 rfl rfl, mem_1 1 rfl rfl, mem_3 89 rfl rfl, by decide +kernel⟩
set_option maxRecDepth 20000 in
theorem cv_IF_kind : CVm y_IF_kind c_IF_kind 6 ((some .int)) 3 0 := ⟨⟨_, _, rfl⟩, mem_3 104 rfl rfl, mem_3 105 rfl rfl, mem_1 1 rfl rfl, mem_3 106 rfl rfl, by decide +kernel⟩
set_option maxRecDepth 20000 in
theorem cv_IF_call : CVm y_IF_call c_IF_call 10 ((some .int)) 5 0 := ⟨⟨_, _, rfl⟩, mem_3 111 rfl rfl, mem_3 112 rfl rfl, mem_1 1 rfl rfl, mem_3 113 rfl rfl, by decide +kernel⟩
set_option maxRecDepth 20000 in
theorem cv_IF_result : CVm y_IF_result c_IF_result 1 ((some .long)) 0 0 := ⟨⟨_, _, rfl⟩, mem_4 54 rfl rfl, mem_4 55 rfl rfl, mem_1 1 rfl rfl, mem_4 56 rfl rfl, by decide +kernel⟩
set_option maxRecDepth 20000 in
theorem cv_IF_told : CVm y_IF_told c_IF_told 2 ((some .int)) 1 0 := ⟨⟨_, _, rfl⟩, mem_4 58 rfl rfl, mem_4 59 rfl rfl, mem_1 1 rfl rfl, mem_4 60 rfl rfl, by decide +kernel⟩
set_option maxRecDepth 20000 in
theorem cv_IF_count : CVm y_IF_count c_IF_count 2 ((some .int)) 1 0 := ⟨⟨_, _, rfl⟩, mem_4 62 rfl rfl, mem_4 63 rfl rfl, mem_1 1 rfl rfl, mem_4 64 rfl rfl, by decide +kernel⟩
set_option maxRecDepth 20000 in
theorem cs_M_in : CSm y_M_in c_M_in 3 ((some .boolean)) 3 := ⟨mem_4 226 rfl rfl, mem_1 9 rfl rfl, mem_4 227 rfl rfl, by decide +kernel⟩
set_option maxRecDepth 20000 in
theorem cv_M_feed : CVm y_M_feed c_M_feed 5 ((some .int)) 2 8 := ⟨⟨_, _, rfl⟩, mem_4 222 rfl rfl, mem_4 223 rfl rfl, mem_1 9 rfl rfl, mem_4 224 rfl rfl, by decide +kernel⟩
set_option maxRecDepth 20000 in
theorem cv_M_wipe : CVm y_M_wipe c_M_wipe 2 ((some .int)) 0 8 := ⟨⟨_, _, rfl⟩, mem_4 229 rfl rfl, mem_4 230 rfl rfl, mem_1 9 rfl rfl, mem_4 231 rfl rfl, by decide +kernel⟩
set_option maxRecDepth 20000 in
theorem cv_M_alter : CVm y_M_alter c_M_alter 3 ((some .int)) 2 8 := ⟨⟨_, _, rfl⟩, mem_4 233 rfl rfl, mem_4 234 rfl rfl, mem_1 9 rfl rfl, mem_4 235 rfl rfl, by decide +kernel⟩
set_option maxRecDepth 20000 in
theorem cv_M_at : CVm y_M_at c_M_at 2 ((some .int)) 1 8 := ⟨⟨_, _, rfl⟩, mem_4 237 rfl rfl, mem_4 238 rfl rfl, mem_1 9 rfl rfl, mem_4 239 rfl rfl, by decide +kernel⟩
set_option maxRecDepth 20000 in
theorem cv_M_sumAhead : CVm y_M_sumAhead c_M_sumAhead 4 ((some .int)) 1 8 := ⟨⟨_, _, rfl⟩, mem_5 6 rfl rfl, mem_p 37 (by decide +kernel) rfl, mem_1 9 rfl rfl, mem_5 7 rfl rfl, by decide +kernel⟩
set_option maxRecDepth 20000 in
theorem cv_M_seal : CVm y_M_seal c_M_seal 1 ((some .int)) 0 8 := ⟨⟨_, _, rfl⟩, mem_5 1 rfl rfl, mem_5 2 rfl rfl, mem_1 9 rfl rfl, mem_5 3 rfl rfl, by decide +kernel⟩
set_option maxRecDepth 20000 in
theorem cv_M_faults : CVm y_M_faults c_M_faults 3 (none) 2 8 := ⟨⟨_, _, rfl⟩, mem_5 26 rfl rfl, mem_p 41 (by decide +kernel) rfl, mem_1 9 rfl rfl, mem_5 27 rfl rfl, by decide +kernel⟩
set_option maxRecDepth 20000 in
theorem cv_M_take : CVm y_M_take c_M_take 1 ((some .int)) 0 8 := ⟨⟨_, _, rfl⟩, mem_5 22 rfl rfl, mem_p 40 (by decide +kernel) rfl, mem_1 9 rfl rfl, mem_5 23 rfl rfl, by decide +kernel⟩
set_option maxRecDepth 20000 in
theorem cv_M_taken : CVm y_M_taken c_M_taken 5 ((some .int)) 3 8 := ⟨⟨_, _, rfl⟩, mem_5 18 rfl rfl, mem_p 39 (by decide +kernel) rfl, mem_1 9 rfl rfl, mem_5 19 rfl rfl, by decide +kernel⟩
set_option maxRecDepth 20000 in
theorem cv_M_takeLong : CVm y_M_takeLong c_M_takeLong 5 ((some .long)) 1 8 := ⟨⟨_, _, rfl⟩, mem_5 34 rfl rfl, mem_p 43 (by decide +kernel) rfl, mem_1 9 rfl rfl, mem_5 35 rfl rfl, by decide +kernel⟩
set_option maxRecDepth 20000 in
theorem cv_M_readPool : CVm y_M_readPool c_M_readPool 3 (none) 0 8 := ⟨⟨_, _, rfl⟩, mem_5 30 rfl rfl, mem_p 42 (by decide +kernel) rfl, mem_1 9 rfl rfl, mem_5 31 rfl rfl, by decide +kernel⟩
set_option maxRecDepth 20000 in
theorem cv_M_isSameWord : CVm y_M_isSameWord c_M_isSameWord 5 ((some .boolean)) 2 8 := ⟨⟨_, _, rfl⟩, mem_5 46 rfl rfl, mem_p 46 (by decide +kernel) rfl, mem_1 9 rfl rfl, mem_5 47 rfl rfl, by decide +kernel⟩
set_option maxRecDepth 20000 in
theorem cv_M_readName : CVm y_M_readName c_M_readName 5 (none) 1 8 := ⟨⟨_, _, rfl⟩, mem_5 42 rfl rfl, mem_p 45 (by decide +kernel) rfl, mem_1 9 rfl rfl, mem_5 43 rfl rfl, by decide +kernel⟩
set_option maxRecDepth 20000 in
theorem cv_M_readMap : CVm y_M_readMap c_M_readMap 6 (none) 2 8 := ⟨⟨_, _, rfl⟩, mem_5 50 rfl rfl, mem_p 47 (by decide +kernel) rfl, mem_1 9 rfl rfl, mem_5 51 rfl rfl, by decide +kernel⟩
set_option maxRecDepth 20000 in
theorem cv_M_readMethod : CVm y_M_readMethod c_M_readMethod 3 (none) 1 8 := ⟨⟨_, _, rfl⟩, mem_5 38 rfl rfl, mem_p 44 (by decide +kernel) rfl, mem_1 9 rfl rfl, mem_5 39 rfl rfl, by decide +kernel⟩
set_option maxRecDepth 20000 in
theorem cv_M_readFile : CVm y_M_readFile c_M_readFile 2 (none) 0 8 := ⟨⟨_, _, rfl⟩, mem_5 14 rfl rfl, mem_p 38 (by decide +kernel) rfl, mem_1 9 rfl rfl, mem_5 15 rfl rfl, by decide +kernel⟩
set_option maxRecDepth 20000 in
theorem cv_M_read : CVm y_M_read c_M_read 3 ((some .int)) 0 8 := ⟨⟨_, _, rfl⟩, mem_5 9 rfl rfl, mem_5 10 rfl rfl, mem_1 9 rfl rfl, mem_5 11 rfl rfl, by decide +kernel⟩
set_option maxRecDepth 20000 in
theorem cv_M_fault : CVm y_M_fault c_M_fault 1 ((some .int)) 0 8 := ⟨⟨_, _, rfl⟩, mem_5 104 rfl rfl, mem_5 105 rfl rfl, mem_1 9 rfl rfl, mem_5 106 rfl rfl, by decide +kernel⟩
set_option maxRecDepth 20000 in
theorem cv_M_mapAt : CVm y_M_mapAt c_M_mapAt 5 ((some .int)) 2 8 := ⟨⟨_, _, rfl⟩, mem_5 62 rfl rfl, mem_p 50 (by decide +kernel) rfl, mem_1 9 rfl rfl, mem_5 63 rfl rfl, by decide +kernel⟩
set_option maxRecDepth 20000 in
theorem cv_M_fits : CVm y_M_fits c_M_fits 5 ((some .boolean)) 2 8 := ⟨⟨_, _, rfl⟩, mem_5 66 rfl rfl, mem_p 51 (by decide +kernel) rfl, mem_1 9 rfl rfl, mem_5 67 rfl rfl, by decide +kernel⟩
set_option maxRecDepth 20000 in
theorem cv_M_becomes : CVm y_M_becomes c_M_becomes 4 (none) 2 8 := ⟨⟨_, _, rfl⟩, mem_5 70 rfl rfl, mem_p 52 (by decide +kernel) rfl, mem_1 9 rfl rfl, mem_5 71 rfl rfl, by decide +kernel⟩
set_option maxRecDepth 20000 in
theorem cs_M_hasByte : CSm y_M_hasByte c_M_hasByte 1 ((some .boolean)) 1 := ⟨mem_5 73 rfl rfl, mem_1 9 rfl rfl, mem_5 74 rfl rfl, by decide +kernel⟩
set_option maxRecDepth 20000 in
theorem cv_M_judge : CVm y_M_judge c_M_judge 4 (none) 1 8 := ⟨⟨_, _, rfl⟩, mem_5 54 rfl rfl, mem_p 48 (by decide +kernel) rfl, mem_1 9 rfl rfl, mem_5 55 rfl rfl, by decide +kernel⟩
set_option maxRecDepth 20000 in
theorem cv_M_judgeOp : CVm y_M_judgeOp c_M_judgeOp 8 (none) 3 8 := ⟨⟨_, _, rfl⟩, mem_5 58 rfl rfl, mem_p 49 (by decide +kernel) rfl, mem_1 9 rfl rfl, mem_5 59 rfl rfl, by decide +kernel⟩
set_option maxRecDepth 20000 in
theorem cv_M_isListed : CVm y_M_isListed c_M_isListed 2 ((some .boolean)) 1 8 := ⟨⟨_, _, rfl⟩, mem_5 81 rfl rfl, mem_p 54 (by decide +kernel) rfl, mem_1 9 rfl rfl, mem_5 82 rfl rfl, by decide +kernel⟩
set_option maxRecDepth 20000 in
theorem cv_M_isWord : CVm y_M_isWord c_M_isWord 9 ((some .boolean)) 6 8 := ⟨⟨_, _, rfl⟩, mem_5 85 rfl rfl, mem_p 55 (by decide +kernel) rfl, mem_1 9 rfl rfl, mem_5 86 rfl rfl, by decide +kernel⟩
set_option maxRecDepth 20000 in
theorem cv_M_isEntry : CVm y_M_isEntry c_M_isEntry 4 ((some .boolean)) 3 8 := ⟨⟨_, _, rfl⟩, mem_5 77 rfl rfl, mem_p 53 (by decide +kernel) rfl, mem_1 9 rfl rfl, mem_5 78 rfl rfl, by decide +kernel⟩
set_option maxRecDepth 20000 in
theorem cv_M_pops : CVm y_M_pops c_M_pops 3 ((some .int)) 2 8 := ⟨⟨_, _, rfl⟩, mem_5 93 rfl rfl, mem_p 57 (by decide +kernel) rfl, mem_1 9 rfl rfl, mem_5 94 rfl rfl, by decide +kernel⟩
set_option maxRecDepth 20000 in
theorem cv_M_wants : CVm y_M_wants c_M_wants 5 ((some .int)) 4 8 := ⟨⟨_, _, rfl⟩, mem_5 97 rfl rfl, mem_p 58 (by decide +kernel) rfl, mem_1 9 rfl rfl, mem_5 98 rfl rfl, by decide +kernel⟩
set_option maxRecDepth 20000 in
theorem cv_M_pushes : CVm y_M_pushes c_M_pushes 4 ((some .int)) 3 8 := ⟨⟨_, _, rfl⟩, mem_5 101 rfl rfl, mem_p 59 (by decide +kernel) rfl, mem_1 9 rfl rfl, mem_5 102 rfl rfl, by decide +kernel⟩
set_option maxRecDepth 20000 in
theorem cv_M_judgeKinds : CVm y_M_judgeKinds c_M_judgeKinds 10 (none) 4 8 := ⟨⟨_, _, rfl⟩, mem_5 89 rfl rfl, mem_p 56 (by decide +kernel) rfl, mem_1 9 rfl rfl, mem_5 90 rfl rfl, by decide +kernel⟩
set_option maxRecDepth 20000 in
theorem cv_M_isMethod : CVm y_M_isMethod c_M_isMethod 2 ((some .boolean)) 1 8 := ⟨⟨_, _, rfl⟩, mem_5 126 rfl rfl, mem_p 60 (by decide +kernel) rfl, mem_1 9 rfl rfl, mem_5 127 rfl rfl, by decide +kernel⟩
set_option maxRecDepth 20000 in
theorem cv_M_table : CVm y_M_table c_M_table 4 ((some .int)) 2 8 := ⟨⟨_, _, rfl⟩, mem_5 108 rfl rfl, mem_5 109 rfl rfl, mem_1 9 rfl rfl, mem_5 110 rfl rfl, by decide +kernel⟩
set_option maxRecDepth 20000 in
theorem cv_M_method : CVm y_M_method c_M_method 3 ((some .int)) 2 8 := ⟨⟨_, _, rfl⟩, mem_5 121 rfl rfl, mem_5 122 rfl rfl, mem_1 9 rfl rfl, mem_5 123 rfl rfl, by decide +kernel⟩
set_option maxRecDepth 20000 in
theorem cv_M_pool : CVm y_M_pool c_M_pool 3 ((some .long)) 2 8 := ⟨⟨_, _, rfl⟩, mem_5 129 rfl rfl, mem_5 130 rfl rfl, mem_1 9 rfl rfl, mem_5 131 rfl rfl, by decide +kernel⟩
set_option maxRecDepth 20000 in
theorem cv_M_kind : CVm y_M_kind c_M_kind 5 ((some .int)) 3 8 := ⟨⟨_, _, rfl⟩, mem_5 145 rfl rfl, mem_5 146 rfl rfl, mem_1 9 rfl rfl, mem_5 147 rfl rfl, by decide +kernel⟩
set_option maxRecDepth 20000 in
theorem cv_M_push : CVm y_M_push c_M_push 6 (none) 2 8 := ⟨⟨_, _, rfl⟩, mem_5 182 rfl rfl, mem_p 68 (by decide +kernel) rfl, mem_1 9 rfl rfl, mem_5 183 rfl rfl, by decide +kernel⟩
set_option maxRecDepth 20000 in
theorem cv_M_pop : CVm y_M_pop c_M_pop 2 ((some .int)) 0 8 := ⟨⟨_, _, rfl⟩, mem_5 178 rfl rfl, mem_p 67 (by decide +kernel) rfl, mem_1 9 rfl rfl, mem_5 179 rfl rfl, by decide +kernel⟩
set_option maxRecDepth 20000 in
theorem cv_M_enter : CVm y_M_enter c_M_enter 3 (none) 1 8 := ⟨⟨_, _, rfl⟩, mem_5 154 rfl rfl, mem_p 61 (by decide +kernel) rfl, mem_1 9 rfl rfl, mem_5 155 rfl rfl, by decide +kernel⟩
set_option maxRecDepth 20000 in
theorem cv_M_fails : CVm y_M_fails c_M_fails 2 (none) 1 8 := ⟨⟨_, _, rfl⟩, mem_5 162 rfl rfl, mem_p 63 (by decide +kernel) rfl, mem_1 9 rfl rfl, mem_5 163 rfl rfl, by decide +kernel⟩
set_option maxRecDepth 20000 in
theorem cv_M_give : CVm y_M_give c_M_give 5 (none) 3 8 := ⟨⟨_, _, rfl⟩, mem_5 158 rfl rfl, mem_p 62 (by decide +kernel) rfl, mem_1 9 rfl rfl, mem_5 159 rfl rfl, by decide +kernel⟩
set_option maxRecDepth 20000 in
theorem cv_M_call : CVm y_M_call c_M_call 10 ((some .int)) 5 8 := ⟨⟨_, _, rfl⟩, mem_5 149 rfl rfl, mem_5 150 rfl rfl, mem_1 9 rfl rfl, mem_5 151 rfl rfl, by decide +kernel⟩
set_option maxRecDepth 20000 in
theorem cv_M_step : CVm y_M_step c_M_step 7 (none) 0 8 := ⟨⟨_, _, rfl⟩, mem_5 166 rfl rfl, mem_p 64 (by decide +kernel) rfl, mem_1 9 rfl rfl, mem_5 167 rfl rfl, by decide +kernel⟩
set_option maxRecDepth 20000 in
theorem cv_M_calls : CVm y_M_calls c_M_calls 5 (none) 2 8 := ⟨⟨_, _, rfl⟩, mem_5 170 rfl rfl, mem_p 65 (by decide +kernel) rfl, mem_1 9 rfl rfl, mem_5 171 rfl rfl, by decide +kernel⟩
set_option maxRecDepth 20000 in
theorem cv_M_gives : CVm y_M_gives c_M_gives 7 (none) 2 8 := ⟨⟨_, _, rfl⟩, mem_5 174 rfl rfl, mem_p 66 (by decide +kernel) rfl, mem_1 9 rfl rfl, mem_5 175 rfl rfl, by decide +kernel⟩
set_option maxRecDepth 20000 in
theorem cv_M_moves : CVm y_M_moves c_M_moves 5 (none) 3 8 := ⟨⟨_, _, rfl⟩, mem_5 186 rfl rfl, mem_p 69 (by decide +kernel) rfl, mem_1 9 rfl rfl, mem_5 187 rfl rfl, by decide +kernel⟩
set_option maxRecDepth 20000 in
theorem cv_M_joinsInts : CVm y_M_joinsInts c_M_joinsInts 4 (none) 1 8 := ⟨⟨_, _, rfl⟩, mem_5 190 rfl rfl, mem_p 70 (by decide +kernel) rfl, mem_1 9 rfl rfl, mem_5 191 rfl rfl, by decide +kernel⟩
set_option maxRecDepth 20000 in
theorem cs_M_isEndless : CSm y_M_isEndless c_M_isEndless 2 ((some .boolean)) 1 := ⟨mem_5 200 rfl rfl, mem_1 9 rfl rfl, mem_5 201 rfl rfl, by decide +kernel⟩
set_option maxRecDepth 20000 in
theorem cs_M_plus : CSm y_M_plus c_M_plus 5 ((some .double)) 2 := ⟨mem_5 197 rfl rfl, mem_1 9 rfl rfl, mem_5 198 rfl rfl, by decide +kernel⟩
set_option maxRecDepth 20000 in
theorem cs_M_minus : CSm y_M_minus c_M_minus 5 ((some .double)) 2 := ⟨mem_5 205 rfl rfl, mem_1 9 rfl rfl, mem_5 206 rfl rfl, by decide +kernel⟩
set_option maxRecDepth 20000 in
theorem cs_M_times : CSm y_M_times c_M_times 5 ((some .double)) 2 := ⟨mem_5 208 rfl rfl, mem_1 9 rfl rfl, mem_5 209 rfl rfl, by decide +kernel⟩
set_option maxRecDepth 20000 in
theorem cs_M_by : CSm y_M_by c_M_by 5 ((some .double)) 2 := ⟨mem_5 211 rfl rfl, mem_1 9 rfl rfl, mem_5 212 rfl rfl, by decide +kernel⟩
set_option maxRecDepth 20000 in
theorem cs_M_doubleOf : CSm y_M_doubleOf c_M_doubleOf 3 ((some .double)) 1 := ⟨mem_5 112 rfl rfl, mem_1 9 rfl rfl, mem_5 113 rfl rfl, by decide +kernel⟩
set_option maxRecDepth 20000 in
theorem cv_M_joinsDoubles : CVm y_M_joinsDoubles c_M_joinsDoubles 6 (none) 1 8 := ⟨⟨_, _, rfl⟩, mem_5 194 rfl rfl, mem_p 71 (by decide +kernel) rfl, mem_1 9 rfl rfl, mem_5 195 rfl rfl, by decide +kernel⟩
set_option maxRecDepth 20000 in
theorem cv_M_turns : CVm y_M_turns c_M_turns 5 (none) 2 8 := ⟨⟨_, _, rfl⟩, mem_5 215 rfl rfl, mem_p 72 (by decide +kernel) rfl, mem_1 9 rfl rfl, mem_5 216 rfl rfl, by decide +kernel⟩
set_option maxRecDepth 20000 in
theorem cv_M_listed : CVm y_M_listed c_M_listed 4 ((some .double)) 2 8 := ⟨⟨_, _, rfl⟩, mem_5 219 rfl rfl, mem_p 73 (by decide +kernel) rfl, mem_1 9 rfl rfl, mem_5 220 rfl rfl, by decide +kernel⟩
set_option maxRecDepth 20000 in
theorem cs_M_floor : CSm y_M_floor c_M_floor 4 ((some .double)) 1 := ⟨mem_5 230 rfl rfl, mem_1 9 rfl rfl, mem_5 231 rfl rfl, by decide +kernel⟩
set_option maxRecDepth 20000 in
theorem cs_M_root : CSm y_M_root c_M_root 16 ((some .double)) 1 := ⟨mem_5 222 rfl rfl, mem_1 9 rfl rfl, mem_5 223 rfl rfl, by decide +kernel⟩
set_option maxRecDepth 20000 in
theorem cv_M_result : CVm y_M_result c_M_result 1 ((some .long)) 0 8 := ⟨⟨_, _, rfl⟩, mem_5 236 rfl rfl, mem_5 237 rfl rfl, mem_1 9 rfl rfl, mem_5 238 rfl rfl, by decide +kernel⟩
set_option maxRecDepth 20000 in
theorem cv_M_told : CVm y_M_told c_M_told 2 ((some .int)) 1 8 := ⟨⟨_, _, rfl⟩, mem_6 0 rfl rfl, mem_6 1 rfl rfl, mem_1 9 rfl rfl, mem_6 2 rfl rfl, by decide +kernel⟩
set_option maxRecDepth 20000 in
theorem cv_M_count : CVm y_M_count c_M_count 2 ((some .int)) 1 8 := ⟨⟨_, _, rfl⟩, mem_6 4 rfl rfl, mem_6 5 rfl rfl, mem_1 9 rfl rfl, mem_6 6 rfl rfl, by decide +kernel⟩
set_option maxRecDepth 20000 in
theorem cs_JD_isNaN : CSm y_JD_isNaN c_JD_isNaN 2 ((some .boolean)) 1 := ⟨mem_5 138 rfl rfl, mem_1 13 rfl rfl, mem_5 139 rfl rfl, by decide +kernel⟩
set_option maxRecDepth 20000 in
theorem cs_JD_doubleToLongBits : CSm y_JD_doubleToLongBits c_JD_doubleToLongBits 2 ((some .long)) 1 := ⟨mem_5 135 rfl rfl, mem_1 13 rfl rfl, mem_5 136 rfl rfl, by decide +kernel⟩
set_option maxRecDepth 20000 in
theorem cs_JM_abs : CSm y_JM_abs c_JM_abs 2 ((some .long)) 1 := ⟨mem_4 2 rfl rfl, mem_1 14 rfl rfl, mem_4 3 rfl rfl, by decide +kernel⟩
set_option maxRecDepth 20000 in
theorem cs_JM_max : CSm y_JM_max c_JM_max 2 ((some .int)) 2 := ⟨mem_3 123 rfl rfl, mem_1 14 rfl rfl, mem_3 124 rfl rfl, by decide +kernel⟩
set_option maxRecDepth 20000 in
theorem cs_JM_min : CSm y_JM_min c_JM_min 2 ((some .int)) 2 := ⟨mem_3 213 rfl rfl, mem_1 14 rfl rfl, mem_3 214 rfl rfl, by decide +kernel⟩
set_option maxRecDepth 20000 in
theorem ob0 : (0, 0) ∈ objs := List.mem_of_getElem? (i := 0) rfl
set_option maxRecDepth 20000 in
theorem ob1 : (1, 0) ∈ objs := List.mem_of_getElem? (i := 1) rfl
set_option maxRecDepth 20000 in
theorem ob2 : (2, 0) ∈ objs := List.mem_of_getElem? (i := 2) rfl
set_option maxRecDepth 20000 in
theorem ob3 : (3, 0) ∈ objs := List.mem_of_getElem? (i := 3) rfl
set_option maxRecDepth 20000 in
theorem ob4 {i : Nat} (h : i < 5) : (4, i) ∈ objs := by
  match i, h with
  | 0, _ => exact List.mem_of_getElem? (i := 4) rfl
  | 1, _ => exact List.mem_of_getElem? (i := 5) rfl
  | 2, _ => exact List.mem_of_getElem? (i := 6) rfl
  | 3, _ => exact List.mem_of_getElem? (i := 7) rfl
  | 4, _ => exact List.mem_of_getElem? (i := 8) rfl
set_option maxRecDepth 20000 in
theorem ob5 : (5, 0) ∈ objs := List.mem_of_getElem? (i := 9) rfl
set_option maxRecDepth 20000 in
theorem ob6 : (6, 0) ∈ objs := List.mem_of_getElem? (i := 10) rfl
set_option maxRecDepth 20000 in
theorem ob7 : (7, 0) ∈ objs := List.mem_of_getElem? (i := 11) rfl
set_option maxRecDepth 20000 in
theorem ob8 : (8, 0) ∈ objs := List.mem_of_getElem? (i := 12) rfl
set_option maxRecDepth 20000 in
theorem ob9 : (9, 0) ∈ objs := List.mem_of_getElem? (i := 13) rfl
set_option maxRecDepth 20000 in
theorem ob10 : (10, 0) ∈ objs := List.mem_of_getElem? (i := 14) rfl
set_option maxRecDepth 20000 in
theorem ob11 : (11, 0) ∈ objs := List.mem_of_getElem? (i := 15) rfl
set_option maxRecDepth 20000 in
theorem ob12 : (12, 0) ∈ objs := List.mem_of_getElem? (i := 16) rfl
set_option maxRecDepth 20000 in
theorem ob13 : (13, 0) ∈ objs := List.mem_of_getElem? (i := 17) rfl
set_option maxRecDepth 20000 in
theorem ob14 {i : Nat} (h : i < 5) : (14, i) ∈ objs := by
  match i, h with
  | 0, _ => exact List.mem_of_getElem? (i := 18) rfl
  | 1, _ => exact List.mem_of_getElem? (i := 19) rfl
  | 2, _ => exact List.mem_of_getElem? (i := 20) rfl
  | 3, _ => exact List.mem_of_getElem? (i := 21) rfl
  | 4, _ => exact List.mem_of_getElem? (i := 22) rfl
set_option maxRecDepth 20000 in
theorem ob15 {i : Nat} (h : i < 5) : (15, i) ∈ objs := by
  match i, h with
  | 0, _ => exact List.mem_of_getElem? (i := 23) rfl
  | 1, _ => exact List.mem_of_getElem? (i := 24) rfl
  | 2, _ => exact List.mem_of_getElem? (i := 25) rfl
  | 3, _ => exact List.mem_of_getElem? (i := 26) rfl
  | 4, _ => exact List.mem_of_getElem? (i := 27) rfl
set_option maxRecDepth 20000 in
theorem ob16 {i : Nat} (h : i < 5) : (16, i) ∈ objs := by
  match i, h with
  | 0, _ => exact List.mem_of_getElem? (i := 28) rfl
  | 1, _ => exact List.mem_of_getElem? (i := 29) rfl
  | 2, _ => exact List.mem_of_getElem? (i := 30) rfl
  | 3, _ => exact List.mem_of_getElem? (i := 31) rfl
  | 4, _ => exact List.mem_of_getElem? (i := 32) rfl
set_option maxRecDepth 20000 in
theorem ob17 {i : Nat} (h : i < 5) : (17, i) ∈ objs := by
  match i, h with
  | 0, _ => exact List.mem_of_getElem? (i := 33) rfl
  | 1, _ => exact List.mem_of_getElem? (i := 34) rfl
  | 2, _ => exact List.mem_of_getElem? (i := 35) rfl
  | 3, _ => exact List.mem_of_getElem? (i := 36) rfl
  | 4, _ => exact List.mem_of_getElem? (i := 37) rfl
set_option maxRecDepth 20000 in
theorem ob18 : (18, 0) ∈ objs := List.mem_of_getElem? (i := 38) rfl
set_option maxRecDepth 20000 in
theorem ob19 : (19, 0) ∈ objs := List.mem_of_getElem? (i := 39) rfl
set_option maxRecDepth 20000 in
theorem ob20 : (20, 0) ∈ objs := List.mem_of_getElem? (i := 40) rfl
set_option maxRecDepth 20000 in
theorem ob21 : (21, 0) ∈ objs := List.mem_of_getElem? (i := 41) rfl
set_option maxRecDepth 20000 in
theorem ob22 : (22, 0) ∈ objs := List.mem_of_getElem? (i := 42) rfl
set_option maxRecDepth 20000 in
theorem ob23 : (23, 0) ∈ objs := List.mem_of_getElem? (i := 43) rfl
set_option maxRecDepth 20000 in
theorem ob24 : (24, 0) ∈ objs := List.mem_of_getElem? (i := 44) rfl
set_option maxRecDepth 20000 in
theorem ob25 : (25, 0) ∈ objs := List.mem_of_getElem? (i := 45) rfl
set_option maxRecDepth 20000 in
theorem ob26 : (26, 0) ∈ objs := List.mem_of_getElem? (i := 46) rfl
set_option maxRecDepth 20000 in
theorem ob27 : (27, 0) ∈ objs := List.mem_of_getElem? (i := 47) rfl
set_option maxRecDepth 20000 in
theorem ob28 : (28, 0) ∈ objs := List.mem_of_getElem? (i := 48) rfl
set_option maxRecDepth 20000 in
theorem ob29 : (29, 0) ∈ objs := List.mem_of_getElem? (i := 49) rfl
set_option maxRecDepth 20000 in
theorem ob30 : (30, 0) ∈ objs := List.mem_of_getElem? (i := 50) rfl
set_option maxRecDepth 20000 in
theorem ob31 : (31, 0) ∈ objs := List.mem_of_getElem? (i := 51) rfl
set_option maxRecDepth 20000 in
theorem ob32 : (32, 0) ∈ objs := List.mem_of_getElem? (i := 52) rfl
set_option maxRecDepth 20000 in
theorem ob33 : (33, 0) ∈ objs := List.mem_of_getElem? (i := 53) rfl
set_option maxRecDepth 20000 in
theorem ob34 : (34, 0) ∈ objs := List.mem_of_getElem? (i := 54) rfl
set_option maxRecDepth 20000 in
theorem ob35 : (35, 0) ∈ objs := List.mem_of_getElem? (i := 55) rfl
set_option maxRecDepth 20000 in
theorem ob36 : (36, 0) ∈ objs := List.mem_of_getElem? (i := 56) rfl
set_option maxRecDepth 20000 in
theorem ob37 : (37, 0) ∈ objs := List.mem_of_getElem? (i := 57) rfl
set_option maxRecDepth 20000 in
theorem ob38 : (38, 0) ∈ objs := List.mem_of_getElem? (i := 58) rfl
set_option maxRecDepth 20000 in
theorem ob39 : (39, 0) ∈ objs := List.mem_of_getElem? (i := 59) rfl
set_option maxRecDepth 20000 in
theorem ob40 : (40, 0) ∈ objs := List.mem_of_getElem? (i := 60) rfl
set_option maxRecDepth 20000 in
theorem ob41 : (41, 0) ∈ objs := List.mem_of_getElem? (i := 61) rfl
set_option maxRecDepth 20000 in
theorem ob42 : (42, 0) ∈ objs := List.mem_of_getElem? (i := 62) rfl
set_option maxRecDepth 20000 in
theorem ob43 : (43, 0) ∈ objs := List.mem_of_getElem? (i := 63) rfl
set_option maxRecDepth 20000 in
theorem ob44 : (44, 0) ∈ objs := List.mem_of_getElem? (i := 64) rfl
set_option maxRecDepth 20000 in
theorem ob45 : (45, 0) ∈ objs := List.mem_of_getElem? (i := 65) rfl
set_option maxRecDepth 20000 in
theorem ob46 : (46, 0) ∈ objs := List.mem_of_getElem? (i := 66) rfl
set_option maxRecDepth 20000 in
theorem ob47 : (47, 0) ∈ objs := List.mem_of_getElem? (i := 67) rfl
set_option maxRecDepth 20000 in
theorem ob48 : (48, 0) ∈ objs := List.mem_of_getElem? (i := 68) rfl
set_option maxRecDepth 20000 in
theorem ob49 : (49, 0) ∈ objs := List.mem_of_getElem? (i := 69) rfl
set_option maxRecDepth 20000 in
theorem ob50 : (50, 0) ∈ objs := List.mem_of_getElem? (i := 70) rfl
set_option maxRecDepth 20000 in
theorem ob51 : (51, 0) ∈ objs := List.mem_of_getElem? (i := 71) rfl
set_option maxRecDepth 20000 in
theorem ob52 : (52, 0) ∈ objs := List.mem_of_getElem? (i := 72) rfl
set_option maxRecDepth 20000 in
theorem ob53 : (53, 0) ∈ objs := List.mem_of_getElem? (i := 73) rfl
set_option maxRecDepth 20000 in
theorem ob54 : (54, 0) ∈ objs := List.mem_of_getElem? (i := 74) rfl
set_option maxRecDepth 20000 in
theorem ak9 : AKk 9 0 500 := ⟨by decide, rfl⟩
set_option maxRecDepth 20000 in
theorem ak10 : AKk 10 4 5 := ⟨by decide, rfl⟩
set_option maxRecDepth 20000 in
theorem ak11 : AKk 11 0 16 := ⟨by decide, rfl⟩
set_option maxRecDepth 20000 in
theorem ak12 : AKk 12 0 16 := ⟨by decide, rfl⟩
set_option maxRecDepth 20000 in
theorem ak13 : AKk 13 2 16 := ⟨by decide, rfl⟩
set_option maxRecDepth 20000 in
theorem ak14 : AKk 14 0 48 := ⟨by decide, rfl⟩
set_option maxRecDepth 20000 in
theorem ak15 : AKk 15 0 8 := ⟨by decide, rfl⟩
set_option maxRecDepth 20000 in
theorem ak16 : AKk 16 0 8 := ⟨by decide, rfl⟩
set_option maxRecDepth 20000 in
theorem ak17 : AKk 17 0 48 := ⟨by decide, rfl⟩
set_option maxRecDepth 20000 in
theorem ak18 : AKk 18 2 8 := ⟨by decide, rfl⟩
set_option maxRecDepth 20000 in
theorem ak19 : AKk 19 2 48 := ⟨by decide, rfl⟩
set_option maxRecDepth 20000 in
theorem ak20 : AKk 20 2 48 := ⟨by decide, rfl⟩
set_option maxRecDepth 20000 in
theorem ak21 : AKk 21 0 8 := ⟨by decide, rfl⟩
set_option maxRecDepth 20000 in
theorem ak22 : AKk 22 0 8 := ⟨by decide, rfl⟩
set_option maxRecDepth 20000 in
theorem ak23 : AKk 23 0 8 := ⟨by decide, rfl⟩
set_option maxRecDepth 20000 in
theorem ak24 : AKk 24 0 500 := ⟨by decide, rfl⟩
set_option maxRecDepth 20000 in
theorem ak25 : AKk 25 3 8 := ⟨by decide, rfl⟩
set_option maxRecDepth 20000 in
theorem ak26 : AKk 26 0 16 := ⟨by decide, rfl⟩
set_option maxRecDepth 20000 in
theorem ak27 : AKk 27 2 16 := ⟨by decide, rfl⟩
set_option maxRecDepth 20000 in
theorem ak28 : AKk 28 0 16 := ⟨by decide, rfl⟩
set_option maxRecDepth 20000 in
theorem ak29 : AKk 29 0 128 := ⟨by decide, rfl⟩
set_option maxRecDepth 20000 in
theorem ak30 : AKk 30 0 5 := ⟨by decide, rfl⟩
set_option maxRecDepth 20000 in
theorem ak31 : AKk 31 0 5 := ⟨by decide, rfl⟩
set_option maxRecDepth 20000 in
theorem ak32 : AKk 32 0 15 := ⟨by decide, rfl⟩
set_option maxRecDepth 20000 in
theorem ak33 : AKk 33 0 5 := ⟨by decide, rfl⟩
set_option maxRecDepth 20000 in
theorem ak34 : AKk 34 0 5 := ⟨by decide, rfl⟩
set_option maxRecDepth 20000 in
theorem ak35 : AKk 35 0 5 := ⟨by decide, rfl⟩
set_option maxRecDepth 20000 in
theorem ak36 : AKk 36 0 5 := ⟨by decide, rfl⟩
set_option maxRecDepth 20000 in
theorem ak37 : AKk 37 0 240 := ⟨by decide, rfl⟩
set_option maxRecDepth 20000 in
theorem ak38 : AKk 38 0 5 := ⟨by decide, rfl⟩
set_option maxRecDepth 20000 in
theorem ak39 : AKk 39 0 40 := ⟨by decide, rfl⟩
set_option maxRecDepth 20000 in
theorem ak40 : AKk 40 0 240 := ⟨by decide, rfl⟩
set_option maxRecDepth 20000 in
theorem ak41 : AKk 41 0 40 := ⟨by decide, rfl⟩
set_option maxRecDepth 20000 in
theorem ak42 : AKk 42 0 240 := ⟨by decide, rfl⟩
set_option maxRecDepth 20000 in
theorem ak43 : AKk 43 1 240 := ⟨by decide, rfl⟩
set_option maxRecDepth 20000 in
theorem ak44 : AKk 44 0 240 := ⟨by decide, rfl⟩
set_option maxRecDepth 20000 in
theorem ak45 : AKk 45 0 1440 := ⟨by decide, rfl⟩
set_option maxRecDepth 20000 in
theorem ak46 : AKk 46 0 1440 := ⟨by decide, rfl⟩
set_option maxRecDepth 20000 in
theorem ak47 : AKk 47 0 5 := ⟨by decide, rfl⟩
set_option maxRecDepth 20000 in
theorem ak48 : AKk 48 0 8 := ⟨by decide, rfl⟩
set_option maxRecDepth 20000 in
theorem ak49 : AKk 49 0 6 := ⟨by decide, rfl⟩
set_option maxRecDepth 20000 in
theorem ak50 : AKk 50 0 8 := ⟨by decide, rfl⟩
set_option maxRecDepth 20000 in
theorem ak51 : AKk 51 0 8 := ⟨by decide, rfl⟩
set_option maxRecDepth 20000 in
theorem ak52 : AKk 52 0 8 := ⟨by decide, rfl⟩
set_option maxRecDepth 20000 in
theorem ak53 : AKk 53 0 96 := ⟨by decide, rfl⟩
set_option maxRecDepth 20000 in
theorem ak54 : AKk 54 3 96 := ⟨by decide, rfl⟩
