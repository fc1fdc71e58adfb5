theorem jf_T_9 : zF "StreamIds$Text" 9 1 0 := ⟨"StreamIds$Text", jT_T, 2, rfl, ju_T, by decide, Or.inl jw_30⟩
theorem jp_T_9 : zFp "StreamIds$Text" 9 1 0 (.array .byte) true := ⟨"StreamIds$Text", jT_T, 2, jt_T, rfl, ju_T, jt_T_ok, jn_T, by decide, Or.inl jw_30, rfl, by decide +kernel, fun _ => ⟨rfl, jw_30⟩⟩
theorem jf_T_15 : zF "StreamIds$Text" 15 1 1 := ⟨"StreamIds$Text", jT_T, 2, rfl, ju_T, by decide, Or.inl jw_31⟩
theorem jp_T_15 : zFp "StreamIds$Text" 15 1 1 (.int) false := ⟨"StreamIds$Text", jT_T, 2, jt_T, rfl, ju_T, jt_T_ok, jn_T, by decide, Or.inl jw_31, rfl, by decide +kernel, fun h => by cases h⟩
theorem jf_H_15 : zF "StreamIds$Shapes" 15 1 1 := ⟨"StreamIds$Text", jT_T, 2, rfl, ju_T, by decide, Or.inr ⟨"StreamIds", List.mem_of_getElem? (i := 0) (by decide +kernel)⟩⟩
theorem jf_S_48 : zF "StreamIds" 48 1 1 := ⟨"StreamIds$Text", jT_T, 2, rfl, ju_T, by decide, Or.inr ⟨"StreamIds", List.mem_of_getElem? (i := 1) (by decide +kernel)⟩⟩
theorem jp_S_48 : zFp "StreamIds" 48 1 1 (.int) false := ⟨"StreamIds$Text", jT_T, 2, jt_T, rfl, ju_T, jt_T_ok, jn_T, by decide, Or.inr ⟨"StreamIds", List.mem_of_getElem? (i := 1) (by decide +kernel)⟩, rfl, by decide +kernel, fun h => by cases h⟩
theorem jf_L_92 : zF "StreamIds$Layout" 92 1 1 := ⟨"StreamIds$Text", jT_T, 2, rfl, ju_T, by decide, Or.inr ⟨"StreamIds", List.mem_of_getElem? (i := 2) (by decide +kernel)⟩⟩
theorem jf_L_9 : zF "StreamIds$Layout" 9 2 0 := ⟨"StreamIds$Layout", jT_L, 3, rfl, ju_L, by decide, Or.inl jw_49⟩
theorem jp_L_9 : zFp "StreamIds$Layout" 9 2 0 (.array .byte) true := ⟨"StreamIds$Layout", jT_L, 3, jt_L, rfl, ju_L, jt_L_ok, jn_L, by decide, Or.inl jw_49, rfl, by decide +kernel, fun _ => ⟨rfl, jw_49⟩⟩
theorem jf_L_15 : zF "StreamIds$Layout" 15 2 1 := ⟨"StreamIds$Layout", jT_L, 3, rfl, ju_L, by decide, Or.inl jw_50⟩
theorem jp_L_15 : zFp "StreamIds$Layout" 15 2 1 (.int) false := ⟨"StreamIds$Layout", jT_L, 3, jt_L, rfl, ju_L, jt_L_ok, jn_L, by decide, Or.inl jw_50, rfl, by decide +kernel, fun h => by cases h⟩
theorem jf_G_27 : zF "StreamIds$Digest" 27 2 1 := ⟨"StreamIds$Layout", jT_L, 3, rfl, ju_L, by decide, Or.inr ⟨"StreamIds", List.mem_of_getElem? (i := 3) (by decide +kernel)⟩⟩
theorem jf_S_129 : zF "StreamIds" 129 2 1 := ⟨"StreamIds$Layout", jT_L, 3, rfl, ju_L, by decide, Or.inr ⟨"StreamIds", List.mem_of_getElem? (i := 4) (by decide +kernel)⟩⟩
theorem jf_L_19 : zF "StreamIds$Layout" 19 2 2 := ⟨"StreamIds$Layout", jT_L, 3, rfl, ju_L, by decide, Or.inl jw_53⟩
theorem jp_L_19 : zFp "StreamIds$Layout" 19 2 2 (.array .int) true := ⟨"StreamIds$Layout", jT_L, 3, jt_L, rfl, ju_L, jt_L_ok, jn_L, by decide, Or.inl jw_53, rfl, by decide +kernel, fun _ => ⟨rfl, jw_53⟩⟩
theorem jf_S_134 : zF "StreamIds" 134 2 2 := ⟨"StreamIds$Layout", jT_L, 3, rfl, ju_L, by decide, Or.inr ⟨"StreamIds", List.mem_of_getElem? (i := 5) (by decide +kernel)⟩⟩
theorem jf_G_9 : zF "StreamIds$Digest" 9 3 0 := ⟨"StreamIds$Digest", jT_G, 2, rfl, ju_G, by decide, Or.inl jw_69⟩
theorem jp_G_9 : zFp "StreamIds$Digest" 9 3 0 (.array .int) true := ⟨"StreamIds$Digest", jT_G, 2, jt_G, rfl, ju_G, jt_G_ok, jn_G, by decide, Or.inl jw_69, rfl, by decide +kernel, fun _ => ⟨rfl, jw_69⟩⟩
theorem jf_S_125 : zF "StreamIds" 125 3 0 := ⟨"StreamIds$Digest", jT_G, 2, rfl, ju_G, by decide, Or.inr ⟨"StreamIds", List.mem_of_getElem? (i := 6) (by decide +kernel)⟩⟩
theorem jf_G_15 : zF "StreamIds$Digest" 15 3 1 := ⟨"StreamIds$Digest", jT_G, 2, rfl, ju_G, by decide, Or.inl jw_71⟩
theorem jp_G_15 : zFp "StreamIds$Digest" 15 3 1 (.array .int) true := ⟨"StreamIds$Digest", jT_G, 2, jt_G, rfl, ju_G, jt_G_ok, jn_G, by decide, Or.inl jw_71, rfl, by decide +kernel, fun _ => ⟨rfl, jw_71⟩⟩
theorem jf_E_9 : zF "StreamIds$Entry" 9 6 0 := ⟨"StreamIds$Entry", jT_E, 4, rfl, ju_E, by decide, Or.inl jw_99⟩
theorem jp_E_9 : zFp "StreamIds$Entry" 9 6 0 (.int) false := ⟨"StreamIds$Entry", jT_E, 4, jt_E, rfl, ju_E, jt_E_ok, jn_E, by decide, Or.inl jw_99, rfl, by decide +kernel, fun h => by cases h⟩
theorem jf_R_34 : zF "StreamIds$Row" 34 6 0 := ⟨"StreamIds$Entry", jT_E, 4, rfl, ju_E, by decide, Or.inr ⟨"StreamIds", List.mem_of_getElem? (i := 7) (by decide +kernel)⟩⟩
theorem jf_L_61 : zF "StreamIds$Layout" 61 6 0 := ⟨"StreamIds$Entry", jT_E, 4, rfl, ju_E, by decide, Or.inr ⟨"StreamIds", List.mem_of_getElem? (i := 8) (by decide +kernel)⟩⟩
theorem jf_E_15 : zF "StreamIds$Entry" 15 6 1 := ⟨"StreamIds$Entry", jT_E, 4, rfl, ju_E, by decide, Or.inl jw_102⟩
theorem jp_E_15 : zFp "StreamIds$Entry" 15 6 1 (.int) false := ⟨"StreamIds$Entry", jT_E, 4, jt_E, rfl, ju_E, jt_E_ok, jn_E, by decide, Or.inl jw_102, rfl, by decide +kernel, fun h => by cases h⟩
theorem jf_L_75 : zF "StreamIds$Layout" 75 6 1 := ⟨"StreamIds$Entry", jT_E, 4, rfl, ju_E, by decide, Or.inr ⟨"StreamIds", List.mem_of_getElem? (i := 9) (by decide +kernel)⟩⟩
theorem jf_E_21 : zF "StreamIds$Entry" 21 6 2 := ⟨"StreamIds$Entry", jT_E, 4, rfl, ju_E, by decide, Or.inl jw_104⟩
theorem jp_E_21 : zFp "StreamIds$Entry" 21 6 2 (.object "StreamIds$Text") true := ⟨"StreamIds$Entry", jT_E, 4, jt_E, rfl, ju_E, jt_E_ok, jn_E, by decide, Or.inl jw_104, rfl, by decide +kernel, fun _ => ⟨rfl, jw_104⟩⟩
theorem jf_L_74 : zF "StreamIds$Layout" 74 6 2 := ⟨"StreamIds$Entry", jT_E, 4, rfl, ju_E, by decide, Or.inr ⟨"StreamIds", List.mem_of_getElem? (i := 10) (by decide +kernel)⟩⟩
theorem jf_E_25 : zF "StreamIds$Entry" 25 6 3 := ⟨"StreamIds$Entry", jT_E, 4, rfl, ju_E, by decide, Or.inl jw_106⟩
theorem jp_E_25 : zFp "StreamIds$Entry" 25 6 3 (.object "StreamIds$Text") true := ⟨"StreamIds$Entry", jT_E, 4, jt_E, rfl, ju_E, jt_E_ok, jn_E, by decide, Or.inl jw_106, rfl, by decide +kernel, fun _ => ⟨rfl, jw_106⟩⟩
theorem jf_L_78 : zF "StreamIds$Layout" 78 6 3 := ⟨"StreamIds$Entry", jT_E, 4, rfl, ju_E, by decide, Or.inr ⟨"StreamIds", List.mem_of_getElem? (i := 11) (by decide +kernel)⟩⟩
theorem jf_R_17 : zF "StreamIds$Row" 17 5 0 := ⟨"StreamIds$Row", jT_R, 2, rfl, ju_R, by decide, Or.inl jw_117⟩
theorem jp_R_17 : zFp "StreamIds$Row" 17 5 0 (.array (.object "StreamIds$Entry")) true := ⟨"StreamIds$Row", jT_R, 2, jt_R, rfl, ju_R, jt_R_ok, jn_R, by decide, Or.inl jw_117, rfl, by decide +kernel, fun _ => ⟨rfl, jw_117⟩⟩
theorem jf_L_57 : zF "StreamIds$Layout" 57 5 0 := ⟨"StreamIds$Row", jT_R, 2, rfl, ju_R, by decide, Or.inr ⟨"StreamIds", List.mem_of_getElem? (i := 12) (by decide +kernel)⟩⟩
theorem jf_R_9 : zF "StreamIds$Row" 9 5 1 := ⟨"StreamIds$Row", jT_R, 2, rfl, ju_R, by decide, Or.inl jw_119⟩
theorem jp_R_9 : zFp "StreamIds$Row" 9 5 1 (.int) false := ⟨"StreamIds$Row", jT_R, 2, jt_R, rfl, ju_R, jt_R_ok, jn_R, by decide, Or.inl jw_119, rfl, by decide +kernel, fun h => by cases h⟩
theorem jf_D_49 : zF "StreamIds$Declaration" 49 5 1 := ⟨"StreamIds$Row", jT_R, 2, rfl, ju_R, by decide, Or.inr ⟨"StreamIds", List.mem_of_getElem? (i := 13) (by decide +kernel)⟩⟩
theorem jp_D_49 : zFp "StreamIds$Declaration" 49 5 1 (.int) false := ⟨"StreamIds$Row", jT_R, 2, jt_R, rfl, ju_R, jt_R_ok, jn_R, by decide, Or.inr ⟨"StreamIds", List.mem_of_getElem? (i := 13) (by decide +kernel)⟩, rfl, by decide +kernel, fun h => by cases h⟩
theorem jf_L_52 : zF "StreamIds$Layout" 52 5 1 := ⟨"StreamIds$Row", jT_R, 2, rfl, ju_R, by decide, Or.inr ⟨"StreamIds", List.mem_of_getElem? (i := 14) (by decide +kernel)⟩⟩
theorem jf_S_137 : zF "StreamIds" 137 5 1 := ⟨"StreamIds$Row", jT_R, 2, rfl, ju_R, by decide, Or.inr ⟨"StreamIds", List.mem_of_getElem? (i := 15) (by decide +kernel)⟩⟩
theorem jf_D_9 : zF "StreamIds$Declaration" 9 4 0 := ⟨"StreamIds$Declaration", jT_D, 7, rfl, ju_D, by decide, Or.inl jw_128⟩
theorem jp_D_9 : zFp "StreamIds$Declaration" 9 4 0 (.boolean) false := ⟨"StreamIds$Declaration", jT_D, 7, jt_D, rfl, ju_D, jt_D_ok, jn_D, by decide, Or.inl jw_128, rfl, by decide +kernel, fun h => by cases h⟩
theorem jf_S_143 : zF "StreamIds" 143 4 0 := ⟨"StreamIds$Declaration", jT_D, 7, rfl, ju_D, by decide, Or.inr ⟨"StreamIds", List.mem_of_getElem? (i := 16) (by decide +kernel)⟩⟩
theorem jf_D_18 : zF "StreamIds$Declaration" 18 4 1 := ⟨"StreamIds$Declaration", jT_D, 7, rfl, ju_D, by decide, Or.inl jw_130⟩
theorem jp_D_18 : zFp "StreamIds$Declaration" 18 4 1 (.object "StreamIds$Text") true := ⟨"StreamIds$Declaration", jT_D, 7, jt_D, rfl, ju_D, jt_D_ok, jn_D, by decide, Or.inl jw_130, rfl, by decide +kernel, fun _ => ⟨rfl, jw_130⟩⟩
theorem jf_L_23 : zF "StreamIds$Layout" 23 4 1 := ⟨"StreamIds$Declaration", jT_D, 7, rfl, ju_D, by decide, Or.inr ⟨"StreamIds", List.mem_of_getElem? (i := 17) (by decide +kernel)⟩⟩
theorem jf_D_22 : zF "StreamIds$Declaration" 22 4 2 := ⟨"StreamIds$Declaration", jT_D, 7, rfl, ju_D, by decide, Or.inl jw_132⟩
theorem jp_D_22 : zFp "StreamIds$Declaration" 22 4 2 (.int) false := ⟨"StreamIds$Declaration", jT_D, 7, jt_D, rfl, ju_D, jt_D_ok, jn_D, by decide, Or.inl jw_132, rfl, by decide +kernel, fun h => by cases h⟩
theorem jf_S_110 : zF "StreamIds" 110 4 2 := ⟨"StreamIds$Declaration", jT_D, 7, rfl, ju_D, by decide, Or.inr ⟨"StreamIds", List.mem_of_getElem? (i := 18) (by decide +kernel)⟩⟩
theorem jf_D_31 : zF "StreamIds$Declaration" 31 4 3 := ⟨"StreamIds$Declaration", jT_D, 7, rfl, ju_D, by decide, Or.inl jw_134⟩
theorem jp_D_31 : zFp "StreamIds$Declaration" 31 4 3 (.object "StreamIds$Row") true := ⟨"StreamIds$Declaration", jT_D, 7, jt_D, rfl, ju_D, jt_D_ok, jn_D, by decide, Or.inl jw_134, rfl, by decide +kernel, fun _ => ⟨rfl, jw_134⟩⟩
theorem jf_L_41 : zF "StreamIds$Layout" 41 4 3 := ⟨"StreamIds$Declaration", jT_D, 7, rfl, ju_D, by decide, Or.inr ⟨"StreamIds", List.mem_of_getElem? (i := 19) (by decide +kernel)⟩⟩
theorem jf_S_73 : zF "StreamIds" 73 4 3 := ⟨"StreamIds$Declaration", jT_D, 7, rfl, ju_D, by decide, Or.inr ⟨"StreamIds", List.mem_of_getElem? (i := 20) (by decide +kernel)⟩⟩
theorem jf_D_35 : zF "StreamIds$Declaration" 35 4 4 := ⟨"StreamIds$Declaration", jT_D, 7, rfl, ju_D, by decide, Or.inl jw_137⟩
theorem jp_D_35 : zFp "StreamIds$Declaration" 35 4 4 (.object "StreamIds$Row") true := ⟨"StreamIds$Declaration", jT_D, 7, jt_D, rfl, ju_D, jt_D_ok, jn_D, by decide, Or.inl jw_137, rfl, by decide +kernel, fun _ => ⟨rfl, jw_137⟩⟩
theorem jf_L_49 : zF "StreamIds$Layout" 49 4 4 := ⟨"StreamIds$Declaration", jT_D, 7, rfl, ju_D, by decide, Or.inr ⟨"StreamIds", List.mem_of_getElem? (i := 21) (by decide +kernel)⟩⟩
theorem jf_S_93 : zF "StreamIds" 93 4 4 := ⟨"StreamIds$Declaration", jT_D, 7, rfl, ju_D, by decide, Or.inr ⟨"StreamIds", List.mem_of_getElem? (i := 22) (by decide +kernel)⟩⟩
theorem jf_D_38 : zF "StreamIds$Declaration" 38 4 5 := ⟨"StreamIds$Declaration", jT_D, 7, rfl, ju_D, by decide, Or.inl jw_140⟩
theorem jp_D_38 : zFp "StreamIds$Declaration" 38 4 5 (.boolean) false := ⟨"StreamIds$Declaration", jT_D, 7, jt_D, rfl, ju_D, jt_D_ok, jn_D, by decide, Or.inl jw_140, rfl, by decide +kernel, fun h => by cases h⟩
theorem jf_S_100 : zF "StreamIds" 100 4 5 := ⟨"StreamIds$Declaration", jT_D, 7, rfl, ju_D, by decide, Or.inr ⟨"StreamIds", List.mem_of_getElem? (i := 23) (by decide +kernel)⟩⟩
theorem jp_S_100 : zFp "StreamIds" 100 4 5 (.boolean) false := ⟨"StreamIds$Declaration", jT_D, 7, jt_D, rfl, ju_D, jt_D_ok, jn_D, by decide, Or.inr ⟨"StreamIds", List.mem_of_getElem? (i := 23) (by decide +kernel)⟩, rfl, by decide +kernel, fun h => by cases h⟩
theorem jf_D_41 : zF "StreamIds$Declaration" 41 4 6 := ⟨"StreamIds$Declaration", jT_D, 7, rfl, ju_D, by decide, Or.inl jw_142⟩
theorem jp_D_41 : zFp "StreamIds$Declaration" 41 4 6 (.long) false := ⟨"StreamIds$Declaration", jT_D, 7, jt_D, rfl, ju_D, jt_D_ok, jn_D, by decide, Or.inl jw_142, rfl, by decide +kernel, fun h => by cases h⟩
theorem jf_S_104 : zF "StreamIds" 104 4 6 := ⟨"StreamIds$Declaration", jT_D, 7, rfl, ju_D, by decide, Or.inr ⟨"StreamIds", List.mem_of_getElem? (i := 24) (by decide +kernel)⟩⟩
theorem jp_S_104 : zFp "StreamIds" 104 4 6 (.long) false := ⟨"StreamIds$Declaration", jT_D, 7, jt_D, rfl, ju_D, jt_D_ok, jn_D, by decide, Or.inr ⟨"StreamIds", List.mem_of_getElem? (i := 24) (by decide +kernel)⟩, rfl, by decide +kernel, fun h => by cases h⟩
theorem jf_S_12 : zF "StreamIds" 12 0 0 := ⟨"StreamIds", jT_S, 5, rfl, ju_S, by decide, Or.inl jw_159⟩
theorem jp_S_12 : zFp "StreamIds" 12 0 0 (.object "StreamIds$Text") true := ⟨"StreamIds", jT_S, 5, jt_S, rfl, ju_S, jt_S_ok, jn_S, by decide, Or.inl jw_159, rfl, by decide +kernel, fun _ => ⟨rfl, jw_159⟩⟩
theorem jf_S_16 : zF "StreamIds" 16 0 1 := ⟨"StreamIds", jT_S, 5, rfl, ju_S, by decide, Or.inl jw_160⟩
theorem jp_S_16 : zFp "StreamIds" 16 0 1 (.object "StreamIds$Text") true := ⟨"StreamIds", jT_S, 5, jt_S, rfl, ju_S, jt_S_ok, jn_S, by decide, Or.inl jw_160, rfl, by decide +kernel, fun _ => ⟨rfl, jw_160⟩⟩
theorem jf_S_21 : zF "StreamIds" 21 0 2 := ⟨"StreamIds", jT_S, 5, rfl, ju_S, by decide, Or.inl jw_161⟩
theorem jp_S_21 : zFp "StreamIds" 21 0 2 (.array (.object "StreamIds$Declaration")) true := ⟨"StreamIds", jT_S, 5, jt_S, rfl, ju_S, jt_S_ok, jn_S, by decide, Or.inl jw_161, rfl, by decide +kernel, fun _ => ⟨rfl, jw_161⟩⟩
theorem jf_S_28 : zF "StreamIds" 28 0 3 := ⟨"StreamIds", jT_S, 5, rfl, ju_S, by decide, Or.inl jw_162⟩
theorem jp_S_28 : zFp "StreamIds" 28 0 3 (.object "StreamIds$Layout") true := ⟨"StreamIds", jT_S, 5, jt_S, rfl, ju_S, jt_S_ok, jn_S, by decide, Or.inl jw_162, rfl, by decide +kernel, fun _ => ⟨rfl, jw_162⟩⟩
theorem jf_S_35 : zF "StreamIds" 35 0 4 := ⟨"StreamIds", jT_S, 5, rfl, ju_S, by decide, Or.inl jw_163⟩
theorem jp_S_35 : zFp "StreamIds" 35 0 4 (.object "StreamIds$Digest") true := ⟨"StreamIds", jT_S, 5, jt_S, rfl, ju_S, jt_S_ok, jn_S, by decide, Or.inl jw_163, rfl, by decide +kernel, fun _ => ⟨rfl, jw_163⟩⟩
theorem jf_M_7 : zF "StreamIdsModel" 7 7 0 := ⟨"StreamIdsModel", jT_M, 17, rfl, ju_M, by decide, Or.inl jw_481⟩
theorem jp_M_7 : zFp "StreamIdsModel" 7 7 0 (.array .int) true := ⟨"StreamIdsModel", jT_M, 17, jt_M, rfl, ju_M, jt_M_ok, jn_M, by decide, Or.inl jw_481, rfl, by decide +kernel, fun _ => ⟨rfl, jw_481⟩⟩
theorem jf_M_13 : zF "StreamIdsModel" 13 7 1 := ⟨"StreamIdsModel", jT_M, 17, rfl, ju_M, by decide, Or.inl jw_482⟩
theorem jp_M_13 : zFp "StreamIdsModel" 13 7 1 (.array .int) true := ⟨"StreamIdsModel", jT_M, 17, jt_M, rfl, ju_M, jt_M_ok, jn_M, by decide, Or.inl jw_482, rfl, by decide +kernel, fun _ => ⟨rfl, jw_482⟩⟩
theorem jf_M_16 : zF "StreamIdsModel" 16 7 2 := ⟨"StreamIdsModel", jT_M, 17, rfl, ju_M, by decide, Or.inl jw_483⟩
theorem jp_M_16 : zFp "StreamIdsModel" 16 7 2 (.array .boolean) true := ⟨"StreamIdsModel", jT_M, 17, jt_M, rfl, ju_M, jt_M_ok, jn_M, by decide, Or.inl jw_483, rfl, by decide +kernel, fun _ => ⟨rfl, jw_483⟩⟩
theorem jf_M_20 : zF "StreamIdsModel" 20 7 3 := ⟨"StreamIdsModel", jT_M, 17, rfl, ju_M, by decide, Or.inl jw_484⟩
theorem jp_M_20 : zFp "StreamIdsModel" 20 7 3 (.array .int) true := ⟨"StreamIdsModel", jT_M, 17, jt_M, rfl, ju_M, jt_M_ok, jn_M, by decide, Or.inl jw_484, rfl, by decide +kernel, fun _ => ⟨rfl, jw_484⟩⟩
theorem jf_M_23 : zF "StreamIdsModel" 23 7 4 := ⟨"StreamIdsModel", jT_M, 17, rfl, ju_M, by decide, Or.inl jw_485⟩
theorem jp_M_23 : zFp "StreamIdsModel" 23 7 4 (.array .int) true := ⟨"StreamIdsModel", jT_M, 17, jt_M, rfl, ju_M, jt_M_ok, jn_M, by decide, Or.inl jw_485, rfl, by decide +kernel, fun _ => ⟨rfl, jw_485⟩⟩
theorem jf_M_26 : zF "StreamIdsModel" 26 7 5 := ⟨"StreamIdsModel", jT_M, 17, rfl, ju_M, by decide, Or.inl jw_486⟩
theorem jp_M_26 : zFp "StreamIdsModel" 26 7 5 (.array .int) true := ⟨"StreamIdsModel", jT_M, 17, jt_M, rfl, ju_M, jt_M_ok, jn_M, by decide, Or.inl jw_486, rfl, by decide +kernel, fun _ => ⟨rfl, jw_486⟩⟩
theorem jf_M_29 : zF "StreamIdsModel" 29 7 6 := ⟨"StreamIdsModel", jT_M, 17, rfl, ju_M, by decide, Or.inl jw_487⟩
theorem jp_M_29 : zFp "StreamIdsModel" 29 7 6 (.array .boolean) true := ⟨"StreamIdsModel", jT_M, 17, jt_M, rfl, ju_M, jt_M_ok, jn_M, by decide, Or.inl jw_487, rfl, by decide +kernel, fun _ => ⟨rfl, jw_487⟩⟩
theorem jf_M_32 : zF "StreamIdsModel" 32 7 7 := ⟨"StreamIdsModel", jT_M, 17, rfl, ju_M, by decide, Or.inl jw_488⟩
theorem jp_M_32 : zFp "StreamIdsModel" 32 7 7 (.array .long) true := ⟨"StreamIdsModel", jT_M, 17, jt_M, rfl, ju_M, jt_M_ok, jn_M, by decide, Or.inl jw_488, rfl, by decide +kernel, fun _ => ⟨rfl, jw_488⟩⟩
theorem jf_M_36 : zF "StreamIdsModel" 36 7 8 := ⟨"StreamIdsModel", jT_M, 17, rfl, ju_M, by decide, Or.inl jw_489⟩
theorem jp_M_36 : zFp "StreamIdsModel" 36 7 8 (.array .int) true := ⟨"StreamIdsModel", jT_M, 17, jt_M, rfl, ju_M, jt_M_ok, jn_M, by decide, Or.inl jw_489, rfl, by decide +kernel, fun _ => ⟨rfl, jw_489⟩⟩
theorem jf_M_39 : zF "StreamIdsModel" 39 7 9 := ⟨"StreamIdsModel", jT_M, 17, rfl, ju_M, by decide, Or.inl jw_490⟩
theorem jp_M_39 : zFp "StreamIdsModel" 39 7 9 (.array .int) true := ⟨"StreamIdsModel", jT_M, 17, jt_M, rfl, ju_M, jt_M_ok, jn_M, by decide, Or.inl jw_490, rfl, by decide +kernel, fun _ => ⟨rfl, jw_490⟩⟩
theorem jf_M_42 : zF "StreamIdsModel" 42 7 10 := ⟨"StreamIdsModel", jT_M, 17, rfl, ju_M, by decide, Or.inl jw_491⟩
theorem jp_M_42 : zFp "StreamIdsModel" 42 7 10 (.array .int) true := ⟨"StreamIdsModel", jT_M, 17, jt_M, rfl, ju_M, jt_M_ok, jn_M, by decide, Or.inl jw_491, rfl, by decide +kernel, fun _ => ⟨rfl, jw_491⟩⟩
theorem jf_M_92 : zF "StreamIdsModel" 92 7 11 := ⟨"StreamIdsModel", jT_M, 17, rfl, ju_M, by decide, Or.inl jw_492⟩
theorem jp_M_92 : zFp "StreamIdsModel" 92 7 11 (.int) false := ⟨"StreamIdsModel", jT_M, 17, jt_M, rfl, ju_M, jt_M_ok, jn_M, by decide, Or.inl jw_492, rfl, by decide +kernel, fun h => by cases h⟩
theorem jf_M_45 : zF "StreamIdsModel" 45 7 12 := ⟨"StreamIdsModel", jT_M, 17, rfl, ju_M, by decide, Or.inl jw_493⟩
theorem jp_M_45 : zFp "StreamIdsModel" 45 7 12 (.array .int) true := ⟨"StreamIdsModel", jT_M, 17, jt_M, rfl, ju_M, jt_M_ok, jn_M, by decide, Or.inl jw_493, rfl, by decide +kernel, fun _ => ⟨rfl, jw_493⟩⟩
theorem jf_M_48 : zF "StreamIdsModel" 48 7 13 := ⟨"StreamIdsModel", jT_M, 17, rfl, ju_M, by decide, Or.inl jw_494⟩
theorem jp_M_48 : zFp "StreamIdsModel" 48 7 13 (.array .int) true := ⟨"StreamIdsModel", jT_M, 17, jt_M, rfl, ju_M, jt_M_ok, jn_M, by decide, Or.inl jw_494, rfl, by decide +kernel, fun _ => ⟨rfl, jw_494⟩⟩
theorem jf_M_51 : zF "StreamIdsModel" 51 7 14 := ⟨"StreamIdsModel", jT_M, 17, rfl, ju_M, by decide, Or.inl jw_495⟩
theorem jp_M_51 : zFp "StreamIdsModel" 51 7 14 (.array .int) true := ⟨"StreamIdsModel", jT_M, 17, jt_M, rfl, ju_M, jt_M_ok, jn_M, by decide, Or.inl jw_495, rfl, by decide +kernel, fun _ => ⟨rfl, jw_495⟩⟩
theorem jf_M_62 : zF "StreamIdsModel" 62 7 15 := ⟨"StreamIdsModel", jT_M, 17, rfl, ju_M, by decide, Or.inl jw_496⟩
theorem jp_M_62 : zFp "StreamIdsModel" 62 7 15 (.int) false := ⟨"StreamIdsModel", jT_M, 17, jt_M, rfl, ju_M, jt_M_ok, jn_M, by decide, Or.inl jw_496, rfl, by decide +kernel, fun h => by cases h⟩
theorem jf_M_58 : zF "StreamIdsModel" 58 7 16 := ⟨"StreamIdsModel", jT_M, 17, rfl, ju_M, by decide, Or.inl jw_497⟩
theorem jp_M_58 : zFp "StreamIdsModel" 58 7 16 (.int) false := ⟨"StreamIdsModel", jT_M, 17, jt_M, rfl, ju_M, jt_M_ok, jn_M, by decide, Or.inl jw_497, rfl, by decide +kernel, fun h => by cases h⟩
theorem jc_W_9 : zC "StreamIdsLaw" 9 jy_S_init jb_S_init 2 none 0 := ⟨Or.inl jw_18, jw_20, jw_1, ⟨by decide +kernel, by decide +kernel, by decide +kernel⟩, by decide⟩
theorem jc_S_11 : zC "StreamIds" 11 jy_T_init jb_T_init 1 none 0 := ⟨Or.inr ⟨"StreamIds", List.mem_of_getElem? (i := 0) (by decide +kernel)⟩, jw_28, jw_2, ⟨by decide +kernel, by decide +kernel, by decide +kernel⟩, by decide⟩
theorem jc_S_27 : zC "StreamIds" 27 jy_L_init jb_L_init 1 none 0 := ⟨Or.inr ⟨"StreamIds", List.mem_of_getElem? (i := 1) (by decide +kernel)⟩, jw_47, jw_3, ⟨by decide +kernel, by decide +kernel, by decide +kernel⟩, by decide⟩
theorem jc_S_34 : zC "StreamIds" 34 jy_G_init jb_G_init 1 none 0 := ⟨Or.inr ⟨"StreamIds", List.mem_of_getElem? (i := 2) (by decide +kernel)⟩, jw_67, jw_4, ⟨by decide +kernel, by decide +kernel, by decide +kernel⟩, by decide⟩
theorem jc_S_39 : zC "StreamIds" 39 jy_D_init jb_D_init 1 none 0 := ⟨Or.inr ⟨"StreamIds", List.mem_of_getElem? (i := 3) (by decide +kernel)⟩, jw_80, jw_5, ⟨by decide +kernel, by decide +kernel, by decide +kernel⟩, by decide⟩
theorem jc_D_17 : zC "StreamIds$Declaration" 17 jy_T_init jb_T_init 1 none 0 := ⟨Or.inr ⟨"StreamIds", List.mem_of_getElem? (i := 4) (by decide +kernel)⟩, jw_28, jw_2, ⟨by decide +kernel, by decide +kernel, by decide +kernel⟩, by decide⟩
theorem jc_D_28 : zC "StreamIds$Declaration" 28 jy_R_init jb_R_init 3 none 1 := ⟨Or.inl jw_86, jw_88, jw_6, ⟨by decide +kernel, by decide +kernel, by decide +kernel⟩, by decide⟩
theorem jc_R_21 : zC "StreamIds$Row" 21 jy_E_init jb_E_init 1 none 0 := ⟨Or.inr ⟨"StreamIds", List.mem_of_getElem? (i := 5) (by decide +kernel)⟩, jw_95, jw_7, ⟨by decide +kernel, by decide +kernel, by decide +kernel⟩, by decide⟩
theorem jc_E_20 : zC "StreamIds$Entry" 20 jy_T_init jb_T_init 1 none 0 := ⟨Or.inr ⟨"StreamIds", List.mem_of_getElem? (i := 6) (by decide +kernel)⟩, jw_28, jw_2, ⟨by decide +kernel, by decide +kernel, by decide +kernel⟩, by decide⟩
theorem jc_W_15 : zC "StreamIdsLaw" 15 jy_S_type jb_S_type 7 (some .int) 2 := ⟨Or.inl jw_175, jw_178, jw_1, ⟨by decide +kernel, by decide +kernel, by decide +kernel⟩, by decide⟩
theorem jc_S_40 : zC "StreamIds" 40 jy_S_bufferOf jb_S_bufferOf 2 (some (.object "StreamIds$Text")) 1 := ⟨Or.inl jw_179, jw_182, jw_1, ⟨by decide +kernel, by decide +kernel, by decide +kernel⟩, by decide⟩
theorem jc_S_44 : zC "StreamIds" 44 jy_S_areSigns jb_S_areSigns 4 (some .boolean) 1 := ⟨Or.inl jw_183, jw_185, jw_1, ⟨by decide +kernel, by decide +kernel, by decide +kernel⟩, by decide⟩
theorem jc_S_56 : zC "StreamIds" 56 jy_S_byteOf jb_S_byteOf 3 (some .int) 2 := ⟨Or.inl jw_186, jw_188, jw_1, ⟨by decide +kernel, by decide +kernel, by decide +kernel⟩, by decide⟩
theorem jc_S_52 : zC "StreamIds" 52 jy_S_signsIn jb_S_signsIn 4 (some .int) 1 := ⟨Or.inl jw_189, jw_191, jw_1, ⟨by decide +kernel, by decide +kernel, by decide +kernel⟩, by decide⟩
theorem jc_S_60 : zC "StreamIds" 60 jy_T_append jb_T_append 2 none 1 := ⟨Or.inl jw_192, jw_195, jw_2, ⟨by decide +kernel, by decide +kernel, by decide +kernel⟩, by decide⟩
theorem jc_W_20 : zC "StreamIdsLaw" 20 jy_S_clear jb_S_clear 4 (some .int) 1 := ⟨Or.inl jw_196, jw_199, jw_1, ⟨by decide +kernel, by decide +kernel, by decide +kernel⟩, by decide⟩
theorem jc_W_25 : zC "StreamIdsLaw" 25 jy_S_define jb_S_define 3 (some .int) 2 := ⟨Or.inl jw_200, jw_203, jw_1, ⟨by decide +kernel, by decide +kernel, by decide +kernel⟩, by decide⟩
theorem jc_S_65 : zC "StreamIds" 65 jy_D_begin jb_D_begin 3 none 2 := ⟨Or.inl jw_205, jw_208, jw_5, ⟨by decide +kernel, by decide +kernel, by decide +kernel⟩, by decide⟩
theorem jc_D_45 : zC "StreamIds$Declaration" 45 jy_T_become jb_T_become 2 none 1 := ⟨Or.inl jw_209, jw_212, jw_2, ⟨by decide +kernel, by decide +kernel, by decide +kernel⟩, by decide⟩
theorem jc_W_30 : zC "StreamIdsLaw" 30 jy_S_face jb_S_face 3 (some .int) 1 := ⟨Or.inl jw_216, jw_219, jw_1, ⟨by decide +kernel, by decide +kernel, by decide +kernel⟩, by decide⟩
theorem jc_S_69 : zC "StreamIds" 69 jy_S_declarationOf jb_S_declarationOf 2 (some (.object "StreamIds$Declaration")) 1 := ⟨Or.inl jw_220, jw_223, jw_1, ⟨by decide +kernel, by decide +kernel, by decide +kernel⟩, by decide⟩
theorem jc_S_77 : zC "StreamIds" 77 jy_R_enter jb_R_enter 8 (some .int) 4 := ⟨Or.inl jw_224, jw_227, jw_6, ⟨by decide +kernel, by decide +kernel, by decide +kernel⟩, by decide⟩
theorem jc_R_22 : zC "StreamIds$Row" 22 jy_R_placeOf jb_R_placeOf 5 (some .int) 3 := ⟨Or.inl jw_228, jw_231, jw_6, ⟨by decide +kernel, by decide +kernel, by decide +kernel⟩, by decide⟩
theorem jc_R_37 : zC "StreamIds$Row" 37 jy_E_compareWith jb_E_compareWith 5 (some .int) 3 := ⟨Or.inl jw_232, jw_235, jw_7, ⟨by decide +kernel, by decide +kernel, by decide +kernel⟩, by decide⟩
theorem jc_E_32 : zC "StreamIds$Entry" 32 jy_T_compareWith jb_T_compareWith 4 (some .int) 1 := ⟨Or.inl jw_236, jw_239, jw_2, ⟨by decide +kernel, by decide +kernel, by decide +kernel⟩, by decide⟩
theorem jc_T_25 : zC "StreamIds$Text" 25 jy_A_min jb_A_min 2 (some .int) 2 := ⟨Or.inl jw_240, jw_242, jw_10, ⟨by decide +kernel, by decide +kernel, by decide +kernel⟩, by decide⟩
theorem jc_R_26 : zC "StreamIds$Row" 26 jy_R_isAt jb_R_isAt 5 (some .boolean) 4 := ⟨Or.inl jw_243, jw_246, jw_6, ⟨by decide +kernel, by decide +kernel, by decide +kernel⟩, by decide⟩
theorem jc_R_30 : zC "StreamIds$Row" 30 jy_E_become jb_E_become 5 none 4 := ⟨Or.inl jw_247, jw_250, jw_7, ⟨by decide +kernel, by decide +kernel, by decide +kernel⟩, by decide⟩
theorem jc_E_28 : zC "StreamIds$Entry" 28 jy_T_become jb_T_become 2 none 1 := ⟨Or.inl jw_251, jw_212, jw_2, ⟨by decide +kernel, by decide +kernel, by decide +kernel⟩, by decide⟩
theorem jc_W_34 : zC "StreamIdsLaw" 34 jy_S_member jb_S_member 5 (some .int) 3 := ⟨Or.inl jw_252, jw_255, jw_1, ⟨by decide +kernel, by decide +kernel, by decide +kernel⟩, by decide⟩
theorem jc_S_83 : zC "StreamIds" 83 jy_S_isMemberKind jb_S_isMemberKind 1 (some .boolean) 1 := ⟨Or.inl jw_256, jw_258, jw_1, ⟨by decide +kernel, by decide +kernel, by decide +kernel⟩, by decide⟩
theorem jc_S_87 : zC "StreamIds" 87 jy_S_isNameFor jb_S_isNameFor 2 (some .boolean) 1 := ⟨Or.inl jw_259, jw_262, jw_1, ⟨by decide +kernel, by decide +kernel, by decide +kernel⟩, by decide⟩
theorem jc_S_90 : zC "StreamIds" 90 jy_S_isShapeFor jb_S_isShapeFor 2 (some .boolean) 1 := ⟨Or.inl jw_263, jw_266, jw_1, ⟨by decide +kernel, by decide +kernel, by decide +kernel⟩, by decide⟩
theorem jc_S_146 : zC "StreamIds" 146 jy_H_isType jb_H_isType 1 (some .boolean) 1 := ⟨Or.inl jw_267, jw_269, jw_11, ⟨by decide +kernel, by decide +kernel, by decide +kernel⟩, by decide⟩
theorem jc_H_9 : zC "StreamIds$Shapes" 9 jy_H_endOfType jb_H_endOfType 3 (some .int) 2 := ⟨Or.inl jw_270, jw_272, jw_11, ⟨by decide +kernel, by decide +kernel, by decide +kernel⟩, by decide⟩
theorem jc_H_21 : zC "StreamIds$Shapes" 21 jy_T_at jb_T_at 2 (some .int) 1 := ⟨Or.inl jw_273, jw_276, jw_2, ⟨by decide +kernel, by decide +kernel, by decide +kernel⟩, by decide⟩
theorem jc_H_28 : zC "StreamIds$Shapes" 28 jy_H_endOfName jb_H_endOfName 3 (some .int) 2 := ⟨Or.inl jw_277, jw_279, jw_11, ⟨by decide +kernel, by decide +kernel, by decide +kernel⟩, by decide⟩
theorem jc_H_35 : zC "StreamIds$Shapes" 35 jy_H_mayStandInName jb_H_mayStandInName 1 (some .boolean) 1 := ⟨Or.inl jw_280, jw_282, jw_11, ⟨by decide +kernel, by decide +kernel, by decide +kernel⟩, by decide⟩
theorem jc_H_31 : zC "StreamIds$Shapes" 31 jy_H_isSimple jb_H_isSimple 1 (some .boolean) 1 := ⟨Or.inl jw_283, jw_285, jw_11, ⟨by decide +kernel, by decide +kernel, by decide +kernel⟩, by decide⟩
theorem jc_S_152 : zC "StreamIds" 152 jy_H_isMethod jb_H_isMethod 4 (some .boolean) 1 := ⟨Or.inl jw_286, jw_288, jw_11, ⟨by decide +kernel, by decide +kernel, by decide +kernel⟩, by decide⟩
theorem jc_H_25 : zC "StreamIds$Shapes" 25 jy_H_endOfTypes jb_H_endOfTypes 4 (some .int) 2 := ⟨Or.inl jw_289, jw_291, jw_11, ⟨by decide +kernel, by decide +kernel, by decide +kernel⟩, by decide⟩
theorem jc_S_155 : zC "StreamIds" 155 jy_T_at jb_T_at 2 (some .int) 1 := ⟨Or.inl jw_292, jw_276, jw_2, ⟨by decide +kernel, by decide +kernel, by decide +kernel⟩, by decide⟩
theorem jc_W_39 : zC "StreamIdsLaw" 39 jy_S_remove jb_S_remove 4 (some .int) 2 := ⟨Or.inl jw_293, jw_296, jw_1, ⟨by decide +kernel, by decide +kernel, by decide +kernel⟩, by decide⟩
theorem jc_S_96 : zC "StreamIds" 96 jy_R_takeOut jb_R_takeOut 7 (some .int) 3 := ⟨Or.inl jw_297, jw_300, jw_6, ⟨by decide +kernel, by decide +kernel, by decide +kernel⟩, by decide⟩
theorem jc_W_43 : zC "StreamIdsLaw" 43 jy_S_declare jb_S_declare 6 (some .int) 3 := ⟨Or.inl jw_301, jw_304, jw_1, ⟨by decide +kernel, by decide +kernel, by decide +kernel⟩, by decide⟩
theorem jc_W_48 : zC "StreamIdsLaw" 48 jy_S_id jb_S_id 3 (some .long) 1 := ⟨Or.inl jw_305, jw_308, jw_1, ⟨by decide +kernel, by decide +kernel, by decide +kernel⟩, by decide⟩
theorem jc_S_113 : zC "StreamIds" 113 jy_L_write jb_L_write 2 none 1 := ⟨Or.inl jw_310, jw_313, jw_3, ⟨by decide +kernel, by decide +kernel, by decide +kernel⟩, by decide⟩
theorem jc_L_29 : zC "StreamIds$Layout" 29 jy_L_putText jb_L_putText 3 none 1 := ⟨Or.inl jw_314, jw_317, jw_3, ⟨by decide +kernel, by decide +kernel, by decide +kernel⟩, by decide⟩
theorem jc_L_95 : zC "StreamIds$Layout" 95 jy_L_putLength jb_L_putLength 2 none 1 := ⟨Or.inl jw_318, jw_321, jw_3, ⟨by decide +kernel, by decide +kernel, by decide +kernel⟩, by decide⟩
theorem jc_L_102 : zC "StreamIds$Layout" 102 jy_L_put jb_L_put 2 none 1 := ⟨Or.inl jw_322, jw_325, jw_3, ⟨by decide +kernel, by decide +kernel, by decide +kernel⟩, by decide⟩
theorem jc_L_98 : zC "StreamIds$Layout" 98 jy_T_at jb_T_at 2 (some .int) 1 := ⟨Or.inl jw_326, jw_276, jw_2, ⟨by decide +kernel, by decide +kernel, by decide +kernel⟩, by decide⟩
theorem jc_L_33 : zC "StreamIds$Layout" 33 jy_D_hashedModifiers jb_D_hashedModifiers 2 (some .int) 0 := ⟨Or.inl jw_327, jw_330, jw_5, ⟨by decide +kernel, by decide +kernel, by decide +kernel⟩, by decide⟩
theorem jc_D_52 : zC "StreamIds$Declaration" 52 jy_R_tally jb_R_tally 4 (some .int) 1 := ⟨Or.inl jw_331, jw_334, jw_6, ⟨by decide +kernel, by decide +kernel, by decide +kernel⟩, by decide⟩
theorem jc_L_37 : zC "StreamIds$Layout" 37 jy_L_putNumber jb_L_putNumber 2 none 1 := ⟨Or.inl jw_335, jw_338, jw_3, ⟨by decide +kernel, by decide +kernel, by decide +kernel⟩, by decide⟩
theorem jc_L_45 : zC "StreamIds$Layout" 45 jy_L_putAll jb_L_putAll 5 none 2 := ⟨Or.inl jw_339, jw_342, jw_3, ⟨by decide +kernel, by decide +kernel, by decide +kernel⟩, by decide⟩
theorem jc_L_66 : zC "StreamIds$Layout" 66 jy_E_isHashed jb_E_isHashed 1 (some .boolean) 0 := ⟨Or.inl jw_343, jw_346, jw_7, ⟨by decide +kernel, by decide +kernel, by decide +kernel⟩, by decide⟩
theorem jc_E_36 : zC "StreamIds$Entry" 36 jy_E_has jb_E_has 2 (some .boolean) 1 := ⟨Or.inl jw_347, jw_350, jw_7, ⟨by decide +kernel, by decide +kernel, by decide +kernel⟩, by decide⟩
theorem jc_L_70 : zC "StreamIds$Layout" 70 jy_L_putEntry jb_L_putEntry 2 none 1 := ⟨Or.inl jw_351, jw_354, jw_3, ⟨by decide +kernel, by decide +kernel, by decide +kernel⟩, by decide⟩
theorem jc_L_83 : zC "StreamIds$Layout" 83 jy_L_putConstant jb_L_putConstant 3 none 1 := ⟨Or.inl jw_356, jw_359, jw_3, ⟨by decide +kernel, by decide +kernel, by decide +kernel⟩, by decide⟩
theorem jc_L_105 : zC "StreamIds$Layout" 105 jy_JS_length jb_JS_length 1 (some .int) 0 := ⟨Or.inl jw_360, jw_363, jw_12, ⟨by decide +kernel, by decide +kernel, by decide +kernel⟩, by decide⟩
theorem jc_JS_335 : zC "java/lang/String" 335 jy_JS_coder jb_JS_coder 1 (some .byte) 0 := ⟨Or.inl jw_364, jw_367, jw_12, ⟨by decide +kernel, by decide +kernel, by decide +kernel⟩, by decide⟩
theorem jc_L_109 : zC "StreamIds$Layout" 109 jy_JS_charAt jb_JS_charAt 2 (some .char) 1 := ⟨Or.inl jw_370, jw_373, jw_12, ⟨by decide +kernel, by decide +kernel, by decide +kernel⟩, by decide⟩
theorem jc_JS_492 : zC "java/lang/String" 492 jy_JS_isLatin1 jb_JS_isLatin1 1 (some .boolean) 0 := ⟨Or.inl jw_374, jw_377, jw_12, ⟨by decide +kernel, by decide +kernel, by decide +kernel⟩, by decide⟩
theorem jc_JS_495 : zC "java/lang/String" 495 jy_JL_charAt jb_JL_charAt 2 (some .char) 2 := ⟨Or.inl jw_378, jw_380, jw_13, ⟨by decide +kernel, by decide +kernel, by decide +kernel⟩, by decide⟩
theorem jc_JL_9 : zC "java/lang/StringLatin1" 9 jy_JS_checkIndex jb_JS_checkIndex 2 none 2 := ⟨Or.inl jw_381, jw_383, jw_12, ⟨by decide +kernel, by decide +kernel, by decide +kernel⟩, by decide⟩
theorem jc_JS_1059 : zC "java/lang/String" 1059 jy_JP_checkIndex jb_JP_checkIndex 3 (some .int) 3 := ⟨Or.inl jw_386, jw_388, jw_14, ⟨by decide +kernel, by decide +kernel, by decide +kernel⟩, by decide⟩
theorem jc_JS_498 : zC "java/lang/String" 498 jy_JU_charAt jb_JU_charAt 2 (some .char) 2 := ⟨Or.inl jw_389, jw_391, jw_15, ⟨by decide +kernel, by decide +kernel, by decide +kernel⟩, by decide⟩
theorem jc_JU_67 : zC "java/lang/StringUTF16" 67 jy_JU_checkIndex jb_JU_checkIndex 2 none 2 := ⟨Or.inl jw_392, jw_394, jw_15, ⟨by decide +kernel, by decide +kernel, by decide +kernel⟩, by decide⟩
theorem jc_JU_48 : zC "java/lang/StringUTF16" 48 jy_JU_length jb_JU_length 1 (some .int) 1 := ⟨Or.inl jw_395, jw_397, jw_15, ⟨by decide +kernel, by decide +kernel, by decide +kernel⟩, by decide⟩
theorem jc_JU_414 : zC "java/lang/StringUTF16" 414 jy_JS_checkIndex jb_JS_checkIndex 2 none 2 := ⟨Or.inl jw_398, jw_383, jw_12, ⟨by decide +kernel, by decide +kernel, by decide +kernel⟩, by decide⟩
theorem jc_JU_71 : zC "java/lang/StringUTF16" 71 jy_JU_getChar jb_JU_getChar 2 (some .char) 2 := ⟨Or.inl jw_399, jw_401, jw_15, ⟨by decide +kernel, by decide +kernel, by decide +kernel⟩, by decide⟩
theorem jc_L_89 : zC "StreamIds$Layout" 89 jy_L_putDotted jb_L_putDotted 3 none 1 := ⟨Or.inl jw_410, jw_413, jw_3, ⟨by decide +kernel, by decide +kernel, by decide +kernel⟩, by decide⟩
theorem jc_S_117 : zC "StreamIds" 117 jy_G_take jb_G_take 4 none 1 := ⟨Or.inl jw_414, jw_417, jw_4, ⟨by decide +kernel, by decide +kernel, by decide +kernel⟩, by decide⟩
theorem jc_G_33 : zC "StreamIds$Digest" 33 jy_G_fillWords jb_G_fillWords 7 none 3 := ⟨Or.inl jw_421, jw_424, jw_4, ⟨by decide +kernel, by decide +kernel, by decide +kernel⟩, by decide⟩
theorem jc_G_46 : zC "StreamIds$Digest" 46 jy_G_paddedAt jb_G_paddedAt 4 (some .int) 3 := ⟨Or.inl jw_425, jw_427, jw_4, ⟨by decide +kernel, by decide +kernel, by decide +kernel⟩, by decide⟩
theorem jc_G_54 : zC "StreamIds$Digest" 54 jy_L_at jb_L_at 2 (some .int) 1 := ⟨Or.inl jw_428, jw_431, jw_3, ⟨by decide +kernel, by decide +kernel, by decide +kernel⟩, by decide⟩
theorem jc_G_50 : zC "StreamIds$Digest" 50 jy_G_turned jb_G_turned 2 (some .int) 2 := ⟨Or.inl jw_432, jw_434, jw_4, ⟨by decide +kernel, by decide +kernel, by decide +kernel⟩, by decide⟩
theorem jc_G_37 : zC "StreamIds$Digest" 37 jy_G_mixWords jb_G_mixWords 8 none 0 := ⟨Or.inl jw_435, jw_438, jw_4, ⟨by decide +kernel, by decide +kernel, by decide +kernel⟩, by decide⟩
theorem jc_G_57 : zC "StreamIds$Digest" 57 jy_G_chosen jb_G_chosen 4 (some .int) 4 := ⟨Or.inl jw_439, jw_441, jw_4, ⟨by decide +kernel, by decide +kernel, by decide +kernel⟩, by decide⟩
theorem jc_S_121 : zC "StreamIds" 121 jy_G_firstEightReversed jb_G_firstEightReversed 5 (some .long) 0 := ⟨Or.inl jw_444, jw_447, jw_4, ⟨by decide +kernel, by decide +kernel, by decide +kernel⟩, by decide⟩
theorem jc_G_40 : zC "StreamIds$Digest" 40 jy_G_reversed jb_G_reversed 1 (some .int) 1 := ⟨Or.inl jw_448, jw_450, jw_4, ⟨by decide +kernel, by decide +kernel, by decide +kernel⟩, by decide⟩
theorem jc_W_53 : zC "StreamIdsLaw" 53 jy_S_hash jb_S_hash 4 (some .long) 2 := ⟨Or.inl jw_453, jw_456, jw_1, ⟨by decide +kernel, by decide +kernel, by decide +kernel⟩, by decide⟩
theorem jc_W_58 : zC "StreamIdsLaw" 58 jy_S_size jb_S_size 3 (some .int) 1 := ⟨Or.inl jw_457, jw_460, jw_1, ⟨by decide +kernel, by decide +kernel, by decide +kernel⟩, by decide⟩
theorem jc_W_62 : zC "StreamIdsLaw" 62 jy_S_byteAt jb_S_byteAt 4 (some .int) 2 := ⟨Or.inl jw_461, jw_464, jw_1, ⟨by decide +kernel, by decide +kernel, by decide +kernel⟩, by decide⟩
theorem jc_S_130 : zC "StreamIds" 130 jy_L_at jb_L_at 2 (some .int) 1 := ⟨Or.inl jw_465, jw_431, jw_3, ⟨by decide +kernel, by decide +kernel, by decide +kernel⟩, by decide⟩
theorem jc_W_66 : zC "StreamIdsLaw" 66 jy_S_part jb_S_part 4 (some .int) 2 := ⟨Or.inl jw_466, jw_469, jw_1, ⟨by decide +kernel, by decide +kernel, by decide +kernel⟩, by decide⟩
theorem jc_W_70 : zC "StreamIdsLaw" 70 jy_S_count jb_S_count 4 (some .int) 2 := ⟨Or.inl jw_470, jw_473, jw_1, ⟨by decide +kernel, by decide +kernel, by decide +kernel⟩, by decide⟩
theorem jc_S_140 : zC "StreamIds" 140 jy_R_tally jb_R_tally 4 (some .int) 1 := ⟨Or.inl jw_474, jw_334, jw_6, ⟨by decide +kernel, by decide +kernel, by decide +kernel⟩, by decide⟩
theorem jc_W_12 : zC "StreamIdsLaw" 12 jy_M_init jb_M_init 1 none 0 := ⟨Or.inl jw_477, jw_479, jw_8, ⟨by decide +kernel, by decide +kernel, by decide +kernel⟩, by decide⟩
theorem jc_W_19 : zC "StreamIdsLaw" 19 jy_M_type jb_M_type 7 (some .int) 2 := ⟨Or.inl jw_535, jw_538, jw_8, ⟨by decide +kernel, by decide +kernel, by decide +kernel⟩, by decide⟩
theorem jc_M_54 : zC "StreamIdsModel" 54 jy_M_out jb_M_out 3 (some .boolean) 2 := ⟨Or.inl jw_539, jw_542, jw_8, ⟨by decide +kernel, by decide +kernel, by decide +kernel⟩, by decide⟩
theorem jc_W_24 : zC "StreamIdsLaw" 24 jy_M_clear jb_M_clear 3 (some .int) 1 := ⟨Or.inl jw_543, jw_546, jw_8, ⟨by decide +kernel, by decide +kernel, by decide +kernel⟩, by decide⟩
theorem jc_W_29 : zC "StreamIdsLaw" 29 jy_M_define jb_M_define 3 (some .int) 2 := ⟨Or.inl jw_547, jw_550, jw_8, ⟨by decide +kernel, by decide +kernel, by decide +kernel⟩, by decide⟩
theorem jc_M_74 : zC "StreamIdsModel" 74 jy_M_copy jb_M_copy 4 none 2 := ⟨Or.inl jw_552, jw_555, jw_8, ⟨by decide +kernel, by decide +kernel, by decide +kernel⟩, by decide⟩
theorem jc_W_33 : zC "StreamIdsLaw" 33 jy_M_face jb_M_face 3 (some .int) 1 := ⟨Or.inl jw_556, jw_559, jw_8, ⟨by decide +kernel, by decide +kernel, by decide +kernel⟩, by decide⟩
theorem jc_M_78 : zC "StreamIdsModel" 78 jy_M_none jb_M_none 2 (some .boolean) 1 := ⟨Or.inl jw_560, jw_563, jw_8, ⟨by decide +kernel, by decide +kernel, by decide +kernel⟩, by decide⟩
theorem jc_M_82 : zC "StreamIdsModel" 82 jy_M_compare jb_M_compare 6 (some .int) 2 := ⟨Or.inl jw_564, jw_567, jw_8, ⟨by decide +kernel, by decide +kernel, by decide +kernel⟩, by decide⟩
theorem jc_W_38 : zC "StreamIdsLaw" 38 jy_M_member jb_M_member 5 (some .int) 3 := ⟨Or.inl jw_568, jw_571, jw_8, ⟨by decide +kernel, by decide +kernel, by decide +kernel⟩, by decide⟩
theorem jc_M_86 : zC "StreamIdsModel" 86 jy_M_goodShape jb_M_goodShape 2 (some .boolean) 1 := ⟨Or.inl jw_572, jw_575, jw_8, ⟨by decide +kernel, by decide +kernel, by decide +kernel⟩, by decide⟩
theorem jc_M_69 : zC "StreamIdsModel" 69 jy_M_passType jb_M_passType 6 (some .boolean) 0 := ⟨Or.inl jw_576, jw_579, jw_8, ⟨by decide +kernel, by decide +kernel, by decide +kernel⟩, by decide⟩
theorem jc_M_65 : zC "StreamIdsModel" 65 jy_M_signAt jb_M_signAt 2 (some .int) 1 := ⟨Or.inl jw_580, jw_583, jw_8, ⟨by decide +kernel, by decide +kernel, by decide +kernel⟩, by decide⟩
theorem jc_M_89 : zC "StreamIdsModel" 89 jy_M_find jb_M_find 6 (some .int) 2 := ⟨Or.inl jw_584, jw_587, jw_8, ⟨by decide +kernel, by decide +kernel, by decide +kernel⟩, by decide⟩
theorem jc_W_42 : zC "StreamIdsLaw" 42 jy_M_remove jb_M_remove 5 (some .int) 2 := ⟨Or.inl jw_588, jw_591, jw_8, ⟨by decide +kernel, by decide +kernel, by decide +kernel⟩, by decide⟩
theorem jc_W_47 : zC "StreamIdsLaw" 47 jy_M_declare jb_M_declare 5 (some .int) 3 := ⟨Or.inl jw_592, jw_595, jw_8, ⟨by decide +kernel, by decide +kernel, by decide +kernel⟩, by decide⟩
theorem jc_W_52 : zC "StreamIdsLaw" 52 jy_M_id jb_M_id 5 (some .long) 1 := ⟨Or.inl jw_596, jw_599, jw_8, ⟨by decide +kernel, by decide +kernel, by decide +kernel⟩, by decide⟩
theorem jc_M_153 : zC "StreamIdsModel" 153 jy_M_digest jb_M_digest 4 none 1 := ⟨Or.inl jw_601, jw_604, jw_8, ⟨by decide +kernel, by decide +kernel, by decide +kernel⟩, by decide⟩
theorem jc_M_140 : zC "StreamIdsModel" 140 jy_M_build jb_M_build 5 none 1 := ⟨Or.inl jw_605, jw_608, jw_8, ⟨by decide +kernel, by decide +kernel, by decide +kernel⟩, by decide⟩
theorem jc_M_110 : zC "StreamIdsModel" 110 jy_M_utf jb_M_utf 5 none 2 := ⟨Or.inl jw_609, jw_612, jw_8, ⟨by decide +kernel, by decide +kernel, by decide +kernel⟩, by decide⟩
theorem jc_M_95 : zC "StreamIdsModel" 95 jy_M_put jb_M_put 2 none 1 := ⟨Or.inl jw_613, jw_616, jw_8, ⟨by decide +kernel, by decide +kernel, by decide +kernel⟩, by decide⟩
theorem jc_M_117 : zC "StreamIdsModel" 117 jy_M_counted jb_M_counted 5 (some .int) 2 := ⟨Or.inl jw_617, jw_620, jw_8, ⟨by decide +kernel, by decide +kernel, by decide +kernel⟩, by decide⟩
theorem jc_M_114 : zC "StreamIdsModel" 114 jy_M_number jb_M_number 3 none 1 := ⟨Or.inl jw_621, jw_624, jw_8, ⟨by decide +kernel, by decide +kernel, by decide +kernel⟩, by decide⟩
theorem jc_M_120 : zC "StreamIdsModel" 120 jy_M_nextFace jb_M_nextFace 5 (some .int) 2 := ⟨Or.inl jw_625, jw_628, jw_8, ⟨by decide +kernel, by decide +kernel, by decide +kernel⟩, by decide⟩
theorem jc_M_123 : zC "StreamIdsModel" 123 jy_M_writeMembers jb_M_writeMembers 6 none 2 := ⟨Or.inl jw_629, jw_632, jw_8, ⟨by decide +kernel, by decide +kernel, by decide +kernel⟩, by decide⟩
theorem jc_M_103 : zC "StreamIdsModel" 103 jy_M_following jb_M_following 6 (some .int) 3 := ⟨Or.inl jw_633, jw_636, jw_8, ⟨by decide +kernel, by decide +kernel, by decide +kernel⟩, by decide⟩
theorem jc_M_99 : zC "StreamIdsModel" 99 jy_M_orderOf jb_M_orderOf 5 (some .int) 3 := ⟨Or.inl jw_637, jw_640, jw_8, ⟨by decide +kernel, by decide +kernel, by decide +kernel⟩, by decide⟩
theorem jc_M_106 : zC "StreamIdsModel" 106 jy_M_initName jb_M_initName 2 none 1 := ⟨Or.inl jw_641, jw_644, jw_8, ⟨by decide +kernel, by decide +kernel, by decide +kernel⟩, by decide⟩
theorem jc_M_148 : zC "StreamIdsModel" 148 jy_M_block jb_M_block 9 none 1 := ⟨Or.inl jw_650, jw_653, jw_8, ⟨by decide +kernel, by decide +kernel, by decide +kernel⟩, by decide⟩
theorem jc_M_130 : zC "StreamIdsModel" 130 jy_M_turned jb_M_turned 3 (some .int) 2 := ⟨Or.inl jw_654, jw_657, jw_8, ⟨by decide +kernel, by decide +kernel, by decide +kernel⟩, by decide⟩
theorem jc_M_133 : zC "StreamIdsModel" 133 jy_M_mixed jb_M_mixed 5 (some .int) 4 := ⟨Or.inl jw_658, jw_661, jw_8, ⟨by decide +kernel, by decide +kernel, by decide +kernel⟩, by decide⟩
theorem jc_M_137 : zC "StreamIdsModel" 137 jy_M_constant jb_M_constant 2 (some .int) 1 := ⟨Or.inl jw_662, jw_665, jw_8, ⟨by decide +kernel, by decide +kernel, by decide +kernel⟩, by decide⟩
theorem jc_W_57 : zC "StreamIdsLaw" 57 jy_M_hash jb_M_hash 3 (some .long) 2 := ⟨Or.inl jw_670, jw_673, jw_8, ⟨by decide +kernel, by decide +kernel, by decide +kernel⟩, by decide⟩
theorem jc_W_61 : zC "StreamIdsLaw" 61 jy_M_size jb_M_size 2 (some .int) 1 := ⟨Or.inl jw_674, jw_677, jw_8, ⟨by decide +kernel, by decide +kernel, by decide +kernel⟩, by decide⟩
theorem jc_W_65 : zC "StreamIdsLaw" 65 jy_M_byteAt jb_M_byteAt 3 (some .int) 2 := ⟨Or.inl jw_678, jw_681, jw_8, ⟨by decide +kernel, by decide +kernel, by decide +kernel⟩, by decide⟩
theorem jc_W_69 : zC "StreamIdsLaw" 69 jy_M_part jb_M_part 3 (some .int) 2 := ⟨Or.inl jw_682, jw_685, jw_8, ⟨by decide +kernel, by decide +kernel, by decide +kernel⟩, by decide⟩
theorem jc_W_73 : zC "StreamIdsLaw" 73 jy_M_count jb_M_count 3 (some .int) 2 := ⟨Or.inl jw_686, jw_689, jw_8, ⟨by decide +kernel, by decide +kernel, by decide +kernel⟩, by decide⟩
theorem ji_S_init : (jy_S_init).name = "<init>" ∧ Cond.instanceMethod jy_S_init ∈ zzW := ⟨rfl, jw_19⟩
theorem ji_T_init : (jy_T_init).name = "<init>" ∧ Cond.instanceMethod jy_T_init ∈ zzW := ⟨rfl, jw_27⟩
theorem ji_L_init : (jy_L_init).name = "<init>" ∧ Cond.instanceMethod jy_L_init ∈ zzW := ⟨rfl, jw_46⟩
theorem ji_G_init : (jy_G_init).name = "<init>" ∧ Cond.instanceMethod jy_G_init ∈ zzW := ⟨rfl, jw_66⟩
theorem ji_D_init : (jy_D_init).name = "<init>" ∧ Cond.instanceMethod jy_D_init ∈ zzW := ⟨rfl, jw_79⟩
theorem ji_R_init : (jy_R_init).name = "<init>" ∧ Cond.instanceMethod jy_R_init ∈ zzW := ⟨rfl, jw_87⟩
theorem ji_E_init : (jy_E_init).name = "<init>" ∧ Cond.instanceMethod jy_E_init ∈ zzW := ⟨rfl, jw_94⟩
theorem jv_S_type : Cond.instanceMethod jy_S_type ∈ zzW ∧ Cond.selects "StreamIds" jy_S_type jy_S_type ∈ zzW := ⟨jw_176, jw_177⟩
theorem jv_S_bufferOf : Cond.instanceMethod jy_S_bufferOf ∈ zzW ∧ Cond.selects "StreamIds" jy_S_bufferOf jy_S_bufferOf ∈ zzW := ⟨jw_181, jws_0⟩
theorem js_S_areSigns : Cond.static jy_S_areSigns ∈ zzW := jw_184
theorem js_S_byteOf : Cond.static jy_S_byteOf ∈ zzW := jw_187
theorem js_S_signsIn : Cond.static jy_S_signsIn ∈ zzW := jw_190
theorem jv_T_append : Cond.instanceMethod jy_T_append ∈ zzW ∧ Cond.selects "StreamIds$Text" jy_T_append jy_T_append ∈ zzW := ⟨jw_193, jw_194⟩
theorem jv_S_clear : Cond.instanceMethod jy_S_clear ∈ zzW ∧ Cond.selects "StreamIds" jy_S_clear jy_S_clear ∈ zzW := ⟨jw_197, jw_198⟩
theorem jv_S_define : Cond.instanceMethod jy_S_define ∈ zzW ∧ Cond.selects "StreamIds" jy_S_define jy_S_define ∈ zzW := ⟨jw_201, jw_202⟩
theorem jv_D_begin : Cond.instanceMethod jy_D_begin ∈ zzW ∧ Cond.selects "StreamIds$Declaration" jy_D_begin jy_D_begin ∈ zzW := ⟨jw_206, jw_207⟩
theorem jv_T_become : Cond.instanceMethod jy_T_become ∈ zzW ∧ Cond.selects "StreamIds$Text" jy_T_become jy_T_become ∈ zzW := ⟨jw_210, jw_211⟩
theorem jv_S_face : Cond.instanceMethod jy_S_face ∈ zzW ∧ Cond.selects "StreamIds" jy_S_face jy_S_face ∈ zzW := ⟨jw_217, jw_218⟩
theorem jv_S_declarationOf : Cond.instanceMethod jy_S_declarationOf ∈ zzW ∧ Cond.selects "StreamIds" jy_S_declarationOf jy_S_declarationOf ∈ zzW := ⟨jw_222, jws_1⟩
theorem jv_R_enter : Cond.instanceMethod jy_R_enter ∈ zzW ∧ Cond.selects "StreamIds$Row" jy_R_enter jy_R_enter ∈ zzW := ⟨jw_225, jw_226⟩
theorem jv_R_placeOf : Cond.instanceMethod jy_R_placeOf ∈ zzW ∧ Cond.selects "StreamIds$Row" jy_R_placeOf jy_R_placeOf ∈ zzW := ⟨jw_230, jws_2⟩
theorem jv_E_compareWith : Cond.instanceMethod jy_E_compareWith ∈ zzW ∧ Cond.selects "StreamIds$Entry" jy_E_compareWith jy_E_compareWith ∈ zzW := ⟨jw_233, jw_234⟩
theorem jv_T_compareWith : Cond.instanceMethod jy_T_compareWith ∈ zzW ∧ Cond.selects "StreamIds$Text" jy_T_compareWith jy_T_compareWith ∈ zzW := ⟨jw_237, jw_238⟩
theorem js_A_min : Cond.static jy_A_min ∈ zzW := jw_241
theorem jv_R_isAt : Cond.instanceMethod jy_R_isAt ∈ zzW ∧ Cond.selects "StreamIds$Row" jy_R_isAt jy_R_isAt ∈ zzW := ⟨jw_245, jws_3⟩
theorem jv_E_become : Cond.instanceMethod jy_E_become ∈ zzW ∧ Cond.selects "StreamIds$Entry" jy_E_become jy_E_become ∈ zzW := ⟨jw_248, jw_249⟩
theorem jv_S_member : Cond.instanceMethod jy_S_member ∈ zzW ∧ Cond.selects "StreamIds" jy_S_member jy_S_member ∈ zzW := ⟨jw_253, jw_254⟩
theorem js_S_isMemberKind : Cond.static jy_S_isMemberKind ∈ zzW := jw_257
theorem jv_S_isNameFor : Cond.instanceMethod jy_S_isNameFor ∈ zzW ∧ Cond.selects "StreamIds" jy_S_isNameFor jy_S_isNameFor ∈ zzW := ⟨jw_261, jws_4⟩
theorem jv_S_isShapeFor : Cond.instanceMethod jy_S_isShapeFor ∈ zzW ∧ Cond.selects "StreamIds" jy_S_isShapeFor jy_S_isShapeFor ∈ zzW := ⟨jw_265, jws_5⟩
theorem js_H_isType : Cond.static jy_H_isType ∈ zzW := jw_268
theorem js_H_endOfType : Cond.static jy_H_endOfType ∈ zzW := jw_271
theorem jv_T_at : Cond.instanceMethod jy_T_at ∈ zzW ∧ Cond.selects "StreamIds$Text" jy_T_at jy_T_at ∈ zzW := ⟨jw_274, jw_275⟩
theorem js_H_endOfName : Cond.static jy_H_endOfName ∈ zzW := jw_278
theorem js_H_mayStandInName : Cond.static jy_H_mayStandInName ∈ zzW := jw_281
theorem js_H_isSimple : Cond.static jy_H_isSimple ∈ zzW := jw_284
theorem js_H_isMethod : Cond.static jy_H_isMethod ∈ zzW := jw_287
theorem js_H_endOfTypes : Cond.static jy_H_endOfTypes ∈ zzW := jw_290
theorem jv_S_remove : Cond.instanceMethod jy_S_remove ∈ zzW ∧ Cond.selects "StreamIds" jy_S_remove jy_S_remove ∈ zzW := ⟨jw_294, jw_295⟩
theorem jv_R_takeOut : Cond.instanceMethod jy_R_takeOut ∈ zzW ∧ Cond.selects "StreamIds$Row" jy_R_takeOut jy_R_takeOut ∈ zzW := ⟨jw_298, jw_299⟩
theorem jv_S_declare : Cond.instanceMethod jy_S_declare ∈ zzW ∧ Cond.selects "StreamIds" jy_S_declare jy_S_declare ∈ zzW := ⟨jw_302, jw_303⟩
theorem jv_S_id : Cond.instanceMethod jy_S_id ∈ zzW ∧ Cond.selects "StreamIds" jy_S_id jy_S_id ∈ zzW := ⟨jw_306, jw_307⟩
theorem jv_L_write : Cond.instanceMethod jy_L_write ∈ zzW ∧ Cond.selects "StreamIds$Layout" jy_L_write jy_L_write ∈ zzW := ⟨jw_311, jw_312⟩
theorem jv_L_putText : Cond.instanceMethod jy_L_putText ∈ zzW ∧ Cond.selects "StreamIds$Layout" jy_L_putText jy_L_putText ∈ zzW := ⟨jw_316, jws_6⟩
theorem jv_L_putLength : Cond.instanceMethod jy_L_putLength ∈ zzW ∧ Cond.selects "StreamIds$Layout" jy_L_putLength jy_L_putLength ∈ zzW := ⟨jw_320, jws_7⟩
theorem jv_L_put : Cond.instanceMethod jy_L_put ∈ zzW ∧ Cond.selects "StreamIds$Layout" jy_L_put jy_L_put ∈ zzW := ⟨jw_324, jws_8⟩
theorem jv_D_hashedModifiers : Cond.instanceMethod jy_D_hashedModifiers ∈ zzW ∧ Cond.selects "StreamIds$Declaration" jy_D_hashedModifiers jy_D_hashedModifiers ∈ zzW := ⟨jw_328, jw_329⟩
theorem jv_R_tally : Cond.instanceMethod jy_R_tally ∈ zzW ∧ Cond.selects "StreamIds$Row" jy_R_tally jy_R_tally ∈ zzW := ⟨jw_332, jw_333⟩
theorem jv_L_putNumber : Cond.instanceMethod jy_L_putNumber ∈ zzW ∧ Cond.selects "StreamIds$Layout" jy_L_putNumber jy_L_putNumber ∈ zzW := ⟨jw_337, jws_9⟩
theorem jv_L_putAll : Cond.instanceMethod jy_L_putAll ∈ zzW ∧ Cond.selects "StreamIds$Layout" jy_L_putAll jy_L_putAll ∈ zzW := ⟨jw_341, jws_10⟩
theorem jv_E_isHashed : Cond.instanceMethod jy_E_isHashed ∈ zzW ∧ Cond.selects "StreamIds$Entry" jy_E_isHashed jy_E_isHashed ∈ zzW := ⟨jw_344, jw_345⟩
theorem jv_E_has : Cond.instanceMethod jy_E_has ∈ zzW ∧ Cond.selects "StreamIds$Entry" jy_E_has jy_E_has ∈ zzW := ⟨jw_348, jw_349⟩
theorem jv_L_putEntry : Cond.instanceMethod jy_L_putEntry ∈ zzW ∧ Cond.selects "StreamIds$Layout" jy_L_putEntry jy_L_putEntry ∈ zzW := ⟨jw_353, jws_11⟩
theorem jv_L_putConstant : Cond.instanceMethod jy_L_putConstant ∈ zzW ∧ Cond.selects "StreamIds$Layout" jy_L_putConstant jy_L_putConstant ∈ zzW := ⟨jw_358, jws_12⟩
theorem jv_JS_length : Cond.instanceMethod jy_JS_length ∈ zzW ∧ Cond.selects "java/lang/String" jy_JS_length jy_JS_length ∈ zzW := ⟨jw_361, jw_362⟩
theorem jv_JS_coder : Cond.instanceMethod jy_JS_coder ∈ zzW ∧ Cond.selects "java/lang/String" jy_JS_coder jy_JS_coder ∈ zzW := ⟨jw_365, jw_366⟩
theorem jv_JS_charAt : Cond.instanceMethod jy_JS_charAt ∈ zzW ∧ Cond.selects "java/lang/String" jy_JS_charAt jy_JS_charAt ∈ zzW := ⟨jw_371, jw_372⟩
theorem jv_JS_isLatin1 : Cond.instanceMethod jy_JS_isLatin1 ∈ zzW ∧ Cond.selects "java/lang/String" jy_JS_isLatin1 jy_JS_isLatin1 ∈ zzW := ⟨jw_375, jw_376⟩
theorem js_JL_charAt : Cond.static jy_JL_charAt ∈ zzW := jw_379
theorem js_JS_checkIndex : Cond.static jy_JS_checkIndex ∈ zzW := jw_382
theorem js_JP_checkIndex : Cond.static jy_JP_checkIndex ∈ zzW := jw_387
theorem js_JU_charAt : Cond.static jy_JU_charAt ∈ zzW := jw_390
theorem js_JU_checkIndex : Cond.static jy_JU_checkIndex ∈ zzW := jw_393
theorem js_JU_length : Cond.static jy_JU_length ∈ zzW := jw_396
theorem js_JU_getChar : Cond.static jy_JU_getChar ∈ zzW := jw_400
theorem jv_L_putDotted : Cond.instanceMethod jy_L_putDotted ∈ zzW ∧ Cond.selects "StreamIds$Layout" jy_L_putDotted jy_L_putDotted ∈ zzW := ⟨jw_412, jws_13⟩
theorem jv_G_take : Cond.instanceMethod jy_G_take ∈ zzW ∧ Cond.selects "StreamIds$Digest" jy_G_take jy_G_take ∈ zzW := ⟨jw_415, jw_416⟩
theorem jv_G_fillWords : Cond.instanceMethod jy_G_fillWords ∈ zzW ∧ Cond.selects "StreamIds$Digest" jy_G_fillWords jy_G_fillWords ∈ zzW := ⟨jw_423, jws_14⟩
theorem js_G_paddedAt : Cond.static jy_G_paddedAt ∈ zzW := jw_426
theorem jv_L_at : Cond.instanceMethod jy_L_at ∈ zzW ∧ Cond.selects "StreamIds$Layout" jy_L_at jy_L_at ∈ zzW := ⟨jw_429, jw_430⟩
theorem js_G_turned : Cond.static jy_G_turned ∈ zzW := jw_433
theorem jv_G_mixWords : Cond.instanceMethod jy_G_mixWords ∈ zzW ∧ Cond.selects "StreamIds$Digest" jy_G_mixWords jy_G_mixWords ∈ zzW := ⟨jw_437, jws_15⟩
theorem js_G_chosen : Cond.static jy_G_chosen ∈ zzW := jw_440
theorem jv_G_firstEightReversed : Cond.instanceMethod jy_G_firstEightReversed ∈ zzW ∧ Cond.selects "StreamIds$Digest" jy_G_firstEightReversed jy_G_firstEightReversed ∈ zzW := ⟨jw_445, jw_446⟩
theorem js_G_reversed : Cond.static jy_G_reversed ∈ zzW := jw_449
theorem jv_S_hash : Cond.instanceMethod jy_S_hash ∈ zzW ∧ Cond.selects "StreamIds" jy_S_hash jy_S_hash ∈ zzW := ⟨jw_454, jw_455⟩
theorem jv_S_size : Cond.instanceMethod jy_S_size ∈ zzW ∧ Cond.selects "StreamIds" jy_S_size jy_S_size ∈ zzW := ⟨jw_458, jw_459⟩
theorem jv_S_byteAt : Cond.instanceMethod jy_S_byteAt ∈ zzW ∧ Cond.selects "StreamIds" jy_S_byteAt jy_S_byteAt ∈ zzW := ⟨jw_462, jw_463⟩
theorem jv_S_part : Cond.instanceMethod jy_S_part ∈ zzW ∧ Cond.selects "StreamIds" jy_S_part jy_S_part ∈ zzW := ⟨jw_467, jw_468⟩
theorem jv_S_count : Cond.instanceMethod jy_S_count ∈ zzW ∧ Cond.selects "StreamIds" jy_S_count jy_S_count ∈ zzW := ⟨jw_471, jw_472⟩
theorem ji_M_init : (jy_M_init).name = "<init>" ∧ Cond.instanceMethod jy_M_init ∈ zzW := ⟨rfl, jw_478⟩
theorem jv_M_type : Cond.instanceMethod jy_M_type ∈ zzW ∧ Cond.selects "StreamIdsModel" jy_M_type jy_M_type ∈ zzW := ⟨jw_536, jw_537⟩
theorem jv_M_out : Cond.instanceMethod jy_M_out ∈ zzW ∧ Cond.selects "StreamIdsModel" jy_M_out jy_M_out ∈ zzW := ⟨jw_541, jws_16⟩
theorem jv_M_clear : Cond.instanceMethod jy_M_clear ∈ zzW ∧ Cond.selects "StreamIdsModel" jy_M_clear jy_M_clear ∈ zzW := ⟨jw_544, jw_545⟩
theorem jv_M_define : Cond.instanceMethod jy_M_define ∈ zzW ∧ Cond.selects "StreamIdsModel" jy_M_define jy_M_define ∈ zzW := ⟨jw_548, jw_549⟩
theorem jv_M_copy : Cond.instanceMethod jy_M_copy ∈ zzW ∧ Cond.selects "StreamIdsModel" jy_M_copy jy_M_copy ∈ zzW := ⟨jw_554, jws_17⟩
theorem jv_M_face : Cond.instanceMethod jy_M_face ∈ zzW ∧ Cond.selects "StreamIdsModel" jy_M_face jy_M_face ∈ zzW := ⟨jw_557, jw_558⟩
theorem jv_M_none : Cond.instanceMethod jy_M_none ∈ zzW ∧ Cond.selects "StreamIdsModel" jy_M_none jy_M_none ∈ zzW := ⟨jw_562, jws_18⟩
theorem jv_M_compare : Cond.instanceMethod jy_M_compare ∈ zzW ∧ Cond.selects "StreamIdsModel" jy_M_compare jy_M_compare ∈ zzW := ⟨jw_566, jws_19⟩
theorem jv_M_member : Cond.instanceMethod jy_M_member ∈ zzW ∧ Cond.selects "StreamIdsModel" jy_M_member jy_M_member ∈ zzW := ⟨jw_569, jw_570⟩
theorem jv_M_goodShape : Cond.instanceMethod jy_M_goodShape ∈ zzW ∧ Cond.selects "StreamIdsModel" jy_M_goodShape jy_M_goodShape ∈ zzW := ⟨jw_574, jws_20⟩
theorem jv_M_passType : Cond.instanceMethod jy_M_passType ∈ zzW ∧ Cond.selects "StreamIdsModel" jy_M_passType jy_M_passType ∈ zzW := ⟨jw_578, jws_21⟩
theorem jv_M_signAt : Cond.instanceMethod jy_M_signAt ∈ zzW ∧ Cond.selects "StreamIdsModel" jy_M_signAt jy_M_signAt ∈ zzW := ⟨jw_582, jws_22⟩
theorem jv_M_find : Cond.instanceMethod jy_M_find ∈ zzW ∧ Cond.selects "StreamIdsModel" jy_M_find jy_M_find ∈ zzW := ⟨jw_586, jws_23⟩
theorem jv_M_remove : Cond.instanceMethod jy_M_remove ∈ zzW ∧ Cond.selects "StreamIdsModel" jy_M_remove jy_M_remove ∈ zzW := ⟨jw_589, jw_590⟩
theorem jv_M_declare : Cond.instanceMethod jy_M_declare ∈ zzW ∧ Cond.selects "StreamIdsModel" jy_M_declare jy_M_declare ∈ zzW := ⟨jw_593, jw_594⟩
theorem jv_M_id : Cond.instanceMethod jy_M_id ∈ zzW ∧ Cond.selects "StreamIdsModel" jy_M_id jy_M_id ∈ zzW := ⟨jw_597, jw_598⟩
theorem jv_M_digest : Cond.instanceMethod jy_M_digest ∈ zzW ∧ Cond.selects "StreamIdsModel" jy_M_digest jy_M_digest ∈ zzW := ⟨jw_603, jws_24⟩
theorem jv_M_build : Cond.instanceMethod jy_M_build ∈ zzW ∧ Cond.selects "StreamIdsModel" jy_M_build jy_M_build ∈ zzW := ⟨jw_607, jws_25⟩
theorem jv_M_utf : Cond.instanceMethod jy_M_utf ∈ zzW ∧ Cond.selects "StreamIdsModel" jy_M_utf jy_M_utf ∈ zzW := ⟨jw_611, jws_26⟩
theorem jv_M_put : Cond.instanceMethod jy_M_put ∈ zzW ∧ Cond.selects "StreamIdsModel" jy_M_put jy_M_put ∈ zzW := ⟨jw_615, jws_27⟩
theorem jv_M_counted : Cond.instanceMethod jy_M_counted ∈ zzW ∧ Cond.selects "StreamIdsModel" jy_M_counted jy_M_counted ∈ zzW := ⟨jw_619, jws_28⟩
theorem jv_M_number : Cond.instanceMethod jy_M_number ∈ zzW ∧ Cond.selects "StreamIdsModel" jy_M_number jy_M_number ∈ zzW := ⟨jw_623, jws_29⟩
theorem jv_M_nextFace : Cond.instanceMethod jy_M_nextFace ∈ zzW ∧ Cond.selects "StreamIdsModel" jy_M_nextFace jy_M_nextFace ∈ zzW := ⟨jw_627, jws_30⟩
theorem jv_M_writeMembers : Cond.instanceMethod jy_M_writeMembers ∈ zzW ∧ Cond.selects "StreamIdsModel" jy_M_writeMembers jy_M_writeMembers ∈ zzW := ⟨jw_631, jws_31⟩
theorem jv_M_following : Cond.instanceMethod jy_M_following ∈ zzW ∧ Cond.selects "StreamIdsModel" jy_M_following jy_M_following ∈ zzW := ⟨jw_635, jws_32⟩
theorem jv_M_orderOf : Cond.instanceMethod jy_M_orderOf ∈ zzW ∧ Cond.selects "StreamIdsModel" jy_M_orderOf jy_M_orderOf ∈ zzW := ⟨jw_639, jws_33⟩
theorem jv_M_initName : Cond.instanceMethod jy_M_initName ∈ zzW ∧ Cond.selects "StreamIdsModel" jy_M_initName jy_M_initName ∈ zzW := ⟨jw_643, jws_34⟩
theorem jv_M_block : Cond.instanceMethod jy_M_block ∈ zzW ∧ Cond.selects "StreamIdsModel" jy_M_block jy_M_block ∈ zzW := ⟨jw_652, jws_35⟩
theorem jv_M_turned : Cond.instanceMethod jy_M_turned ∈ zzW ∧ Cond.selects "StreamIdsModel" jy_M_turned jy_M_turned ∈ zzW := ⟨jw_656, jws_36⟩
theorem jv_M_mixed : Cond.instanceMethod jy_M_mixed ∈ zzW ∧ Cond.selects "StreamIdsModel" jy_M_mixed jy_M_mixed ∈ zzW := ⟨jw_660, jws_37⟩
theorem jv_M_constant : Cond.instanceMethod jy_M_constant ∈ zzW ∧ Cond.selects "StreamIdsModel" jy_M_constant jy_M_constant ∈ zzW := ⟨jw_664, jws_38⟩
theorem jv_M_hash : Cond.instanceMethod jy_M_hash ∈ zzW ∧ Cond.selects "StreamIdsModel" jy_M_hash jy_M_hash ∈ zzW := ⟨jw_671, jw_672⟩
theorem jv_M_size : Cond.instanceMethod jy_M_size ∈ zzW ∧ Cond.selects "StreamIdsModel" jy_M_size jy_M_size ∈ zzW := ⟨jw_675, jw_676⟩
theorem jv_M_byteAt : Cond.instanceMethod jy_M_byteAt ∈ zzW ∧ Cond.selects "StreamIdsModel" jy_M_byteAt jy_M_byteAt ∈ zzW := ⟨jw_679, jw_680⟩
theorem jv_M_part : Cond.instanceMethod jy_M_part ∈ zzW ∧ Cond.selects "StreamIdsModel" jy_M_part jy_M_part ∈ zzW := ⟨jw_683, jw_684⟩
theorem jv_M_count : Cond.instanceMethod jy_M_count ∈ zzW ∧ Cond.selects "StreamIdsModel" jy_M_count jy_M_count ∈ zzW := ⟨jw_687, jw_688⟩
theorem jnw_W_7 : zNw "StreamIdsLaw" 7 0 5 [.null, .null, .null, .null, .null] := ⟨"StreamIds", jT_S, jt_S, rfl, ju_S, jt_S_ok, jw_16, jw_17, jw_1, by decide +kernel⟩
theorem jnw_S_9 : zNw "StreamIds" 9 1 2 [.null, .int 0] := ⟨"StreamIds$Text", jT_T, jt_T, rfl, ju_T, jt_T_ok, jw_24, jw_25, jw_2, by decide +kernel⟩
theorem jnw_S_19 : zNw "StreamIds" 19 4 7 [.int 0, .null, .int 0, .null, .null, .int 0, .long 0] := ⟨"StreamIds$Declaration", jT_D, jt_D, rfl, ju_D, jt_D_ok, jw_41, jw_77, jw_5, by decide +kernel⟩
theorem jnw_S_25 : zNw "StreamIds" 25 2 3 [.null, .int 0, .null] := ⟨"StreamIds$Layout", jT_L, jt_L, rfl, ju_L, jt_L_ok, jw_43, jw_44, jw_3, by decide +kernel⟩
theorem jnw_S_32 : zNw "StreamIds" 32 3 2 [.null, .null] := ⟨"StreamIds$Digest", jT_G, jt_G, rfl, ju_G, jt_G_ok, jw_63, jw_64, jw_4, by decide +kernel⟩
theorem jnw_D_15 : zNw "StreamIds$Declaration" 15 1 2 [.null, .int 0] := ⟨"StreamIds$Text", jT_T, jt_T, rfl, ju_T, jt_T_ok, jw_82, jw_25, jw_2, by decide +kernel⟩
theorem jnw_D_26 : zNw "StreamIds$Declaration" 26 5 2 [.null, .int 0] := ⟨"StreamIds$Row", jT_R, jt_R, rfl, ju_R, jt_R_ok, jw_84, jw_85, jw_6, by decide +kernel⟩
theorem jnw_R_15 : zNw "StreamIds$Row" 15 6 4 [.int 0, .int 0, .null, .null] := ⟨"StreamIds$Entry", jT_E, jt_E, rfl, ju_E, jt_E_ok, jw_90, jw_92, jw_7, by decide +kernel⟩
theorem jnw_E_18 : zNw "StreamIds$Entry" 18 1 2 [.null, .int 0] := ⟨"StreamIds$Text", jT_T, jt_T, rfl, ju_T, jt_T_ok, jw_97, jw_25, jw_2, by decide +kernel⟩
theorem jnw_W_10 : zNw "StreamIdsLaw" 10 7 17 [.null, .null, .null, .null, .null, .null, .null, .null, .null, .null, .null, .int 0, .null, .null, .null, .int 0, .int 0] := ⟨"StreamIdsModel", jT_M, jt_M, rfl, ju_M, jt_M_ok, jw_475, jw_476, jw_8, by decide +kernel⟩
