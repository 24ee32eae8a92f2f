theorem ml_RL_9 : ML RL 9 yX9_init := Or.inl (TT_of (List.mem_of_getElem? (i := 113) (by decide +kernel)) rfl)
theorem ml_RL_12 : ML RL 12 yX10_init := Or.inl (TT_of (List.mem_of_getElem? (i := 818) (by decide +kernel)) rfl)
theorem ml_RL_13 : ML RL 13 yX9_points := Or.inl (TT_of (List.mem_of_getElem? (i := 357) (by decide +kernel)) rfl)
theorem ml_RL_17 : ML RL 17 yX10_points := Or.inl (TT_of (List.mem_of_getElem? (i := 919) (by decide +kernel)) rfl)
theorem ml_RL_18 : ML RL 18 yX9_put := Or.inl (TT_of (List.mem_of_getElem? (i := 373) (by decide +kernel)) rfl)
theorem ml_RL_22 : ML RL 22 yX10_put := Or.inl (TT_of (List.mem_of_getElem? (i := 928) (by decide +kernel)) rfl)
theorem ml_RL_23 : ML RL 23 yX9_at := Or.inl (TT_of (List.mem_of_getElem? (i := 418) (by decide +kernel)) rfl)
theorem ml_RL_27 : ML RL 27 yX10_at := Or.inl (TT_of (List.mem_of_getElem? (i := 956) (by decide +kernel)) rfl)
theorem ml_RL_28 : ML RL 28 yX9_cut := Or.inl (TT_of (List.mem_of_getElem? (i := 422) (by decide +kernel)) rfl)
theorem ml_RL_31 : ML RL 31 yX10_cut := Or.inl (TT_of (List.mem_of_getElem? (i := 960) (by decide +kernel)) rfl)
theorem ml_RL_32 : ML RL 32 yX9_paths := Or.inl (TT_of (List.mem_of_getElem? (i := 451) (by decide +kernel)) rfl)
theorem ml_RL_36 : ML RL 36 yX10_paths := Or.inl (TT_of (List.mem_of_getElem? (i := 984) (by decide +kernel)) rfl)
theorem ml_RL_37 : ML RL 37 yX9_place := Or.inl (TT_of (List.mem_of_getElem? (i := 461) (by decide +kernel)) rfl)
theorem ml_RL_40 : ML RL 40 yX10_place := Or.inl (TT_of (List.mem_of_getElem? (i := 988) (by decide +kernel)) rfl)
theorem ml_RL_41 : ML RL 41 yX9_town := Or.inl (TT_of (List.mem_of_getElem? (i := 469) (by decide +kernel)) rfl)
theorem ml_RL_44 : ML RL 44 yX10_town := Or.inl (TT_of (List.mem_of_getElem? (i := 992) (by decide +kernel)) rfl)
theorem ml_RL_45 : ML RL 45 yX9_stretch := Or.inl (TT_of (List.mem_of_getElem? (i := 480) (by decide +kernel)) rfl)
theorem ml_RL_48 : ML RL 48 yX10_stretch := Or.inl (TT_of (List.mem_of_getElem? (i := 999) (by decide +kernel)) rfl)
theorem ml_RL_49 : ML RL 49 yX9_back := Or.inl (TT_of (List.mem_of_getElem? (i := 484) (by decide +kernel)) rfl)
theorem ml_RL_52 : ML RL 52 yX10_back := Or.inl (TT_of (List.mem_of_getElem? (i := 1003) (by decide +kernel)) rfl)
theorem ml_RL_53 : ML RL 53 yX9_triangles := Or.inl (TT_of (List.mem_of_getElem? (i := 492) (by decide +kernel)) rfl)
theorem ml_RL_56 : ML RL 56 yX10_triangles := Or.inl (TT_of (List.mem_of_getElem? (i := 1011) (by decide +kernel)) rfl)
theorem ml_RL_57 : ML RL 57 yX9_rounds := Or.inl (TT_of (List.mem_of_getElem? (i := 503) (by decide +kernel)) rfl)
theorem ml_RL_60 : ML RL 60 yX10_rounds := Or.inl (TT_of (List.mem_of_getElem? (i := 1015) (by decide +kernel)) rfl)
theorem ml_RL_61 : ML RL 61 yX9_walls := Or.inl (TT_of (List.mem_of_getElem? (i := 511) (by decide +kernel)) rfl)
theorem ml_RL_64 : ML RL 64 yX10_walls := Or.inl (TT_of (List.mem_of_getElem? (i := 1019) (by decide +kernel)) rfl)
theorem ml_RL_65 : ML RL 65 yX9_wall := Or.inl (TT_of (List.mem_of_getElem? (i := 552) (by decide +kernel)) rfl)
theorem ml_RL_68 : ML RL 68 yX10_wall := Or.inl (TT_of (List.mem_of_getElem? (i := 1042) (by decide +kernel)) rfl)
theorem ml_RL_69 : ML RL 69 yX9_holdWall := Or.inl (TT_of (List.mem_of_getElem? (i := 561) (by decide +kernel)) rfl)
theorem ml_RL_72 : ML RL 72 yX10_holdWall := Or.inl (TT_of (List.mem_of_getElem? (i := 1050) (by decide +kernel)) rfl)
theorem ml_RL_73 : ML RL 73 yX9_wallOf := Or.inl (TT_of (List.mem_of_getElem? (i := 580) (by decide +kernel)) rfl)
theorem ml_RL_76 : ML RL 76 yX10_wallOf := Or.inl (TT_of (List.mem_of_getElem? (i := 1067) (by decide +kernel)) rfl)
theorem ml_RL_77 : ML RL 77 yX9_value := Or.inl (TT_of (List.mem_of_getElem? (i := 592) (by decide +kernel)) rfl)
theorem ml_RL_81 : ML RL 81 yX10_value := Or.inl (TT_of (List.mem_of_getElem? (i := 1071) (by decide +kernel)) rfl)
theorem ml_RL_82 : ML RL 82 yX9_roots := Or.inl (TT_of (List.mem_of_getElem? (i := 601) (by decide +kernel)) rfl)
theorem ml_RL_85 : ML RL 85 yX10_roots := Or.inl (TT_of (List.mem_of_getElem? (i := 1080) (by decide +kernel)) rfl)
theorem ml_RL_86 : ML RL 86 yX9_root := Or.inl (TT_of (List.mem_of_getElem? (i := 638) (by decide +kernel)) rfl)
theorem ml_RL_89 : ML RL 89 yX10_root := Or.inl (TT_of (List.mem_of_getElem? (i := 1103) (by decide +kernel)) rfl)
theorem ml_RL_90 : ML RL 90 yX9_switched := Or.inl (TT_of (List.mem_of_getElem? (i := 642) (by decide +kernel)) rfl)
theorem ml_RL_93 : ML RL 93 yX10_switched := Or.inl (TT_of (List.mem_of_getElem? (i := 1107) (by decide +kernel)) rfl)
theorem ml_RL_94 : ML RL 94 yX9_sum := Or.inl (TT_of (List.mem_of_getElem? (i := 650) (by decide +kernel)) rfl)
theorem ml_RL_97 : ML RL 97 yX10_sum := Or.inl (TT_of (List.mem_of_getElem? (i := 1111) (by decide +kernel)) rfl)
theorem ml_RL_98 : ML RL 98 yX9_gauge := Or.inl (TT_of (List.mem_of_getElem? (i := 687) (by decide +kernel)) rfl)
theorem ml_RL_102 : ML RL 102 yX10_gauge := Or.inl (TT_of (List.mem_of_getElem? (i := 1134) (by decide +kernel)) rfl)
theorem ml_RL_103 : ML RL 103 yX9_feed := Or.inl (TT_of (List.mem_of_getElem? (i := 708) (by decide +kernel)) rfl)
theorem ml_RL_106 : ML RL 106 yX10_feed := Or.inl (TT_of (List.mem_of_getElem? (i := 1141) (by decide +kernel)) rfl)
theorem ml_RL_107 : ML RL 107 yX9_wipe := Or.inl (TT_of (List.mem_of_getElem? (i := 716) (by decide +kernel)) rfl)
theorem ml_RL_110 : ML RL 110 yX10_wipe := Or.inl (TT_of (List.mem_of_getElem? (i := 1145) (by decide +kernel)) rfl)
theorem ml_RL_111 : ML RL 111 yX9_read := Or.inl (TT_of (List.mem_of_getElem? (i := 720) (by decide +kernel)) rfl)
theorem ml_RL_114 : ML RL 114 yX10_read := Or.inl (TT_of (List.mem_of_getElem? (i := 1149) (by decide +kernel)) rfl)
theorem ml_RL_115 : ML RL 115 yX9_spell := Or.inl (TT_of (List.mem_of_getElem? (i := 742) (by decide +kernel)) rfl)
theorem ml_RL_118 : ML RL 118 yX10_spell := Or.inl (TT_of (List.mem_of_getElem? (i := 1169) (by decide +kernel)) rfl)
theorem ml_RL_119 : ML RL 119 yX9_hold := Or.inl (TT_of (List.mem_of_getElem? (i := 759) (by decide +kernel)) rfl)
theorem ml_RL_122 : ML RL 122 yX10_hold := Or.inl (TT_of (List.mem_of_getElem? (i := 1181) (by decide +kernel)) rfl)
theorem ml_RL_123 : ML RL 123 yX9_lose := Or.inl (TT_of (List.mem_of_getElem? (i := 763) (by decide +kernel)) rfl)
theorem ml_RL_126 : ML RL 126 yX10_lose := Or.inl (TT_of (List.mem_of_getElem? (i := 1185) (by decide +kernel)) rfl)
theorem ml_RL_127 : ML RL 127 yX9_taken := Or.inl (TT_of (List.mem_of_getElem? (i := 767) (by decide +kernel)) rfl)
theorem ml_RL_130 : ML RL 130 yX10_taken := Or.inl (TT_of (List.mem_of_getElem? (i := 1189) (by decide +kernel)) rfl)
theorem ml_RL_131 : ML RL 131 yX9_number := Or.inl (TT_of (List.mem_of_getElem? (i := 775) (by decide +kernel)) rfl)
theorem ml_RL_134 : ML RL 134 yX10_number := Or.inl (TT_of (List.mem_of_getElem? (i := 1193) (by decide +kernel)) rfl)
theorem ml_RL_135 : ML RL 135 yX9_row := Or.inl (TT_of (List.mem_of_getElem? (i := 783) (by decide +kernel)) rfl)
theorem ml_RL_138 : ML RL 138 yX10_row := Or.inl (TT_of (List.mem_of_getElem? (i := 1197) (by decide +kernel)) rfl)
theorem ml_RL_139 : ML RL 139 yX9_set := Or.inl (TT_of (List.mem_of_getElem? (i := 791) (by decide +kernel)) rfl)
theorem ml_RL_142 : ML RL 142 yX10_set := Or.inl (TT_of (List.mem_of_getElem? (i := 1201) (by decide +kernel)) rfl)
theorem ml_RL_143 : ML RL 143 yX9_judge := Or.inl (TT_of (List.mem_of_getElem? (i := 795) (by decide +kernel)) rfl)
theorem ml_RL_146 : ML RL 146 yX10_judge := Or.inl (TT_of (List.mem_of_getElem? (i := 1209) (by decide +kernel)) rfl)
theorem ml_RL_147 : ML RL 147 yX9_image := Or.inl (TT_of (List.mem_of_getElem? (i := 799) (by decide +kernel)) rfl)
theorem ml_RL_150 : ML RL 150 yX10_image := Or.inl (TT_of (List.mem_of_getElem? (i := 1213) (by decide +kernel)) rfl)
theorem ml_RL_151 : ML RL 151 yX9_undo := Or.inl (TT_of (List.mem_of_getElem? (i := 808) (by decide +kernel)) rfl)
theorem ml_RL_154 : ML RL 154 yX10_undo := Or.inl (TT_of (List.mem_of_getElem? (i := 1217) (by decide +kernel)) rfl)
theorem ml_RL_155 : ML RL 155 yX9_count := Or.inl (TT_of (List.mem_of_getElem? (i := 812) (by decide +kernel)) rfl)
theorem ml_RL_158 : ML RL 158 yX10_count := Or.inl (TT_of (List.mem_of_getElem? (i := 1221) (by decide +kernel)) rfl)
theorem ml_RX0_24 : ML RX0 24 yX6_init := Or.inr ⟨"CutDistances", NN_of (List.mem_of_getElem? (i := 162) (by decide +kernel)) rfl⟩
theorem ml_RX0_25 : ML RX0 25 yX6_copyFrom := Or.inr ⟨"CutDistances", NN_of (List.mem_of_getElem? (i := 414) (by decide +kernel)) rfl⟩
theorem ml_RX10_77 : ML RX10 77 yX10_in := Or.inl (TT_of (List.mem_of_getElem? (i := 925) (by decide +kernel)) rfl)
theorem ml_RX10_81 : ML RX10 81 yX10_isPoint := Or.inl (TT_of (List.mem_of_getElem? (i := 936) (by decide +kernel)) rfl)
theorem ml_RX10_85 : ML RX10 85 yX10_cuts := Or.inl (TT_of (List.mem_of_getElem? (i := 968) (by decide +kernel)) rfl)
theorem ml_RX10_89 : ML RX10 89 yX10_has := Or.inl (TT_of (List.mem_of_getElem? (i := 977) (by decide +kernel)) rfl)
theorem ml_RX10_96 : ML RX10 96 yX10_copies := Or.inl (TT_of (List.mem_of_getElem? (i := 945) (by decide +kernel)) rfl)
theorem ml_RX10_107 : ML RX10 107 yX10_isTwo := Or.inl (TT_of (List.mem_of_getElem? (i := 932) (by decide +kernel)) rfl)
theorem ml_RX10_112 : ML RX10 112 yX10_ahead := Or.inl (TT_of (List.mem_of_getElem? (i := 941) (by decide +kernel)) rfl)
theorem ml_RX10_115 : ML RX10 115 yX10_is := Or.inl (TT_of (List.mem_of_getElem? (i := 948) (by decide +kernel)) rfl)
theorem ml_RX10_119 : ML RX10 119 yX10_done := Or.inl (TT_of (List.mem_of_getElem? (i := 952) (by decide +kernel)) rfl)
theorem ml_RX10_122 : ML RX10 122 yX10_isCut := Or.inl (TT_of (List.mem_of_getElem? (i := 964) (by decide +kernel)) rfl)
theorem ml_RX10_129 : ML RX10 129 yX10_separates := Or.inl (TT_of (List.mem_of_getElem? (i := 974) (by decide +kernel)) rfl)
theorem ml_RX10_133 : ML RX10 133 yX10_all := Or.inl (TT_of (List.mem_of_getElem? (i := 980) (by decide +kernel)) rfl)
theorem ml_RX10_136 : ML RX10 136 yX10_off := Or.inl (TT_of (List.mem_of_getElem? (i := 996) (by decide +kernel)) rfl)
theorem ml_RX10_140 : ML RX10 140 yX10_becomes := Or.inl (TT_of (List.mem_of_getElem? (i := 1007) (by decide +kernel)) rfl)
theorem ml_RX10_155 : ML RX10 155 yX10_begins := Or.inl (TT_of (List.mem_of_getElem? (i := 1025) (by decide +kernel)) rfl)
theorem ml_RX10_158 : ML RX10 158 yX10_isWall := Or.inl (TT_of (List.mem_of_getElem? (i := 1029) (by decide +kernel)) rfl)
theorem ml_RX10_161 : ML RX10 161 yX10_valueNow := Or.inl (TT_of (List.mem_of_getElem? (i := 1034) (by decide +kernel)) rfl)
theorem ml_RX10_164 : ML RX10 164 yX10_goesOn := Or.inl (TT_of (List.mem_of_getElem? (i := 1038) (by decide +kernel)) rfl)
theorem ml_RX10_167 : ML RX10 167 yX10_finds := Or.inl (TT_of (List.mem_of_getElem? (i := 1046) (by decide +kernel)) rfl)
theorem ml_RX10_172 : ML RX10 172 yX10_widthNow := Or.inl (TT_of (List.mem_of_getElem? (i := 1062) (by decide +kernel)) rfl)
theorem ml_RX10_176 : ML RX10 176 yX10_isHolder := Or.inl (TT_of (List.mem_of_getElem? (i := 1054) (by decide +kernel)) rfl)
theorem ml_RX10_179 : ML RX10 179 yX10_holdsWall := Or.inl (TT_of (List.mem_of_getElem? (i := 1058) (by decide +kernel)) rfl)
theorem ml_RX10_182 : ML RX10 182 yX10_bar := Or.inl (TT_of (List.mem_of_getElem? (i := 1075) (by decide +kernel)) rfl)
theorem ml_RX10_187 : ML RX10 187 yX10_pairsOf := Or.inl (TT_of (List.mem_of_getElem? (i := 1096) (by decide +kernel)) rfl)
theorem ml_RX10_190 : ML RX10 190 yX10_exchanges := Or.inl (TT_of (List.mem_of_getElem? (i := 1099) (by decide +kernel)) rfl)
theorem ml_RX10_194 : ML RX10 194 yX10_isRoot := Or.inl (TT_of (List.mem_of_getElem? (i := 1084) (by decide +kernel)) rfl)
theorem ml_RX10_197 : ML RX10 197 yX10_lays := Or.inl (TT_of (List.mem_of_getElem? (i := 1088) (by decide +kernel)) rfl)
theorem ml_RX10_200 : ML RX10 200 yX10_rank := Or.inl (TT_of (List.mem_of_getElem? (i := 1092) (by decide +kernel)) rfl)
theorem ml_RX10_206 : ML RX10 206 yX10_isNothing := Or.inl (TT_of (List.mem_of_getElem? (i := 1121) (by decide +kernel)) rfl)
theorem ml_RX10_210 : ML RX10 210 yX10_leastLeft := Or.inl (TT_of (List.mem_of_getElem? (i := 1125) (by decide +kernel)) rfl)
theorem ml_RX10_223 : ML RX10 223 yX10_lessens := Or.inl (TT_of (List.mem_of_getElem? (i := 1130) (by decide +kernel)) rfl)
theorem ml_RX10_226 : ML RX10 226 yX10_seeks := Or.inl (TT_of (List.mem_of_getElem? (i := 1117) (by decide +kernel)) rfl)
theorem ml_RX10_245 : ML RX10 245 yX10_here := Or.inl (TT_of (List.mem_of_getElem? (i := 1153) (by decide +kernel)) rfl)
theorem ml_RX10_256 : ML RX10 256 yX10_must := Or.inl (TT_of (List.mem_of_getElem? (i := 1159) (by decide +kernel)) rfl)
theorem ml_RX10_259 : ML RX10 259 yX10_figures := Or.inl (TT_of (List.mem_of_getElem? (i := 1163) (by decide +kernel)) rfl)
theorem ml_RX10_265 : ML RX10 265 yX10_spells := Or.inl (TT_of (List.mem_of_getElem? (i := 1173) (by decide +kernel)) rfl)
theorem ml_RX10_268 : ML RX10 268 yX10_spellsNumber := Or.inl (TT_of (List.mem_of_getElem? (i := 1177) (by decide +kernel)) rfl)
theorem ml_RX10_271 : ML RX10 271 yX10_noRow := Or.inl (TT_of (List.mem_of_getElem? (i := 1205) (by decide +kernel)) rfl)
theorem ml_RX3_37 : ML RX3 37 yX3_clearColumn := Or.inl (TT_of (List.mem_of_getElem? (i := 630) (by decide +kernel)) rfl)
theorem ml_RX3_43 : ML RX3 43 yJ9_floorMod_f86c9 := Or.inl (TT_of (List.mem_of_getElem? (i := 635) (by decide +kernel)) rfl)
theorem ml_RX4_24 : ML RX4 24 yX4_append := Or.inl (TT_of (List.mem_of_getElem? (i := 750) (by decide +kernel)) rfl)
theorem ml_RX4_28 : ML RX4 28 yX6_between := Or.inr ⟨"CutDistances", NN_of (List.mem_of_getElem? (i := 754) (by decide +kernel)) rfl⟩
theorem ml_RX4_32 : ML RX4 32 yX4_writeFigures := Or.inl (TT_of (List.mem_of_getElem? (i := 755) (by decide +kernel)) rfl)
theorem ml_RX5_28 : ML RX5 28 yX5_start := Or.inl (TT_of (List.mem_of_getElem? (i := 658) (by decide +kernel)) rfl)
theorem ml_RX5_32 : ML RX5 32 yX5_leastLeft := Or.inl (TT_of (List.mem_of_getElem? (i := 666) (by decide +kernel)) rfl)
theorem ml_RX5_36 : ML RX5 36 yX5_giveNumber := Or.inl (TT_of (List.mem_of_getElem? (i := 671) (by decide +kernel)) rfl)
theorem ml_RX5_40 : ML RX5 40 yX5_nothingLeft := Or.inl (TT_of (List.mem_of_getElem? (i := 675) (by decide +kernel)) rfl)
theorem ml_RX5_44 : ML RX5 44 yX5_latestAbove0 := Or.inl (TT_of (List.mem_of_getElem? (i := 679) (by decide +kernel)) rfl)
theorem ml_RX5_48 : ML RX5 48 yX6_pairCount := Or.inr ⟨"CutDistances", NN_of (List.mem_of_getElem? (i := 662) (by decide +kernel)) rfl⟩
theorem ml_RX5_62 : ML RX5 62 yX6_lastCut := Or.inr ⟨"CutDistances", NN_of (List.mem_of_getElem? (i := 664) (by decide +kernel)) rfl⟩
theorem ml_RX5_64 : ML RX5 64 yX6_pairsApart := Or.inr ⟨"CutDistances", NN_of (List.mem_of_getElem? (i := 665) (by decide +kernel)) rfl⟩
theorem ml_RX6_19 : ML RX6 19 yX6_lastCut := Or.inl (TT_of (List.mem_of_getElem? (i := 430) (by decide +kernel)) rfl)
theorem ml_RX6_23 : ML RX6 23 yX6_hasPair := Or.inl (TT_of (List.mem_of_getElem? (i := 385) (by decide +kernel)) rfl)
theorem ml_RX6_27 : ML RX6 27 yX6_pairOf := Or.inl (TT_of (List.mem_of_getElem? (i := 386) (by decide +kernel)) rfl)
theorem ml_RX6_31 : ML RX6 31 yX6_pairCount := Or.inl (TT_of (List.mem_of_getElem? (i := 406) (by decide +kernel)) rfl)
theorem ml_RX6_34 : ML RX6 34 yX6_between := Or.inl (TT_of (List.mem_of_getElem? (i := 459) (by decide +kernel)) rfl)
theorem ml_RX7_22 : ML RX7 22 yX7_figureAt := Or.inl (TT_of (List.mem_of_getElem? (i := 728) (by decide +kernel)) rfl)
theorem ml_RX7_26 : ML RX7 26 yX6_clearTo := Or.inr ⟨"CutDistances", NN_of (List.mem_of_getElem? (i := 736) (by decide +kernel)) rfl⟩
theorem ml_RX7_32 : ML RX7 32 yX7_byteAt := Or.inl (TT_of (List.mem_of_getElem? (i := 732) (by decide +kernel)) rfl)
theorem ml_RX7_38 : ML RX7 38 yX6_pairOf := Or.inr ⟨"CutDistances", NN_of (List.mem_of_getElem? (i := 737) (by decide +kernel)) rfl⟩
theorem ml_RX7_42 : ML RX7 42 yX7_takeFigures := Or.inl (TT_of (List.mem_of_getElem? (i := 738) (by decide +kernel)) rfl)
theorem ml_RX8_11 : ML RX8 11 yX6_init := Or.inr ⟨"CutDistances", NN_of (List.mem_of_getElem? (i := 215) (by decide +kernel)) rfl⟩
theorem ml_RX8_44 : ML RX8 44 yX6_copyFrom := Or.inr ⟨"CutDistances", NN_of (List.mem_of_getElem? (i := 522) (by decide +kernel)) rfl⟩
theorem ml_RX8_49 : ML RX8 49 yX8_fillFrom := Or.inl (TT_of (List.mem_of_getElem? (i := 523) (by decide +kernel)) rfl)
theorem ml_RX8_53 : ML RX8 53 yX8_greatestAt := Or.inl (TT_of (List.mem_of_getElem? (i := 547) (by decide +kernel)) rfl)
theorem ml_RX8_57 : ML RX8 57 yX8_carry := Or.inl (TT_of (List.mem_of_getElem? (i := 534) (by decide +kernel)) rfl)
theorem ml_RX8_60 : ML RX8 60 yX8_goOn := Or.inl (TT_of (List.mem_of_getElem? (i := 560) (by decide +kernel)) rfl)
theorem ml_RX8_63 : ML RX8 63 yX8_leastAt := Or.inl (TT_of (List.mem_of_getElem? (i := 527) (by decide +kernel)) rfl)
theorem ml_RX8_75 : ML RX8 75 yX6_between := Or.inr ⟨"CutDistances", NN_of (List.mem_of_getElem? (i := 538) (by decide +kernel)) rfl⟩
theorem ml_RX9_11 : ML RX9 11 yX6_init := Or.inr ⟨"CutDistances", NN_of (List.mem_of_getElem? (i := 121) (by decide +kernel)) rfl⟩
theorem ml_RX9_23 : ML RX9 23 yX2_init := Or.inr ⟨"CutDistances", NN_of (List.mem_of_getElem? (i := 141) (by decide +kernel)) rfl⟩
theorem ml_RX9_30 : ML RX9 30 yX0_init := Or.inr ⟨"CutDistances", NN_of (List.mem_of_getElem? (i := 156) (by decide +kernel)) rfl⟩
theorem ml_RX9_53 : ML RX9 53 yX7_init := Or.inr ⟨"CutDistances", NN_of (List.mem_of_getElem? (i := 178) (by decide +kernel)) rfl⟩
theorem ml_RX9_60 : ML RX9 60 yX4_init := Or.inr ⟨"CutDistances", NN_of (List.mem_of_getElem? (i := 195) (by decide +kernel)) rfl⟩
theorem ml_RX9_67 : ML RX9 67 yX8_init := Or.inr ⟨"CutDistances", NN_of (List.mem_of_getElem? (i := 210) (by decide +kernel)) rfl⟩
theorem ml_RX9_74 : ML RX9 74 yX5_init := Or.inr ⟨"CutDistances", NN_of (List.mem_of_getElem? (i := 247) (by decide +kernel)) rfl⟩
theorem ml_RX9_81 : ML RX9 81 yX3_init := Or.inr ⟨"CutDistances", NN_of (List.mem_of_getElem? (i := 270) (by decide +kernel)) rfl⟩
theorem ml_RX9_86 : ML RX9 86 yX1_init := Or.inr ⟨"CutDistances", NN_of (List.mem_of_getElem? (i := 296) (by decide +kernel)) rfl⟩
theorem ml_RX9_91 : ML RX9 91 yX6_clearTo := Or.inr ⟨"CutDistances", NN_of (List.mem_of_getElem? (i := 361) (by decide +kernel)) rfl⟩
theorem ml_RX9_95 : ML RX9 95 yX2_clearFrom := Or.inr ⟨"CutDistances", NN_of (List.mem_of_getElem? (i := 365) (by decide +kernel)) rfl⟩
theorem ml_RX9_98 : ML RX9 98 yX0_forget := Or.inr ⟨"CutDistances", NN_of (List.mem_of_getElem? (i := 369) (by decide +kernel)) rfl⟩
theorem ml_RX9_101 : ML RX9 101 yX6_hasPair := Or.inr ⟨"CutDistances", NN_of (List.mem_of_getElem? (i := 377) (by decide +kernel)) rfl⟩
theorem ml_RX9_105 : ML RX9 105 yX6_between := Or.inr ⟨"CutDistances", NN_of (List.mem_of_getElem? (i := 381) (by decide +kernel)) rfl⟩
theorem ml_RX9_109 : ML RX9 109 yX6_copyFrom := Or.inr ⟨"CutDistances", NN_of (List.mem_of_getElem? (i := 390) (by decide +kernel)) rfl⟩
theorem ml_RX9_117 : ML RX9 117 yX6_pairOf := Or.inr ⟨"CutDistances", NN_of (List.mem_of_getElem? (i := 397) (by decide +kernel)) rfl⟩
theorem ml_RX9_120 : ML RX9 120 yX9_doDeed := Or.inl (TT_of (List.mem_of_getElem? (i := 398) (by decide +kernel)) rfl)
theorem ml_RX9_124 : ML RX9 124 yX6_hasCut := Or.inr ⟨"CutDistances", NN_of (List.mem_of_getElem? (i := 426) (by decide +kernel)) rfl⟩
theorem ml_RX9_128 : ML RX9 128 yX6_pairsApart := Or.inr ⟨"CutDistances", NN_of (List.mem_of_getElem? (i := 434) (by decide +kernel)) rfl⟩
theorem ml_RX9_132 : ML RX9 132 yX6_pairCount := Or.inr ⟨"CutDistances", NN_of (List.mem_of_getElem? (i := 438) (by decide +kernel)) rfl⟩
theorem ml_RX9_135 : ML RX9 135 yX9_doDeedInBounds := Or.inl (TT_of (List.mem_of_getElem? (i := 439) (by decide +kernel)) rfl)
theorem ml_RX9_138 : ML RX9 138 yX6_shorten := Or.inr ⟨"CutDistances", NN_of (List.mem_of_getElem? (i := 455) (by decide +kernel)) rfl⟩
theorem ml_RX9_141 : ML RX9 141 yX6_hasPoint := Or.inr ⟨"CutDistances", NN_of (List.mem_of_getElem? (i := 465) (by decide +kernel)) rfl⟩
theorem ml_RX9_150 : ML RX9 150 yX2_townDistance := Or.inr ⟨"CutDistances", NN_of (List.mem_of_getElem? (i := 473) (by decide +kernel)) rfl⟩
theorem ml_RX9_156 : ML RX9 156 yX0_takeBack := Or.inr ⟨"CutDistances", NN_of (List.mem_of_getElem? (i := 488) (by decide +kernel)) rfl⟩
theorem ml_RX9_159 : ML RX9 159 yX6_unlike := Or.inr ⟨"CutDistances", NN_of (List.mem_of_getElem? (i := 402) (by decide +kernel)) rfl⟩
theorem ml_RX9_163 : ML RX9 163 yX0_keep := Or.inr ⟨"CutDistances", NN_of (List.mem_of_getElem? (i := 410) (by decide +kernel)) rfl⟩
theorem ml_RX9_166 : ML RX9 166 yX6_inBounds := Or.inr ⟨"CutDistances", NN_of (List.mem_of_getElem? (i := 443) (by decide +kernel)) rfl⟩
theorem ml_RX9_170 : ML RX9 170 yX6_total := Or.inr ⟨"CutDistances", NN_of (List.mem_of_getElem? (i := 447) (by decide +kernel)) rfl⟩
theorem ml_RX9_173 : ML RX9 173 yX9_isBrokenTriangle := Or.inl (TT_of (List.mem_of_getElem? (i := 496) (by decide +kernel)) rfl)
theorem ml_RX9_177 : ML RX9 177 yX9_told := Or.inl (TT_of (List.mem_of_getElem? (i := 500) (by decide +kernel)) rfl)
theorem ml_RX9_181 : ML RX9 181 yX9_isOddRound := Or.inl (TT_of (List.mem_of_getElem? (i := 507) (by decide +kernel)) rfl)
theorem ml_RX9_184 : ML RX9 184 yX9_isWidth := Or.inl (TT_of (List.mem_of_getElem? (i := 515) (by decide +kernel)) rfl)
theorem ml_RX9_187 : ML RX9 187 yX8_start := Or.inr ⟨"CutDistances", NN_of (List.mem_of_getElem? (i := 518) (by decide +kernel)) rfl⟩
theorem ml_RX9_194 : ML RX9 194 yX8_wallValue := Or.inr ⟨"CutDistances", NN_of (List.mem_of_getElem? (i := 539) (by decide +kernel)) rfl⟩
theorem ml_RX9_197 : ML RX9 197 yX8_goOn := Or.inr ⟨"CutDistances", NN_of (List.mem_of_getElem? (i := 543) (by decide +kernel)) rfl⟩
theorem ml_RX9_200 : ML RX9 200 yX8_goOnTimes := Or.inr ⟨"CutDistances", NN_of (List.mem_of_getElem? (i := 556) (by decide +kernel)) rfl⟩
theorem ml_RX9_206 : ML RX9 206 yX9_isHolder := Or.inl (TT_of (List.mem_of_getElem? (i := 565) (by decide +kernel)) rfl)
theorem ml_RX9_209 : ML RX9 209 yX1_take := Or.inr ⟨"CutDistances", NN_of (List.mem_of_getElem? (i := 568) (by decide +kernel)) rfl⟩
theorem ml_RX9_213 : ML RX9 213 yX1_width := Or.inr ⟨"CutDistances", NN_of (List.mem_of_getElem? (i := 574) (by decide +kernel)) rfl⟩
theorem ml_RX9_216 : ML RX9 216 yX9_refusalOfKind := Or.inl (TT_of (List.mem_of_getElem? (i := 584) (by decide +kernel)) rfl)
theorem ml_RX9_219 : ML RX9 219 yX1_tellsWall := Or.inr ⟨"CutDistances", NN_of (List.mem_of_getElem? (i := 588) (by decide +kernel)) rfl⟩
theorem ml_RX9_225 : ML RX9 225 yX9_refusalOfWall := Or.inl (TT_of (List.mem_of_getElem? (i := 596) (by decide +kernel)) rfl)
theorem ml_RX9_230 : ML RX9 230 yX9_rootCount := Or.inl (TT_of (List.mem_of_getElem? (i := 605) (by decide +kernel)) rfl)
theorem ml_RX9_234 : ML RX9 234 yX9_rootRank := Or.inl (TT_of (List.mem_of_getElem? (i := 617) (by decide +kernel)) rfl)
theorem ml_RX9_237 : ML RX9 237 yX6_lastCut := Or.inr ⟨"CutDistances", NN_of (List.mem_of_getElem? (i := 609) (by decide +kernel)) rfl⟩
theorem ml_RX9_240 : ML RX9 240 yX9_isRoot := Or.inl (TT_of (List.mem_of_getElem? (i := 610) (by decide +kernel)) rfl)
theorem ml_RX9_244 : ML RX9 244 yX1_togetherInCut := Or.inr ⟨"CutDistances", NN_of (List.mem_of_getElem? (i := 613) (by decide +kernel)) rfl⟩
theorem ml_RX9_247 : ML RX9 247 yX1_turnSigns := Or.inr ⟨"CutDistances", NN_of (List.mem_of_getElem? (i := 646) (by decide +kernel)) rfl⟩
theorem ml_RX9_250 : ML RX9 250 yX3_start := Or.inr ⟨"CutDistances", NN_of (List.mem_of_getElem? (i := 621) (by decide +kernel)) rfl⟩
theorem ml_RX9_252 : ML RX9 252 yX3_addBits := Or.inr ⟨"CutDistances", NN_of (List.mem_of_getElem? (i := 625) (by decide +kernel)) rfl⟩
theorem ml_RX9_258 : ML RX9 258 yX5_seek := Or.inr ⟨"CutDistances", NN_of (List.mem_of_getElem? (i := 654) (by decide +kernel)) rfl⟩
theorem ml_RX9_262 : ML RX9 262 yX5_together := Or.inr ⟨"CutDistances", NN_of (List.mem_of_getElem? (i := 683) (by decide +kernel)) rfl⟩
theorem ml_RX9_266 : ML RX9 266 yX9_within := Or.inl (TT_of (List.mem_of_getElem? (i := 691) (by decide +kernel)) rfl)
theorem ml_RX9_269 : ML RX9 269 yX9_doubled := Or.inl (TT_of (List.mem_of_getElem? (i := 695) (by decide +kernel)) rfl)
theorem ml_RX9_272 : ML RX9 272 yX9_across := Or.inl (TT_of (List.mem_of_getElem? (i := 699) (by decide +kernel)) rfl)
theorem ml_RX9_275 : ML RX9 275 yX9_longest := Or.inl (TT_of (List.mem_of_getElem? (i := 703) (by decide +kernel)) rfl)
theorem ml_RX9_284 : ML RX9 284 yX7_append := Or.inr ⟨"CutDistances", NN_of (List.mem_of_getElem? (i := 712) (by decide +kernel)) rfl⟩
theorem ml_RX9_287 : ML RX9 287 yX7_parseInto := Or.inr ⟨"CutDistances", NN_of (List.mem_of_getElem? (i := 724) (by decide +kernel)) rfl⟩
theorem ml_RX9_290 : ML RX9 290 yX4_write := Or.inr ⟨"CutDistances", NN_of (List.mem_of_getElem? (i := 746) (by decide +kernel)) rfl⟩
theorem ml_RX9_300 : ML RX9 300 yX1_together := Or.inr ⟨"CutDistances", NN_of (List.mem_of_getElem? (i := 771) (by decide +kernel)) rfl⟩
theorem ml_RX9_304 : ML RX9 304 yX1_hasNumber := Or.inr ⟨"CutDistances", NN_of (List.mem_of_getElem? (i := 779) (by decide +kernel)) rfl⟩
theorem ml_RX9_307 : ML RX9 307 yX1_becomeRow := Or.inr ⟨"CutDistances", NN_of (List.mem_of_getElem? (i := 787) (by decide +kernel)) rfl⟩
theorem ml_RX9_311 : ML RX9 311 yX2_copyFrom := Or.inr ⟨"CutDistances", NN_of (List.mem_of_getElem? (i := 803) (by decide +kernel)) rfl⟩
theorem mo_J9_floorMod_f86c9 : MoI mJ9_floorMod_f86c9 2 := ⟨TT_of (List.mem_of_getElem? (i := 637) (by decide +kernel)) rfl, TT_of (List.mem_of_getElem? (i := 110) (by decide +kernel)) rfl, ⟨by decide +kernel, by decide +kernel⟩, by decide +kernel⟩
theorem ms_J9_floorMod_f86c9 : MoS mJ9_floorMod_f86c9 := TT_of (List.mem_of_getElem? (i := 636) (by decide +kernel)) rfl
theorem mo_X0_forget : MoI mX0_forget 0 := ⟨TT_of (List.mem_of_getElem? (i := 372) (by decide +kernel)) rfl, TT_of (List.mem_of_getElem? (i := 101) (by decide +kernel)) rfl, ⟨by decide +kernel, by decide +kernel⟩, by decide +kernel⟩
theorem mv_X0_forget : MoV mX0_forget := ⟨TT_of (List.mem_of_getElem? (i := 371) (by decide +kernel)) rfl, TT_of (List.mem_of_getElem? (i := 2) (by decide +kernel)) rfl⟩
theorem mo_X0_init : MoI mX0_init 0 := ⟨TT_of (List.mem_of_getElem? (i := 158) (by decide +kernel)) rfl, TT_of (List.mem_of_getElem? (i := 101) (by decide +kernel)) rfl, ⟨by decide +kernel, by decide +kernel⟩, by decide +kernel⟩
theorem mc_X0_init : MoC mX0_init := ⟨TT_of (List.mem_of_getElem? (i := 157) (by decide +kernel)) rfl, rfl⟩
theorem mo_X0_keep : MoI mX0_keep 1 := ⟨TT_of (List.mem_of_getElem? (i := 413) (by decide +kernel)) rfl, TT_of (List.mem_of_getElem? (i := 101) (by decide +kernel)) rfl, ⟨by decide +kernel, by decide +kernel⟩, by decide +kernel⟩
theorem mv_X0_keep : MoV mX0_keep := ⟨TT_of (List.mem_of_getElem? (i := 412) (by decide +kernel)) rfl, TT_of (List.mem_of_getElem? (i := 10) (by decide +kernel)) rfl⟩
theorem mo_X0_takeBack : MoI mX0_takeBack 1 := ⟨TT_of (List.mem_of_getElem? (i := 491) (by decide +kernel)) rfl, TT_of (List.mem_of_getElem? (i := 101) (by decide +kernel)) rfl, ⟨by decide +kernel, by decide +kernel⟩, by decide +kernel⟩
theorem mv_X0_takeBack : MoV mX0_takeBack := ⟨TT_of (List.mem_of_getElem? (i := 490) (by decide +kernel)) rfl, TT_of (List.mem_of_getElem? (i := 20) (by decide +kernel)) rfl⟩
theorem mo_X10_ahead : MoI mX10_ahead 0 := ⟨TT_of (List.mem_of_getElem? (i := 944) (by decide +kernel)) rfl, TT_of (List.mem_of_getElem? (i := 108) (by decide +kernel)) rfl, ⟨by decide +kernel, by decide +kernel⟩, by decide +kernel⟩
theorem mv_X10_ahead : MoV mX10_ahead := ⟨TT_of (List.mem_of_getElem? (i := 943) (by decide +kernel)) rfl, TT_of (List.mem_of_getElem? (i := 68) (by decide +kernel)) rfl⟩
theorem mo_X10_all : MoI mX10_all 0 := ⟨TT_of (List.mem_of_getElem? (i := 983) (by decide +kernel)) rfl, TT_of (List.mem_of_getElem? (i := 108) (by decide +kernel)) rfl, ⟨by decide +kernel, by decide +kernel⟩, by decide +kernel⟩
theorem mv_X10_all : MoV mX10_all := ⟨TT_of (List.mem_of_getElem? (i := 982) (by decide +kernel)) rfl, TT_of (List.mem_of_getElem? (i := 73) (by decide +kernel)) rfl⟩
theorem mo_X10_at : MoI mX10_at 2 := ⟨TT_of (List.mem_of_getElem? (i := 959) (by decide +kernel)) rfl, TT_of (List.mem_of_getElem? (i := 108) (by decide +kernel)) rfl, ⟨by decide +kernel, by decide +kernel⟩, by decide +kernel⟩
theorem mv_X10_at : MoV mX10_at := ⟨TT_of (List.mem_of_getElem? (i := 957) (by decide +kernel)) rfl, TT_of (List.mem_of_getElem? (i := 958) (by decide +kernel)) rfl⟩
theorem mo_X10_back : MoI mX10_back 0 := ⟨TT_of (List.mem_of_getElem? (i := 1006) (by decide +kernel)) rfl, TT_of (List.mem_of_getElem? (i := 108) (by decide +kernel)) rfl, ⟨by decide +kernel, by decide +kernel⟩, by decide +kernel⟩
theorem mv_X10_back : MoV mX10_back := ⟨TT_of (List.mem_of_getElem? (i := 1004) (by decide +kernel)) rfl, TT_of (List.mem_of_getElem? (i := 1005) (by decide +kernel)) rfl⟩
theorem mo_X10_bar : MoI mX10_bar 1 := ⟨TT_of (List.mem_of_getElem? (i := 1078) (by decide +kernel)) rfl, TT_of (List.mem_of_getElem? (i := 108) (by decide +kernel)) rfl, ⟨by decide +kernel, by decide +kernel⟩, by decide +kernel⟩
theorem mv_X10_bar : MoV mX10_bar := ⟨TT_of (List.mem_of_getElem? (i := 1077) (by decide +kernel)) rfl, TT_of (List.mem_of_getElem? (i := 82) (by decide +kernel)) rfl⟩
theorem mo_X10_becomes : MoI mX10_becomes 1 := ⟨TT_of (List.mem_of_getElem? (i := 1010) (by decide +kernel)) rfl, TT_of (List.mem_of_getElem? (i := 108) (by decide +kernel)) rfl, ⟨by decide +kernel, by decide +kernel⟩, by decide +kernel⟩
theorem mv_X10_becomes : MoV mX10_becomes := ⟨TT_of (List.mem_of_getElem? (i := 1009) (by decide +kernel)) rfl, TT_of (List.mem_of_getElem? (i := 74) (by decide +kernel)) rfl⟩
theorem mo_X10_begins : MoI mX10_begins 1 := ⟨TT_of (List.mem_of_getElem? (i := 1028) (by decide +kernel)) rfl, TT_of (List.mem_of_getElem? (i := 108) (by decide +kernel)) rfl, ⟨by decide +kernel, by decide +kernel⟩, by decide +kernel⟩
theorem mv_X10_begins : MoV mX10_begins := ⟨TT_of (List.mem_of_getElem? (i := 1027) (by decide +kernel)) rfl, TT_of (List.mem_of_getElem? (i := 75) (by decide +kernel)) rfl⟩
theorem mo_X10_copies : MoI mX10_copies 2 := ⟨TT_of (List.mem_of_getElem? (i := 947) (by decide +kernel)) rfl, TT_of (List.mem_of_getElem? (i := 108) (by decide +kernel)) rfl, ⟨by decide +kernel, by decide +kernel⟩, by decide +kernel⟩
theorem ms_X10_copies : MoS mX10_copies := TT_of (List.mem_of_getElem? (i := 946) (by decide +kernel)) rfl
theorem mo_X10_count : MoI mX10_count 1 := ⟨TT_of (List.mem_of_getElem? (i := 1224) (by decide +kernel)) rfl, TT_of (List.mem_of_getElem? (i := 108) (by decide +kernel)) rfl, ⟨by decide +kernel, by decide +kernel⟩, by decide +kernel⟩
theorem mv_X10_count : MoV mX10_count := ⟨TT_of (List.mem_of_getElem? (i := 1222) (by decide +kernel)) rfl, TT_of (List.mem_of_getElem? (i := 1223) (by decide +kernel)) rfl⟩
theorem mo_X10_cut : MoI mX10_cut 2 := ⟨TT_of (List.mem_of_getElem? (i := 963) (by decide +kernel)) rfl, TT_of (List.mem_of_getElem? (i := 108) (by decide +kernel)) rfl, ⟨by decide +kernel, by decide +kernel⟩, by decide +kernel⟩
theorem mv_X10_cut : MoV mX10_cut := ⟨TT_of (List.mem_of_getElem? (i := 961) (by decide +kernel)) rfl, TT_of (List.mem_of_getElem? (i := 962) (by decide +kernel)) rfl⟩
theorem mo_X10_cuts : MoI mX10_cuts 0 := ⟨TT_of (List.mem_of_getElem? (i := 971) (by decide +kernel)) rfl, TT_of (List.mem_of_getElem? (i := 108) (by decide +kernel)) rfl, ⟨by decide +kernel, by decide +kernel⟩, by decide +kernel⟩
theorem mv_X10_cuts : MoV mX10_cuts := ⟨TT_of (List.mem_of_getElem? (i := 970) (by decide +kernel)) rfl, TT_of (List.mem_of_getElem? (i := 72) (by decide +kernel)) rfl⟩
theorem mo_X10_done : MoI mX10_done 0 := ⟨TT_of (List.mem_of_getElem? (i := 955) (by decide +kernel)) rfl, TT_of (List.mem_of_getElem? (i := 108) (by decide +kernel)) rfl, ⟨by decide +kernel, by decide +kernel⟩, by decide +kernel⟩
theorem mv_X10_done : MoV mX10_done := ⟨TT_of (List.mem_of_getElem? (i := 954) (by decide +kernel)) rfl, TT_of (List.mem_of_getElem? (i := 70) (by decide +kernel)) rfl⟩
theorem mo_X10_exchanges : MoI mX10_exchanges 2 := ⟨TT_of (List.mem_of_getElem? (i := 1102) (by decide +kernel)) rfl, TT_of (List.mem_of_getElem? (i := 108) (by decide +kernel)) rfl, ⟨by decide +kernel, by decide +kernel⟩, by decide +kernel⟩
theorem mv_X10_exchanges : MoV mX10_exchanges := ⟨TT_of (List.mem_of_getElem? (i := 1101) (by decide +kernel)) rfl, TT_of (List.mem_of_getElem? (i := 86) (by decide +kernel)) rfl⟩
theorem mo_X10_feed : MoI mX10_feed 2 := ⟨TT_of (List.mem_of_getElem? (i := 1144) (by decide +kernel)) rfl, TT_of (List.mem_of_getElem? (i := 108) (by decide +kernel)) rfl, ⟨by decide +kernel, by decide +kernel⟩, by decide +kernel⟩
theorem mv_X10_feed : MoV mX10_feed := ⟨TT_of (List.mem_of_getElem? (i := 1142) (by decide +kernel)) rfl, TT_of (List.mem_of_getElem? (i := 1143) (by decide +kernel)) rfl⟩
theorem mo_X10_figures : MoI mX10_figures 0 := ⟨TT_of (List.mem_of_getElem? (i := 1166) (by decide +kernel)) rfl, TT_of (List.mem_of_getElem? (i := 108) (by decide +kernel)) rfl, ⟨by decide +kernel, by decide +kernel⟩, by decide +kernel⟩
theorem mv_X10_figures : MoV mX10_figures := ⟨TT_of (List.mem_of_getElem? (i := 1165) (by decide +kernel)) rfl, TT_of (List.mem_of_getElem? (i := 93) (by decide +kernel)) rfl⟩
theorem mo_X10_finds : MoI mX10_finds 2 := ⟨TT_of (List.mem_of_getElem? (i := 1049) (by decide +kernel)) rfl, TT_of (List.mem_of_getElem? (i := 108) (by decide +kernel)) rfl, ⟨by decide +kernel, by decide +kernel⟩, by decide +kernel⟩
theorem mv_X10_finds : MoV mX10_finds := ⟨TT_of (List.mem_of_getElem? (i := 1048) (by decide +kernel)) rfl, TT_of (List.mem_of_getElem? (i := 79) (by decide +kernel)) rfl⟩
theorem mo_X10_gauge : MoI mX10_gauge 2 := ⟨TT_of (List.mem_of_getElem? (i := 1137) (by decide +kernel)) rfl, TT_of (List.mem_of_getElem? (i := 108) (by decide +kernel)) rfl, ⟨by decide +kernel, by decide +kernel⟩, by decide +kernel⟩
theorem mv_X10_gauge : MoV mX10_gauge := ⟨TT_of (List.mem_of_getElem? (i := 1135) (by decide +kernel)) rfl, TT_of (List.mem_of_getElem? (i := 1136) (by decide +kernel)) rfl⟩
theorem mo_X10_goesOn : MoI mX10_goesOn 1 := ⟨TT_of (List.mem_of_getElem? (i := 1041) (by decide +kernel)) rfl, TT_of (List.mem_of_getElem? (i := 108) (by decide +kernel)) rfl, ⟨by decide +kernel, by decide +kernel⟩, by decide +kernel⟩
theorem mv_X10_goesOn : MoV mX10_goesOn := ⟨TT_of (List.mem_of_getElem? (i := 1040) (by decide +kernel)) rfl, TT_of (List.mem_of_getElem? (i := 78) (by decide +kernel)) rfl⟩
theorem mo_X10_has : MoI mX10_has 2 := ⟨TT_of (List.mem_of_getElem? (i := 979) (by decide +kernel)) rfl, TT_of (List.mem_of_getElem? (i := 108) (by decide +kernel)) rfl, ⟨by decide +kernel, by decide +kernel⟩, by decide +kernel⟩
theorem ms_X10_has : MoS mX10_has := TT_of (List.mem_of_getElem? (i := 978) (by decide +kernel)) rfl
theorem mo_X10_here : MoI mX10_here 0 := ⟨TT_of (List.mem_of_getElem? (i := 1156) (by decide +kernel)) rfl, TT_of (List.mem_of_getElem? (i := 108) (by decide +kernel)) rfl, ⟨by decide +kernel, by decide +kernel⟩, by decide +kernel⟩
theorem mv_X10_here : MoV mX10_here := ⟨TT_of (List.mem_of_getElem? (i := 1155) (by decide +kernel)) rfl, TT_of (List.mem_of_getElem? (i := 91) (by decide +kernel)) rfl⟩
theorem mo_X10_hold : MoI mX10_hold 1 := ⟨TT_of (List.mem_of_getElem? (i := 1184) (by decide +kernel)) rfl, TT_of (List.mem_of_getElem? (i := 108) (by decide +kernel)) rfl, ⟨by decide +kernel, by decide +kernel⟩, by decide +kernel⟩
theorem mv_X10_hold : MoV mX10_hold := ⟨TT_of (List.mem_of_getElem? (i := 1182) (by decide +kernel)) rfl, TT_of (List.mem_of_getElem? (i := 1183) (by decide +kernel)) rfl⟩
theorem mo_X10_holdWall : MoI mX10_holdWall 3 := ⟨TT_of (List.mem_of_getElem? (i := 1053) (by decide +kernel)) rfl, TT_of (List.mem_of_getElem? (i := 108) (by decide +kernel)) rfl, ⟨by decide +kernel, by decide +kernel⟩, by decide +kernel⟩
theorem mv_X10_holdWall : MoV mX10_holdWall := ⟨TT_of (List.mem_of_getElem? (i := 1051) (by decide +kernel)) rfl, TT_of (List.mem_of_getElem? (i := 1052) (by decide +kernel)) rfl⟩
theorem mo_X10_holdsWall : MoI mX10_holdsWall 1 := ⟨TT_of (List.mem_of_getElem? (i := 1061) (by decide +kernel)) rfl, TT_of (List.mem_of_getElem? (i := 108) (by decide +kernel)) rfl, ⟨by decide +kernel, by decide +kernel⟩, by decide +kernel⟩
theorem mv_X10_holdsWall : MoV mX10_holdsWall := ⟨TT_of (List.mem_of_getElem? (i := 1060) (by decide +kernel)) rfl, TT_of (List.mem_of_getElem? (i := 80) (by decide +kernel)) rfl⟩
theorem mo_X10_image : MoI mX10_image 0 := ⟨TT_of (List.mem_of_getElem? (i := 1216) (by decide +kernel)) rfl, TT_of (List.mem_of_getElem? (i := 108) (by decide +kernel)) rfl, ⟨by decide +kernel, by decide +kernel⟩, by decide +kernel⟩
theorem mv_X10_image : MoV mX10_image := ⟨TT_of (List.mem_of_getElem? (i := 1214) (by decide +kernel)) rfl, TT_of (List.mem_of_getElem? (i := 1215) (by decide +kernel)) rfl⟩
theorem mo_X10_in : MoI mX10_in 3 := ⟨TT_of (List.mem_of_getElem? (i := 927) (by decide +kernel)) rfl, TT_of (List.mem_of_getElem? (i := 108) (by decide +kernel)) rfl, ⟨by decide +kernel, by decide +kernel⟩, by decide +kernel⟩
theorem ms_X10_in : MoS mX10_in := TT_of (List.mem_of_getElem? (i := 926) (by decide +kernel)) rfl
theorem mo_X10_init : MoI mX10_init 0 := ⟨TT_of (List.mem_of_getElem? (i := 820) (by decide +kernel)) rfl, TT_of (List.mem_of_getElem? (i := 108) (by decide +kernel)) rfl, ⟨by decide +kernel, by decide +kernel⟩, by decide +kernel⟩
theorem mc_X10_init : MoC mX10_init := ⟨TT_of (List.mem_of_getElem? (i := 819) (by decide +kernel)) rfl, rfl⟩
theorem mo_X10_is : MoI mX10_is 3 := ⟨TT_of (List.mem_of_getElem? (i := 951) (by decide +kernel)) rfl, TT_of (List.mem_of_getElem? (i := 108) (by decide +kernel)) rfl, ⟨by decide +kernel, by decide +kernel⟩, by decide +kernel⟩
theorem mv_X10_is : MoV mX10_is := ⟨TT_of (List.mem_of_getElem? (i := 950) (by decide +kernel)) rfl, TT_of (List.mem_of_getElem? (i := 69) (by decide +kernel)) rfl⟩
theorem mo_X10_isCut : MoI mX10_isCut 1 := ⟨TT_of (List.mem_of_getElem? (i := 967) (by decide +kernel)) rfl, TT_of (List.mem_of_getElem? (i := 108) (by decide +kernel)) rfl, ⟨by decide +kernel, by decide +kernel⟩, by decide +kernel⟩
theorem mv_X10_isCut : MoV mX10_isCut := ⟨TT_of (List.mem_of_getElem? (i := 966) (by decide +kernel)) rfl, TT_of (List.mem_of_getElem? (i := 71) (by decide +kernel)) rfl⟩
theorem mo_X10_isHolder : MoI mX10_isHolder 1 := ⟨TT_of (List.mem_of_getElem? (i := 1056) (by decide +kernel)) rfl, TT_of (List.mem_of_getElem? (i := 108) (by decide +kernel)) rfl, ⟨by decide +kernel, by decide +kernel⟩, by decide +kernel⟩
theorem ms_X10_isHolder : MoS mX10_isHolder := TT_of (List.mem_of_getElem? (i := 1055) (by decide +kernel)) rfl
theorem mo_X10_isNothing : MoI mX10_isNothing 0 := ⟨TT_of (List.mem_of_getElem? (i := 1124) (by decide +kernel)) rfl, TT_of (List.mem_of_getElem? (i := 108) (by decide +kernel)) rfl, ⟨by decide +kernel, by decide +kernel⟩, by decide +kernel⟩
theorem mv_X10_isNothing : MoV mX10_isNothing := ⟨TT_of (List.mem_of_getElem? (i := 1123) (by decide +kernel)) rfl, TT_of (List.mem_of_getElem? (i := 88) (by decide +kernel)) rfl⟩
theorem mo_X10_isPoint : MoI mX10_isPoint 1 := ⟨TT_of (List.mem_of_getElem? (i := 939) (by decide +kernel)) rfl, TT_of (List.mem_of_getElem? (i := 108) (by decide +kernel)) rfl, ⟨by decide +kernel, by decide +kernel⟩, by decide +kernel⟩
theorem mv_X10_isPoint : MoV mX10_isPoint := ⟨TT_of (List.mem_of_getElem? (i := 938) (by decide +kernel)) rfl, TT_of (List.mem_of_getElem? (i := 67) (by decide +kernel)) rfl⟩
theorem mo_X10_isRoot : MoI mX10_isRoot 1 := ⟨TT_of (List.mem_of_getElem? (i := 1087) (by decide +kernel)) rfl, TT_of (List.mem_of_getElem? (i := 108) (by decide +kernel)) rfl, ⟨by decide +kernel, by decide +kernel⟩, by decide +kernel⟩
theorem mv_X10_isRoot : MoV mX10_isRoot := ⟨TT_of (List.mem_of_getElem? (i := 1086) (by decide +kernel)) rfl, TT_of (List.mem_of_getElem? (i := 83) (by decide +kernel)) rfl⟩
theorem mo_X10_isTwo : MoI mX10_isTwo 2 := ⟨TT_of (List.mem_of_getElem? (i := 935) (by decide +kernel)) rfl, TT_of (List.mem_of_getElem? (i := 108) (by decide +kernel)) rfl, ⟨by decide +kernel, by decide +kernel⟩, by decide +kernel⟩
theorem mv_X10_isTwo : MoV mX10_isTwo := ⟨TT_of (List.mem_of_getElem? (i := 934) (by decide +kernel)) rfl, TT_of (List.mem_of_getElem? (i := 66) (by decide +kernel)) rfl⟩
theorem mo_X10_isWall : MoI mX10_isWall 1 := ⟨TT_of (List.mem_of_getElem? (i := 1032) (by decide +kernel)) rfl, TT_of (List.mem_of_getElem? (i := 108) (by decide +kernel)) rfl, ⟨by decide +kernel, by decide +kernel⟩, by decide +kernel⟩
theorem mv_X10_isWall : MoV mX10_isWall := ⟨TT_of (List.mem_of_getElem? (i := 1031) (by decide +kernel)) rfl, TT_of (List.mem_of_getElem? (i := 76) (by decide +kernel)) rfl⟩
theorem mo_X10_judge : MoI mX10_judge 1 := ⟨TT_of (List.mem_of_getElem? (i := 1212) (by decide +kernel)) rfl, TT_of (List.mem_of_getElem? (i := 108) (by decide +kernel)) rfl, ⟨by decide +kernel, by decide +kernel⟩, by decide +kernel⟩
theorem mv_X10_judge : MoV mX10_judge := ⟨TT_of (List.mem_of_getElem? (i := 1210) (by decide +kernel)) rfl, TT_of (List.mem_of_getElem? (i := 1211) (by decide +kernel)) rfl⟩
theorem mo_X10_lays : MoI mX10_lays 2 := ⟨TT_of (List.mem_of_getElem? (i := 1091) (by decide +kernel)) rfl, TT_of (List.mem_of_getElem? (i := 108) (by decide +kernel)) rfl, ⟨by decide +kernel, by decide +kernel⟩, by decide +kernel⟩
theorem mv_X10_lays : MoV mX10_lays := ⟨TT_of (List.mem_of_getElem? (i := 1090) (by decide +kernel)) rfl, TT_of (List.mem_of_getElem? (i := 84) (by decide +kernel)) rfl⟩
theorem mo_X10_leastLeft : MoI mX10_leastLeft 1 := ⟨TT_of (List.mem_of_getElem? (i := 1128) (by decide +kernel)) rfl, TT_of (List.mem_of_getElem? (i := 108) (by decide +kernel)) rfl, ⟨by decide +kernel, by decide +kernel⟩, by decide +kernel⟩
theorem mv_X10_leastLeft : MoV mX10_leastLeft := ⟨TT_of (List.mem_of_getElem? (i := 1127) (by decide +kernel)) rfl, TT_of (List.mem_of_getElem? (i := 89) (by decide +kernel)) rfl⟩
theorem mo_X10_lessens : MoI mX10_lessens 2 := ⟨TT_of (List.mem_of_getElem? (i := 1133) (by decide +kernel)) rfl, TT_of (List.mem_of_getElem? (i := 108) (by decide +kernel)) rfl, ⟨by decide +kernel, by decide +kernel⟩, by decide +kernel⟩
theorem mv_X10_lessens : MoV mX10_lessens := ⟨TT_of (List.mem_of_getElem? (i := 1132) (by decide +kernel)) rfl, TT_of (List.mem_of_getElem? (i := 90) (by decide +kernel)) rfl⟩
theorem mo_X10_lose : MoI mX10_lose 1 := ⟨TT_of (List.mem_of_getElem? (i := 1188) (by decide +kernel)) rfl, TT_of (List.mem_of_getElem? (i := 108) (by decide +kernel)) rfl, ⟨by decide +kernel, by decide +kernel⟩, by decide +kernel⟩
theorem mv_X10_lose : MoV mX10_lose := ⟨TT_of (List.mem_of_getElem? (i := 1186) (by decide +kernel)) rfl, TT_of (List.mem_of_getElem? (i := 1187) (by decide +kernel)) rfl⟩
theorem mo_X10_must : MoI mX10_must 1 := ⟨TT_of (List.mem_of_getElem? (i := 1162) (by decide +kernel)) rfl, TT_of (List.mem_of_getElem? (i := 108) (by decide +kernel)) rfl, ⟨by decide +kernel, by decide +kernel⟩, by decide +kernel⟩
theorem mv_X10_must : MoV mX10_must := ⟨TT_of (List.mem_of_getElem? (i := 1161) (by decide +kernel)) rfl, TT_of (List.mem_of_getElem? (i := 92) (by decide +kernel)) rfl⟩
theorem mo_X10_noRow : MoI mX10_noRow 1 := ⟨TT_of (List.mem_of_getElem? (i := 1208) (by decide +kernel)) rfl, TT_of (List.mem_of_getElem? (i := 108) (by decide +kernel)) rfl, ⟨by decide +kernel, by decide +kernel⟩, by decide +kernel⟩
theorem mv_X10_noRow : MoV mX10_noRow := ⟨TT_of (List.mem_of_getElem? (i := 1207) (by decide +kernel)) rfl, TT_of (List.mem_of_getElem? (i := 96) (by decide +kernel)) rfl⟩
theorem mo_X10_number : MoI mX10_number 2 := ⟨TT_of (List.mem_of_getElem? (i := 1196) (by decide +kernel)) rfl, TT_of (List.mem_of_getElem? (i := 108) (by decide +kernel)) rfl, ⟨by decide +kernel, by decide +kernel⟩, by decide +kernel⟩
theorem mv_X10_number : MoV mX10_number := ⟨TT_of (List.mem_of_getElem? (i := 1194) (by decide +kernel)) rfl, TT_of (List.mem_of_getElem? (i := 1195) (by decide +kernel)) rfl⟩
theorem mo_X10_off : MoI mX10_off 2 := ⟨TT_of (List.mem_of_getElem? (i := 998) (by decide +kernel)) rfl, TT_of (List.mem_of_getElem? (i := 108) (by decide +kernel)) rfl, ⟨by decide +kernel, by decide +kernel⟩, by decide +kernel⟩
theorem ms_X10_off : MoS mX10_off := TT_of (List.mem_of_getElem? (i := 997) (by decide +kernel)) rfl
theorem mo_X10_pairsOf : MoI mX10_pairsOf 1 := ⟨TT_of (List.mem_of_getElem? (i := 1098) (by decide +kernel)) rfl, TT_of (List.mem_of_getElem? (i := 108) (by decide +kernel)) rfl, ⟨by decide +kernel, by decide +kernel⟩, by decide +kernel⟩
theorem ms_X10_pairsOf : MoS mX10_pairsOf := TT_of (List.mem_of_getElem? (i := 1097) (by decide +kernel)) rfl
theorem mo_X10_paths : MoI mX10_paths 0 := ⟨TT_of (List.mem_of_getElem? (i := 987) (by decide +kernel)) rfl, TT_of (List.mem_of_getElem? (i := 108) (by decide +kernel)) rfl, ⟨by decide +kernel, by decide +kernel⟩, by decide +kernel⟩
theorem mv_X10_paths : MoV mX10_paths := ⟨TT_of (List.mem_of_getElem? (i := 985) (by decide +kernel)) rfl, TT_of (List.mem_of_getElem? (i := 986) (by decide +kernel)) rfl⟩
theorem mo_X10_place : MoI mX10_place 3 := ⟨TT_of (List.mem_of_getElem? (i := 991) (by decide +kernel)) rfl, TT_of (List.mem_of_getElem? (i := 108) (by decide +kernel)) rfl, ⟨by decide +kernel, by decide +kernel⟩, by decide +kernel⟩
theorem mv_X10_place : MoV mX10_place := ⟨TT_of (List.mem_of_getElem? (i := 989) (by decide +kernel)) rfl, TT_of (List.mem_of_getElem? (i := 990) (by decide +kernel)) rfl⟩
theorem mo_X10_points : MoI mX10_points 1 := ⟨TT_of (List.mem_of_getElem? (i := 922) (by decide +kernel)) rfl, TT_of (List.mem_of_getElem? (i := 108) (by decide +kernel)) rfl, ⟨by decide +kernel, by decide +kernel⟩, by decide +kernel⟩
theorem mv_X10_points : MoV mX10_points := ⟨TT_of (List.mem_of_getElem? (i := 920) (by decide +kernel)) rfl, TT_of (List.mem_of_getElem? (i := 921) (by decide +kernel)) rfl⟩
theorem mo_X10_put : MoI mX10_put 3 := ⟨TT_of (List.mem_of_getElem? (i := 931) (by decide +kernel)) rfl, TT_of (List.mem_of_getElem? (i := 108) (by decide +kernel)) rfl, ⟨by decide +kernel, by decide +kernel⟩, by decide +kernel⟩
theorem mv_X10_put : MoV mX10_put := ⟨TT_of (List.mem_of_getElem? (i := 929) (by decide +kernel)) rfl, TT_of (List.mem_of_getElem? (i := 930) (by decide +kernel)) rfl⟩
theorem mo_X10_rank : MoI mX10_rank 1 := ⟨TT_of (List.mem_of_getElem? (i := 1095) (by decide +kernel)) rfl, TT_of (List.mem_of_getElem? (i := 108) (by decide +kernel)) rfl, ⟨by decide +kernel, by decide +kernel⟩, by decide +kernel⟩
theorem mv_X10_rank : MoV mX10_rank := ⟨TT_of (List.mem_of_getElem? (i := 1094) (by decide +kernel)) rfl, TT_of (List.mem_of_getElem? (i := 85) (by decide +kernel)) rfl⟩
theorem mo_X10_read : MoI mX10_read 0 := ⟨TT_of (List.mem_of_getElem? (i := 1152) (by decide +kernel)) rfl, TT_of (List.mem_of_getElem? (i := 108) (by decide +kernel)) rfl, ⟨by decide +kernel, by decide +kernel⟩, by decide +kernel⟩
theorem mv_X10_read : MoV mX10_read := ⟨TT_of (List.mem_of_getElem? (i := 1150) (by decide +kernel)) rfl, TT_of (List.mem_of_getElem? (i := 1151) (by decide +kernel)) rfl⟩
theorem mo_X10_root : MoI mX10_root 2 := ⟨TT_of (List.mem_of_getElem? (i := 1106) (by decide +kernel)) rfl, TT_of (List.mem_of_getElem? (i := 108) (by decide +kernel)) rfl, ⟨by decide +kernel, by decide +kernel⟩, by decide +kernel⟩
theorem mv_X10_root : MoV mX10_root := ⟨TT_of (List.mem_of_getElem? (i := 1104) (by decide +kernel)) rfl, TT_of (List.mem_of_getElem? (i := 1105) (by decide +kernel)) rfl⟩
theorem mo_X10_roots : MoI mX10_roots 2 := ⟨TT_of (List.mem_of_getElem? (i := 1083) (by decide +kernel)) rfl, TT_of (List.mem_of_getElem? (i := 108) (by decide +kernel)) rfl, ⟨by decide +kernel, by decide +kernel⟩, by decide +kernel⟩
theorem mv_X10_roots : MoV mX10_roots := ⟨TT_of (List.mem_of_getElem? (i := 1081) (by decide +kernel)) rfl, TT_of (List.mem_of_getElem? (i := 1082) (by decide +kernel)) rfl⟩
theorem mo_X10_rounds : MoI mX10_rounds 1 := ⟨TT_of (List.mem_of_getElem? (i := 1018) (by decide +kernel)) rfl, TT_of (List.mem_of_getElem? (i := 108) (by decide +kernel)) rfl, ⟨by decide +kernel, by decide +kernel⟩, by decide +kernel⟩
theorem mv_X10_rounds : MoV mX10_rounds := ⟨TT_of (List.mem_of_getElem? (i := 1016) (by decide +kernel)) rfl, TT_of (List.mem_of_getElem? (i := 1017) (by decide +kernel)) rfl⟩
theorem mo_X10_row : MoI mX10_row 2 := ⟨TT_of (List.mem_of_getElem? (i := 1200) (by decide +kernel)) rfl, TT_of (List.mem_of_getElem? (i := 108) (by decide +kernel)) rfl, ⟨by decide +kernel, by decide +kernel⟩, by decide +kernel⟩
theorem mv_X10_row : MoV mX10_row := ⟨TT_of (List.mem_of_getElem? (i := 1198) (by decide +kernel)) rfl, TT_of (List.mem_of_getElem? (i := 1199) (by decide +kernel)) rfl⟩
theorem mo_X10_seeks : MoI mX10_seeks 1 := ⟨TT_of (List.mem_of_getElem? (i := 1120) (by decide +kernel)) rfl, TT_of (List.mem_of_getElem? (i := 108) (by decide +kernel)) rfl, ⟨by decide +kernel, by decide +kernel⟩, by decide +kernel⟩
theorem mv_X10_seeks : MoV mX10_seeks := ⟨TT_of (List.mem_of_getElem? (i := 1119) (by decide +kernel)) rfl, TT_of (List.mem_of_getElem? (i := 87) (by decide +kernel)) rfl⟩
theorem mo_X10_separates : MoI mX10_separates 3 := ⟨TT_of (List.mem_of_getElem? (i := 976) (by decide +kernel)) rfl, TT_of (List.mem_of_getElem? (i := 108) (by decide +kernel)) rfl, ⟨by decide +kernel, by decide +kernel⟩, by decide +kernel⟩
theorem ms_X10_separates : MoS mX10_separates := TT_of (List.mem_of_getElem? (i := 975) (by decide +kernel)) rfl
theorem mo_X10_set : MoI mX10_set 3 := ⟨TT_of (List.mem_of_getElem? (i := 1204) (by decide +kernel)) rfl, TT_of (List.mem_of_getElem? (i := 108) (by decide +kernel)) rfl, ⟨by decide +kernel, by decide +kernel⟩, by decide +kernel⟩
theorem mv_X10_set : MoV mX10_set := ⟨TT_of (List.mem_of_getElem? (i := 1202) (by decide +kernel)) rfl, TT_of (List.mem_of_getElem? (i := 1203) (by decide +kernel)) rfl⟩
theorem mo_X10_spell : MoI mX10_spell 1 := ⟨TT_of (List.mem_of_getElem? (i := 1172) (by decide +kernel)) rfl, TT_of (List.mem_of_getElem? (i := 108) (by decide +kernel)) rfl, ⟨by decide +kernel, by decide +kernel⟩, by decide +kernel⟩
theorem mv_X10_spell : MoV mX10_spell := ⟨TT_of (List.mem_of_getElem? (i := 1170) (by decide +kernel)) rfl, TT_of (List.mem_of_getElem? (i := 1171) (by decide +kernel)) rfl⟩
theorem mo_X10_spells : MoI mX10_spells 1 := ⟨TT_of (List.mem_of_getElem? (i := 1176) (by decide +kernel)) rfl, TT_of (List.mem_of_getElem? (i := 108) (by decide +kernel)) rfl, ⟨by decide +kernel, by decide +kernel⟩, by decide +kernel⟩
theorem mv_X10_spells : MoV mX10_spells := ⟨TT_of (List.mem_of_getElem? (i := 1175) (by decide +kernel)) rfl, TT_of (List.mem_of_getElem? (i := 94) (by decide +kernel)) rfl⟩
theorem mo_X10_spellsNumber : MoI mX10_spellsNumber 1 := ⟨TT_of (List.mem_of_getElem? (i := 1180) (by decide +kernel)) rfl, TT_of (List.mem_of_getElem? (i := 108) (by decide +kernel)) rfl, ⟨by decide +kernel, by decide +kernel⟩, by decide +kernel⟩
theorem mv_X10_spellsNumber : MoV mX10_spellsNumber := ⟨TT_of (List.mem_of_getElem? (i := 1179) (by decide +kernel)) rfl, TT_of (List.mem_of_getElem? (i := 95) (by decide +kernel)) rfl⟩
theorem mo_X10_stretch : MoI mX10_stretch 1 := ⟨TT_of (List.mem_of_getElem? (i := 1002) (by decide +kernel)) rfl, TT_of (List.mem_of_getElem? (i := 108) (by decide +kernel)) rfl, ⟨by decide +kernel, by decide +kernel⟩, by decide +kernel⟩
theorem mv_X10_stretch : MoV mX10_stretch := ⟨TT_of (List.mem_of_getElem? (i := 1000) (by decide +kernel)) rfl, TT_of (List.mem_of_getElem? (i := 1001) (by decide +kernel)) rfl⟩
theorem mo_X10_sum : MoI mX10_sum 2 := ⟨TT_of (List.mem_of_getElem? (i := 1114) (by decide +kernel)) rfl, TT_of (List.mem_of_getElem? (i := 108) (by decide +kernel)) rfl, ⟨by decide +kernel, by decide +kernel⟩, by decide +kernel⟩
theorem mv_X10_sum : MoV mX10_sum := ⟨TT_of (List.mem_of_getElem? (i := 1112) (by decide +kernel)) rfl, TT_of (List.mem_of_getElem? (i := 1113) (by decide +kernel)) rfl⟩
theorem mo_X10_switched : MoI mX10_switched 2 := ⟨TT_of (List.mem_of_getElem? (i := 1110) (by decide +kernel)) rfl, TT_of (List.mem_of_getElem? (i := 108) (by decide +kernel)) rfl, ⟨by decide +kernel, by decide +kernel⟩, by decide +kernel⟩
theorem mv_X10_switched : MoV mX10_switched := ⟨TT_of (List.mem_of_getElem? (i := 1108) (by decide +kernel)) rfl, TT_of (List.mem_of_getElem? (i := 1109) (by decide +kernel)) rfl⟩
theorem mo_X10_taken : MoI mX10_taken 2 := ⟨TT_of (List.mem_of_getElem? (i := 1192) (by decide +kernel)) rfl, TT_of (List.mem_of_getElem? (i := 108) (by decide +kernel)) rfl, ⟨by decide +kernel, by decide +kernel⟩, by decide +kernel⟩
theorem mv_X10_taken : MoV mX10_taken := ⟨TT_of (List.mem_of_getElem? (i := 1190) (by decide +kernel)) rfl, TT_of (List.mem_of_getElem? (i := 1191) (by decide +kernel)) rfl⟩
theorem mo_X10_town : MoI mX10_town 0 := ⟨TT_of (List.mem_of_getElem? (i := 995) (by decide +kernel)) rfl, TT_of (List.mem_of_getElem? (i := 108) (by decide +kernel)) rfl, ⟨by decide +kernel, by decide +kernel⟩, by decide +kernel⟩
theorem mv_X10_town : MoV mX10_town := ⟨TT_of (List.mem_of_getElem? (i := 993) (by decide +kernel)) rfl, TT_of (List.mem_of_getElem? (i := 994) (by decide +kernel)) rfl⟩
theorem mo_X10_triangles : MoI mX10_triangles 1 := ⟨TT_of (List.mem_of_getElem? (i := 1014) (by decide +kernel)) rfl, TT_of (List.mem_of_getElem? (i := 108) (by decide +kernel)) rfl, ⟨by decide +kernel, by decide +kernel⟩, by decide +kernel⟩
theorem mv_X10_triangles : MoV mX10_triangles := ⟨TT_of (List.mem_of_getElem? (i := 1012) (by decide +kernel)) rfl, TT_of (List.mem_of_getElem? (i := 1013) (by decide +kernel)) rfl⟩
theorem mo_X10_undo : MoI mX10_undo 0 := ⟨TT_of (List.mem_of_getElem? (i := 1220) (by decide +kernel)) rfl, TT_of (List.mem_of_getElem? (i := 108) (by decide +kernel)) rfl, ⟨by decide +kernel, by decide +kernel⟩, by decide +kernel⟩
theorem mv_X10_undo : MoV mX10_undo := ⟨TT_of (List.mem_of_getElem? (i := 1218) (by decide +kernel)) rfl, TT_of (List.mem_of_getElem? (i := 1219) (by decide +kernel)) rfl⟩
theorem mo_X10_value : MoI mX10_value 1 := ⟨TT_of (List.mem_of_getElem? (i := 1074) (by decide +kernel)) rfl, TT_of (List.mem_of_getElem? (i := 108) (by decide +kernel)) rfl, ⟨by decide +kernel, by decide +kernel⟩, by decide +kernel⟩
theorem mv_X10_value : MoV mX10_value := ⟨TT_of (List.mem_of_getElem? (i := 1072) (by decide +kernel)) rfl, TT_of (List.mem_of_getElem? (i := 1073) (by decide +kernel)) rfl⟩
theorem mo_X10_valueNow : MoI mX10_valueNow 0 := ⟨TT_of (List.mem_of_getElem? (i := 1037) (by decide +kernel)) rfl, TT_of (List.mem_of_getElem? (i := 108) (by decide +kernel)) rfl, ⟨by decide +kernel, by decide +kernel⟩, by decide +kernel⟩
theorem mv_X10_valueNow : MoV mX10_valueNow := ⟨TT_of (List.mem_of_getElem? (i := 1036) (by decide +kernel)) rfl, TT_of (List.mem_of_getElem? (i := 77) (by decide +kernel)) rfl⟩
theorem mo_X10_wall : MoI mX10_wall 3 := ⟨TT_of (List.mem_of_getElem? (i := 1045) (by decide +kernel)) rfl, TT_of (List.mem_of_getElem? (i := 108) (by decide +kernel)) rfl, ⟨by decide +kernel, by decide +kernel⟩, by decide +kernel⟩
theorem mv_X10_wall : MoV mX10_wall := ⟨TT_of (List.mem_of_getElem? (i := 1043) (by decide +kernel)) rfl, TT_of (List.mem_of_getElem? (i := 1044) (by decide +kernel)) rfl⟩
theorem mo_X10_wallOf : MoI mX10_wallOf 2 := ⟨TT_of (List.mem_of_getElem? (i := 1070) (by decide +kernel)) rfl, TT_of (List.mem_of_getElem? (i := 108) (by decide +kernel)) rfl, ⟨by decide +kernel, by decide +kernel⟩, by decide +kernel⟩
theorem mv_X10_wallOf : MoV mX10_wallOf := ⟨TT_of (List.mem_of_getElem? (i := 1068) (by decide +kernel)) rfl, TT_of (List.mem_of_getElem? (i := 1069) (by decide +kernel)) rfl⟩
theorem mo_X10_walls : MoI mX10_walls 2 := ⟨TT_of (List.mem_of_getElem? (i := 1022) (by decide +kernel)) rfl, TT_of (List.mem_of_getElem? (i := 108) (by decide +kernel)) rfl, ⟨by decide +kernel, by decide +kernel⟩, by decide +kernel⟩
theorem mv_X10_walls : MoV mX10_walls := ⟨TT_of (List.mem_of_getElem? (i := 1020) (by decide +kernel)) rfl, TT_of (List.mem_of_getElem? (i := 1021) (by decide +kernel)) rfl⟩
theorem mo_X10_widthNow : MoI mX10_widthNow 1 := ⟨TT_of (List.mem_of_getElem? (i := 1065) (by decide +kernel)) rfl, TT_of (List.mem_of_getElem? (i := 108) (by decide +kernel)) rfl, ⟨by decide +kernel, by decide +kernel⟩, by decide +kernel⟩
theorem mv_X10_widthNow : MoV mX10_widthNow := ⟨TT_of (List.mem_of_getElem? (i := 1064) (by decide +kernel)) rfl, TT_of (List.mem_of_getElem? (i := 81) (by decide +kernel)) rfl⟩
theorem mo_X10_wipe : MoI mX10_wipe 0 := ⟨TT_of (List.mem_of_getElem? (i := 1148) (by decide +kernel)) rfl, TT_of (List.mem_of_getElem? (i := 108) (by decide +kernel)) rfl, ⟨by decide +kernel, by decide +kernel⟩, by decide +kernel⟩
theorem mv_X10_wipe : MoV mX10_wipe := ⟨TT_of (List.mem_of_getElem? (i := 1146) (by decide +kernel)) rfl, TT_of (List.mem_of_getElem? (i := 1147) (by decide +kernel)) rfl⟩
theorem mo_X1_becomeRow : MoI mX1_becomeRow 1 := ⟨TT_of (List.mem_of_getElem? (i := 790) (by decide +kernel)) rfl, TT_of (List.mem_of_getElem? (i := 107) (by decide +kernel)) rfl, ⟨by decide +kernel, by decide +kernel⟩, by decide +kernel⟩
theorem mv_X1_becomeRow : MoV mX1_becomeRow := ⟨TT_of (List.mem_of_getElem? (i := 789) (by decide +kernel)) rfl, TT_of (List.mem_of_getElem? (i := 64) (by decide +kernel)) rfl⟩
theorem mo_X1_hasNumber : MoI mX1_hasNumber 1 := ⟨TT_of (List.mem_of_getElem? (i := 782) (by decide +kernel)) rfl, TT_of (List.mem_of_getElem? (i := 107) (by decide +kernel)) rfl, ⟨by decide +kernel, by decide +kernel⟩, by decide +kernel⟩
theorem mv_X1_hasNumber : MoV mX1_hasNumber := ⟨TT_of (List.mem_of_getElem? (i := 781) (by decide +kernel)) rfl, TT_of (List.mem_of_getElem? (i := 63) (by decide +kernel)) rfl⟩
theorem mo_X1_init : MoI mX1_init 0 := ⟨TT_of (List.mem_of_getElem? (i := 298) (by decide +kernel)) rfl, TT_of (List.mem_of_getElem? (i := 107) (by decide +kernel)) rfl, ⟨by decide +kernel, by decide +kernel⟩, by decide +kernel⟩
theorem mc_X1_init : MoC mX1_init := ⟨TT_of (List.mem_of_getElem? (i := 297) (by decide +kernel)) rfl, rfl⟩
theorem mo_X1_take : MoI mX1_take 4 := ⟨TT_of (List.mem_of_getElem? (i := 571) (by decide +kernel)) rfl, TT_of (List.mem_of_getElem? (i := 107) (by decide +kernel)) rfl, ⟨by decide +kernel, by decide +kernel⟩, by decide +kernel⟩
theorem mv_X1_take : MoV mX1_take := ⟨TT_of (List.mem_of_getElem? (i := 570) (by decide +kernel)) rfl, TT_of (List.mem_of_getElem? (i := 31) (by decide +kernel)) rfl⟩
theorem mo_X1_tellsWall : MoI mX1_tellsWall 1 := ⟨TT_of (List.mem_of_getElem? (i := 591) (by decide +kernel)) rfl, TT_of (List.mem_of_getElem? (i := 107) (by decide +kernel)) rfl, ⟨by decide +kernel, by decide +kernel⟩, by decide +kernel⟩
theorem mv_X1_tellsWall : MoV mX1_tellsWall := ⟨TT_of (List.mem_of_getElem? (i := 590) (by decide +kernel)) rfl, TT_of (List.mem_of_getElem? (i := 34) (by decide +kernel)) rfl⟩
theorem mo_X1_together : MoI mX1_together 0 := ⟨TT_of (List.mem_of_getElem? (i := 774) (by decide +kernel)) rfl, TT_of (List.mem_of_getElem? (i := 107) (by decide +kernel)) rfl, ⟨by decide +kernel, by decide +kernel⟩, by decide +kernel⟩
theorem mv_X1_together : MoV mX1_together := ⟨TT_of (List.mem_of_getElem? (i := 773) (by decide +kernel)) rfl, TT_of (List.mem_of_getElem? (i := 62) (by decide +kernel)) rfl⟩
theorem mo_X1_togetherInCut : MoI mX1_togetherInCut 1 := ⟨TT_of (List.mem_of_getElem? (i := 616) (by decide +kernel)) rfl, TT_of (List.mem_of_getElem? (i := 107) (by decide +kernel)) rfl, ⟨by decide +kernel, by decide +kernel⟩, by decide +kernel⟩
theorem mv_X1_togetherInCut : MoV mX1_togetherInCut := ⟨TT_of (List.mem_of_getElem? (i := 615) (by decide +kernel)) rfl, TT_of (List.mem_of_getElem? (i := 37) (by decide +kernel)) rfl⟩
theorem mo_X1_turnSigns : MoI mX1_turnSigns 1 := ⟨TT_of (List.mem_of_getElem? (i := 649) (by decide +kernel)) rfl, TT_of (List.mem_of_getElem? (i := 107) (by decide +kernel)) rfl, ⟨by decide +kernel, by decide +kernel⟩, by decide +kernel⟩
theorem mv_X1_turnSigns : MoV mX1_turnSigns := ⟨TT_of (List.mem_of_getElem? (i := 648) (by decide +kernel)) rfl, TT_of (List.mem_of_getElem? (i := 42) (by decide +kernel)) rfl⟩
theorem mo_X1_width : MoI mX1_width 0 := ⟨TT_of (List.mem_of_getElem? (i := 577) (by decide +kernel)) rfl, TT_of (List.mem_of_getElem? (i := 107) (by decide +kernel)) rfl, ⟨by decide +kernel, by decide +kernel⟩, by decide +kernel⟩
theorem mv_X1_width : MoV mX1_width := ⟨TT_of (List.mem_of_getElem? (i := 576) (by decide +kernel)) rfl, TT_of (List.mem_of_getElem? (i := 32) (by decide +kernel)) rfl⟩
theorem mo_X2_clearFrom : MoI mX2_clearFrom 1 := ⟨TT_of (List.mem_of_getElem? (i := 368) (by decide +kernel)) rfl, TT_of (List.mem_of_getElem? (i := 100) (by decide +kernel)) rfl, ⟨by decide +kernel, by decide +kernel⟩, by decide +kernel⟩
theorem mv_X2_clearFrom : MoV mX2_clearFrom := ⟨TT_of (List.mem_of_getElem? (i := 367) (by decide +kernel)) rfl, TT_of (List.mem_of_getElem? (i := 1) (by decide +kernel)) rfl⟩
theorem mo_X2_copyFrom : MoI mX2_copyFrom 1 := ⟨TT_of (List.mem_of_getElem? (i := 806) (by decide +kernel)) rfl, TT_of (List.mem_of_getElem? (i := 100) (by decide +kernel)) rfl, ⟨by decide +kernel, by decide +kernel⟩, by decide +kernel⟩
theorem mv_X2_copyFrom : MoV mX2_copyFrom := ⟨TT_of (List.mem_of_getElem? (i := 805) (by decide +kernel)) rfl, TT_of (List.mem_of_getElem? (i := 65) (by decide +kernel)) rfl⟩
theorem mo_X2_init : MoI mX2_init 0 := ⟨TT_of (List.mem_of_getElem? (i := 143) (by decide +kernel)) rfl, TT_of (List.mem_of_getElem? (i := 100) (by decide +kernel)) rfl, ⟨by decide +kernel, by decide +kernel⟩, by decide +kernel⟩
theorem mc_X2_init : MoC mX2_init := ⟨TT_of (List.mem_of_getElem? (i := 142) (by decide +kernel)) rfl, rfl⟩
theorem mo_X2_townDistance : MoI mX2_townDistance 2 := ⟨TT_of (List.mem_of_getElem? (i := 476) (by decide +kernel)) rfl, TT_of (List.mem_of_getElem? (i := 100) (by decide +kernel)) rfl, ⟨by decide +kernel, by decide +kernel⟩, by decide +kernel⟩
theorem mv_X2_townDistance : MoV mX2_townDistance := ⟨TT_of (List.mem_of_getElem? (i := 475) (by decide +kernel)) rfl, TT_of (List.mem_of_getElem? (i := 19) (by decide +kernel)) rfl⟩
theorem mo_X3_addBits : MoI mX3_addBits 1 := ⟨TT_of (List.mem_of_getElem? (i := 628) (by decide +kernel)) rfl, TT_of (List.mem_of_getElem? (i := 106) (by decide +kernel)) rfl, ⟨by decide +kernel, by decide +kernel⟩, by decide +kernel⟩
theorem mv_X3_addBits : MoV mX3_addBits := ⟨TT_of (List.mem_of_getElem? (i := 627) (by decide +kernel)) rfl, TT_of (List.mem_of_getElem? (i := 40) (by decide +kernel)) rfl⟩
theorem mo_X3_clearColumn : MoI mX3_clearColumn 1 := ⟨TT_of (List.mem_of_getElem? (i := 633) (by decide +kernel)) rfl, TT_of (List.mem_of_getElem? (i := 106) (by decide +kernel)) rfl, ⟨by decide +kernel, by decide +kernel⟩, by decide +kernel⟩
theorem mv_X3_clearColumn : MoV mX3_clearColumn := ⟨TT_of (List.mem_of_getElem? (i := 632) (by decide +kernel)) rfl, TT_of (List.mem_of_getElem? (i := 41) (by decide +kernel)) rfl⟩
theorem mo_X3_init : MoI mX3_init 0 := ⟨TT_of (List.mem_of_getElem? (i := 272) (by decide +kernel)) rfl, TT_of (List.mem_of_getElem? (i := 106) (by decide +kernel)) rfl, ⟨by decide +kernel, by decide +kernel⟩, by decide +kernel⟩
theorem mc_X3_init : MoC mX3_init := ⟨TT_of (List.mem_of_getElem? (i := 271) (by decide +kernel)) rfl, rfl⟩
theorem mo_X3_start : MoI mX3_start 1 := ⟨TT_of (List.mem_of_getElem? (i := 624) (by decide +kernel)) rfl, TT_of (List.mem_of_getElem? (i := 106) (by decide +kernel)) rfl, ⟨by decide +kernel, by decide +kernel⟩, by decide +kernel⟩
theorem mv_X3_start : MoV mX3_start := ⟨TT_of (List.mem_of_getElem? (i := 623) (by decide +kernel)) rfl, TT_of (List.mem_of_getElem? (i := 39) (by decide +kernel)) rfl⟩
theorem mo_X4_append : MoI mX4_append 1 := ⟨TT_of (List.mem_of_getElem? (i := 753) (by decide +kernel)) rfl, TT_of (List.mem_of_getElem? (i := 103) (by decide +kernel)) rfl, ⟨by decide +kernel, by decide +kernel⟩, by decide +kernel⟩
theorem mv_X4_append : MoV mX4_append := ⟨TT_of (List.mem_of_getElem? (i := 752) (by decide +kernel)) rfl, TT_of (List.mem_of_getElem? (i := 60) (by decide +kernel)) rfl⟩
theorem mo_X4_init : MoI mX4_init 0 := ⟨TT_of (List.mem_of_getElem? (i := 197) (by decide +kernel)) rfl, TT_of (List.mem_of_getElem? (i := 103) (by decide +kernel)) rfl, ⟨by decide +kernel, by decide +kernel⟩, by decide +kernel⟩
theorem mc_X4_init : MoC mX4_init := ⟨TT_of (List.mem_of_getElem? (i := 196) (by decide +kernel)) rfl, rfl⟩
theorem mo_X4_write : MoI mX4_write 1 := ⟨TT_of (List.mem_of_getElem? (i := 749) (by decide +kernel)) rfl, TT_of (List.mem_of_getElem? (i := 103) (by decide +kernel)) rfl, ⟨by decide +kernel, by decide +kernel⟩, by decide +kernel⟩
theorem mv_X4_write : MoV mX4_write := ⟨TT_of (List.mem_of_getElem? (i := 748) (by decide +kernel)) rfl, TT_of (List.mem_of_getElem? (i := 59) (by decide +kernel)) rfl⟩
theorem mo_X4_writeFigures : MoI mX4_writeFigures 1 := ⟨TT_of (List.mem_of_getElem? (i := 758) (by decide +kernel)) rfl, TT_of (List.mem_of_getElem? (i := 103) (by decide +kernel)) rfl, ⟨by decide +kernel, by decide +kernel⟩, by decide +kernel⟩
theorem mv_X4_writeFigures : MoV mX4_writeFigures := ⟨TT_of (List.mem_of_getElem? (i := 757) (by decide +kernel)) rfl, TT_of (List.mem_of_getElem? (i := 61) (by decide +kernel)) rfl⟩
theorem mo_X5_giveNumber : MoI mX5_giveNumber 2 := ⟨TT_of (List.mem_of_getElem? (i := 674) (by decide +kernel)) rfl, TT_of (List.mem_of_getElem? (i := 105) (by decide +kernel)) rfl, ⟨by decide +kernel, by decide +kernel⟩, by decide +kernel⟩
theorem mv_X5_giveNumber : MoV mX5_giveNumber := ⟨TT_of (List.mem_of_getElem? (i := 673) (by decide +kernel)) rfl, TT_of (List.mem_of_getElem? (i := 46) (by decide +kernel)) rfl⟩
theorem mo_X5_init : MoI mX5_init 0 := ⟨TT_of (List.mem_of_getElem? (i := 249) (by decide +kernel)) rfl, TT_of (List.mem_of_getElem? (i := 105) (by decide +kernel)) rfl, ⟨by decide +kernel, by decide +kernel⟩, by decide +kernel⟩
theorem mc_X5_init : MoC mX5_init := ⟨TT_of (List.mem_of_getElem? (i := 248) (by decide +kernel)) rfl, rfl⟩
theorem mo_X5_latestAbove0 : MoI mX5_latestAbove0 0 := ⟨TT_of (List.mem_of_getElem? (i := 682) (by decide +kernel)) rfl, TT_of (List.mem_of_getElem? (i := 105) (by decide +kernel)) rfl, ⟨by decide +kernel, by decide +kernel⟩, by decide +kernel⟩
theorem mv_X5_latestAbove0 : MoV mX5_latestAbove0 := ⟨TT_of (List.mem_of_getElem? (i := 681) (by decide +kernel)) rfl, TT_of (List.mem_of_getElem? (i := 48) (by decide +kernel)) rfl⟩
theorem mo_X5_leastLeft : MoI mX5_leastLeft 1 := ⟨TT_of (List.mem_of_getElem? (i := 669) (by decide +kernel)) rfl, TT_of (List.mem_of_getElem? (i := 105) (by decide +kernel)) rfl, ⟨by decide +kernel, by decide +kernel⟩, by decide +kernel⟩
theorem mv_X5_leastLeft : MoV mX5_leastLeft := ⟨TT_of (List.mem_of_getElem? (i := 668) (by decide +kernel)) rfl, TT_of (List.mem_of_getElem? (i := 45) (by decide +kernel)) rfl⟩
theorem mo_X5_nothingLeft : MoI mX5_nothingLeft 0 := ⟨TT_of (List.mem_of_getElem? (i := 678) (by decide +kernel)) rfl, TT_of (List.mem_of_getElem? (i := 105) (by decide +kernel)) rfl, ⟨by decide +kernel, by decide +kernel⟩, by decide +kernel⟩
theorem mv_X5_nothingLeft : MoV mX5_nothingLeft := ⟨TT_of (List.mem_of_getElem? (i := 677) (by decide +kernel)) rfl, TT_of (List.mem_of_getElem? (i := 47) (by decide +kernel)) rfl⟩
theorem mo_X5_seek : MoI mX5_seek 2 := ⟨TT_of (List.mem_of_getElem? (i := 657) (by decide +kernel)) rfl, TT_of (List.mem_of_getElem? (i := 105) (by decide +kernel)) rfl, ⟨by decide +kernel, by decide +kernel⟩, by decide +kernel⟩
theorem mv_X5_seek : MoV mX5_seek := ⟨TT_of (List.mem_of_getElem? (i := 656) (by decide +kernel)) rfl, TT_of (List.mem_of_getElem? (i := 43) (by decide +kernel)) rfl⟩
theorem mo_X5_start : MoI mX5_start 1 := ⟨TT_of (List.mem_of_getElem? (i := 661) (by decide +kernel)) rfl, TT_of (List.mem_of_getElem? (i := 105) (by decide +kernel)) rfl, ⟨by decide +kernel, by decide +kernel⟩, by decide +kernel⟩
theorem mv_X5_start : MoV mX5_start := ⟨TT_of (List.mem_of_getElem? (i := 660) (by decide +kernel)) rfl, TT_of (List.mem_of_getElem? (i := 44) (by decide +kernel)) rfl⟩
theorem mo_X5_together : MoI mX5_together 0 := ⟨TT_of (List.mem_of_getElem? (i := 686) (by decide +kernel)) rfl, TT_of (List.mem_of_getElem? (i := 105) (by decide +kernel)) rfl, ⟨by decide +kernel, by decide +kernel⟩, by decide +kernel⟩
theorem mv_X5_together : MoV mX5_together := ⟨TT_of (List.mem_of_getElem? (i := 685) (by decide +kernel)) rfl, TT_of (List.mem_of_getElem? (i := 49) (by decide +kernel)) rfl⟩
theorem mo_X6_between : MoI mX6_between 2 := ⟨TT_of (List.mem_of_getElem? (i := 384) (by decide +kernel)) rfl, TT_of (List.mem_of_getElem? (i := 99) (by decide +kernel)) rfl, ⟨by decide +kernel, by decide +kernel⟩, by decide +kernel⟩
theorem mv_X6_between : MoV mX6_between := ⟨TT_of (List.mem_of_getElem? (i := 383) (by decide +kernel)) rfl, TT_of (List.mem_of_getElem? (i := 4) (by decide +kernel)) rfl⟩
theorem mo_X6_clearTo : MoI mX6_clearTo 1 := ⟨TT_of (List.mem_of_getElem? (i := 364) (by decide +kernel)) rfl, TT_of (List.mem_of_getElem? (i := 99) (by decide +kernel)) rfl, ⟨by decide +kernel, by decide +kernel⟩, by decide +kernel⟩
theorem mv_X6_clearTo : MoV mX6_clearTo := ⟨TT_of (List.mem_of_getElem? (i := 363) (by decide +kernel)) rfl, TT_of (List.mem_of_getElem? (i := 0) (by decide +kernel)) rfl⟩
theorem mo_X6_copyFrom : MoI mX6_copyFrom 1 := ⟨TT_of (List.mem_of_getElem? (i := 393) (by decide +kernel)) rfl, TT_of (List.mem_of_getElem? (i := 99) (by decide +kernel)) rfl, ⟨by decide +kernel, by decide +kernel⟩, by decide +kernel⟩
theorem mv_X6_copyFrom : MoV mX6_copyFrom := ⟨TT_of (List.mem_of_getElem? (i := 392) (by decide +kernel)) rfl, TT_of (List.mem_of_getElem? (i := 6) (by decide +kernel)) rfl⟩
theorem mo_X6_hasCut : MoI mX6_hasCut 1 := ⟨TT_of (List.mem_of_getElem? (i := 429) (by decide +kernel)) rfl, TT_of (List.mem_of_getElem? (i := 99) (by decide +kernel)) rfl, ⟨by decide +kernel, by decide +kernel⟩, by decide +kernel⟩
theorem mv_X6_hasCut : MoV mX6_hasCut := ⟨TT_of (List.mem_of_getElem? (i := 428) (by decide +kernel)) rfl, TT_of (List.mem_of_getElem? (i := 11) (by decide +kernel)) rfl⟩
theorem mo_X6_hasPair : MoI mX6_hasPair 2 := ⟨TT_of (List.mem_of_getElem? (i := 380) (by decide +kernel)) rfl, TT_of (List.mem_of_getElem? (i := 99) (by decide +kernel)) rfl, ⟨by decide +kernel, by decide +kernel⟩, by decide +kernel⟩
theorem mv_X6_hasPair : MoV mX6_hasPair := ⟨TT_of (List.mem_of_getElem? (i := 379) (by decide +kernel)) rfl, TT_of (List.mem_of_getElem? (i := 3) (by decide +kernel)) rfl⟩
theorem mo_X6_hasPoint : MoI mX6_hasPoint 1 := ⟨TT_of (List.mem_of_getElem? (i := 468) (by decide +kernel)) rfl, TT_of (List.mem_of_getElem? (i := 99) (by decide +kernel)) rfl, ⟨by decide +kernel, by decide +kernel⟩, by decide +kernel⟩
theorem mv_X6_hasPoint : MoV mX6_hasPoint := ⟨TT_of (List.mem_of_getElem? (i := 467) (by decide +kernel)) rfl, TT_of (List.mem_of_getElem? (i := 18) (by decide +kernel)) rfl⟩
theorem mo_X6_inBounds : MoI mX6_inBounds 0 := ⟨TT_of (List.mem_of_getElem? (i := 446) (by decide +kernel)) rfl, TT_of (List.mem_of_getElem? (i := 99) (by decide +kernel)) rfl, ⟨by decide +kernel, by decide +kernel⟩, by decide +kernel⟩
theorem mv_X6_inBounds : MoV mX6_inBounds := ⟨TT_of (List.mem_of_getElem? (i := 445) (by decide +kernel)) rfl, TT_of (List.mem_of_getElem? (i := 15) (by decide +kernel)) rfl⟩
theorem mo_X6_init : MoI mX6_init 0 := ⟨TT_of (List.mem_of_getElem? (i := 123) (by decide +kernel)) rfl, TT_of (List.mem_of_getElem? (i := 99) (by decide +kernel)) rfl, ⟨by decide +kernel, by decide +kernel⟩, by decide +kernel⟩
theorem mc_X6_init : MoC mX6_init := ⟨TT_of (List.mem_of_getElem? (i := 122) (by decide +kernel)) rfl, rfl⟩
theorem mo_X6_lastCut : MoI mX6_lastCut 0 := ⟨TT_of (List.mem_of_getElem? (i := 433) (by decide +kernel)) rfl, TT_of (List.mem_of_getElem? (i := 99) (by decide +kernel)) rfl, ⟨by decide +kernel, by decide +kernel⟩, by decide +kernel⟩
theorem mv_X6_lastCut : MoV mX6_lastCut := ⟨TT_of (List.mem_of_getElem? (i := 432) (by decide +kernel)) rfl, TT_of (List.mem_of_getElem? (i := 12) (by decide +kernel)) rfl⟩
theorem mo_X6_pairCount : MoI mX6_pairCount 0 := ⟨TT_of (List.mem_of_getElem? (i := 409) (by decide +kernel)) rfl, TT_of (List.mem_of_getElem? (i := 99) (by decide +kernel)) rfl, ⟨by decide +kernel, by decide +kernel⟩, by decide +kernel⟩
theorem mv_X6_pairCount : MoV mX6_pairCount := ⟨TT_of (List.mem_of_getElem? (i := 408) (by decide +kernel)) rfl, TT_of (List.mem_of_getElem? (i := 9) (by decide +kernel)) rfl⟩
theorem mo_X6_pairOf : MoI mX6_pairOf 2 := ⟨TT_of (List.mem_of_getElem? (i := 389) (by decide +kernel)) rfl, TT_of (List.mem_of_getElem? (i := 99) (by decide +kernel)) rfl, ⟨by decide +kernel, by decide +kernel⟩, by decide +kernel⟩
theorem mv_X6_pairOf : MoV mX6_pairOf := ⟨TT_of (List.mem_of_getElem? (i := 388) (by decide +kernel)) rfl, TT_of (List.mem_of_getElem? (i := 5) (by decide +kernel)) rfl⟩
theorem mo_X6_pairsApart : MoI mX6_pairsApart 1 := ⟨TT_of (List.mem_of_getElem? (i := 437) (by decide +kernel)) rfl, TT_of (List.mem_of_getElem? (i := 99) (by decide +kernel)) rfl, ⟨by decide +kernel, by decide +kernel⟩, by decide +kernel⟩
theorem mv_X6_pairsApart : MoV mX6_pairsApart := ⟨TT_of (List.mem_of_getElem? (i := 436) (by decide +kernel)) rfl, TT_of (List.mem_of_getElem? (i := 13) (by decide +kernel)) rfl⟩
theorem mo_X6_shorten : MoI mX6_shorten 0 := ⟨TT_of (List.mem_of_getElem? (i := 458) (by decide +kernel)) rfl, TT_of (List.mem_of_getElem? (i := 99) (by decide +kernel)) rfl, ⟨by decide +kernel, by decide +kernel⟩, by decide +kernel⟩
theorem mv_X6_shorten : MoV mX6_shorten := ⟨TT_of (List.mem_of_getElem? (i := 457) (by decide +kernel)) rfl, TT_of (List.mem_of_getElem? (i := 17) (by decide +kernel)) rfl⟩
theorem mo_X6_total : MoI mX6_total 0 := ⟨TT_of (List.mem_of_getElem? (i := 450) (by decide +kernel)) rfl, TT_of (List.mem_of_getElem? (i := 99) (by decide +kernel)) rfl, ⟨by decide +kernel, by decide +kernel⟩, by decide +kernel⟩
theorem mv_X6_total : MoV mX6_total := ⟨TT_of (List.mem_of_getElem? (i := 449) (by decide +kernel)) rfl, TT_of (List.mem_of_getElem? (i := 16) (by decide +kernel)) rfl⟩
theorem mo_X6_unlike : MoI mX6_unlike 1 := ⟨TT_of (List.mem_of_getElem? (i := 405) (by decide +kernel)) rfl, TT_of (List.mem_of_getElem? (i := 99) (by decide +kernel)) rfl, ⟨by decide +kernel, by decide +kernel⟩, by decide +kernel⟩
theorem mv_X6_unlike : MoV mX6_unlike := ⟨TT_of (List.mem_of_getElem? (i := 404) (by decide +kernel)) rfl, TT_of (List.mem_of_getElem? (i := 8) (by decide +kernel)) rfl⟩
theorem mo_X7_append : MoI mX7_append 1 := ⟨TT_of (List.mem_of_getElem? (i := 715) (by decide +kernel)) rfl, TT_of (List.mem_of_getElem? (i := 102) (by decide +kernel)) rfl, ⟨by decide +kernel, by decide +kernel⟩, by decide +kernel⟩
theorem mv_X7_append : MoV mX7_append := ⟨TT_of (List.mem_of_getElem? (i := 714) (by decide +kernel)) rfl, TT_of (List.mem_of_getElem? (i := 54) (by decide +kernel)) rfl⟩
theorem mo_X7_byteAt : MoI mX7_byteAt 1 := ⟨TT_of (List.mem_of_getElem? (i := 735) (by decide +kernel)) rfl, TT_of (List.mem_of_getElem? (i := 102) (by decide +kernel)) rfl, ⟨by decide +kernel, by decide +kernel⟩, by decide +kernel⟩
theorem mv_X7_byteAt : MoV mX7_byteAt := ⟨TT_of (List.mem_of_getElem? (i := 734) (by decide +kernel)) rfl, TT_of (List.mem_of_getElem? (i := 57) (by decide +kernel)) rfl⟩
theorem mo_X7_figureAt : MoI mX7_figureAt 1 := ⟨TT_of (List.mem_of_getElem? (i := 731) (by decide +kernel)) rfl, TT_of (List.mem_of_getElem? (i := 102) (by decide +kernel)) rfl, ⟨by decide +kernel, by decide +kernel⟩, by decide +kernel⟩
theorem mv_X7_figureAt : MoV mX7_figureAt := ⟨TT_of (List.mem_of_getElem? (i := 730) (by decide +kernel)) rfl, TT_of (List.mem_of_getElem? (i := 56) (by decide +kernel)) rfl⟩
theorem mo_X7_init : MoI mX7_init 0 := ⟨TT_of (List.mem_of_getElem? (i := 180) (by decide +kernel)) rfl, TT_of (List.mem_of_getElem? (i := 102) (by decide +kernel)) rfl, ⟨by decide +kernel, by decide +kernel⟩, by decide +kernel⟩
theorem mc_X7_init : MoC mX7_init := ⟨TT_of (List.mem_of_getElem? (i := 179) (by decide +kernel)) rfl, rfl⟩
theorem mo_X7_parseInto : MoI mX7_parseInto 1 := ⟨TT_of (List.mem_of_getElem? (i := 727) (by decide +kernel)) rfl, TT_of (List.mem_of_getElem? (i := 102) (by decide +kernel)) rfl, ⟨by decide +kernel, by decide +kernel⟩, by decide +kernel⟩
theorem mv_X7_parseInto : MoV mX7_parseInto := ⟨TT_of (List.mem_of_getElem? (i := 726) (by decide +kernel)) rfl, TT_of (List.mem_of_getElem? (i := 55) (by decide +kernel)) rfl⟩
theorem mo_X7_takeFigures : MoI mX7_takeFigures 0 := ⟨TT_of (List.mem_of_getElem? (i := 741) (by decide +kernel)) rfl, TT_of (List.mem_of_getElem? (i := 102) (by decide +kernel)) rfl, ⟨by decide +kernel, by decide +kernel⟩, by decide +kernel⟩
theorem mv_X7_takeFigures : MoV mX7_takeFigures := ⟨TT_of (List.mem_of_getElem? (i := 740) (by decide +kernel)) rfl, TT_of (List.mem_of_getElem? (i := 58) (by decide +kernel)) rfl⟩
theorem mo_X8_carry : MoI mX8_carry 1 := ⟨TT_of (List.mem_of_getElem? (i := 537) (by decide +kernel)) rfl, TT_of (List.mem_of_getElem? (i := 104) (by decide +kernel)) rfl, ⟨by decide +kernel, by decide +kernel⟩, by decide +kernel⟩
theorem mv_X8_carry : MoV mX8_carry := ⟨TT_of (List.mem_of_getElem? (i := 536) (by decide +kernel)) rfl, TT_of (List.mem_of_getElem? (i := 26) (by decide +kernel)) rfl⟩
theorem mo_X8_fillFrom : MoI mX8_fillFrom 1 := ⟨TT_of (List.mem_of_getElem? (i := 526) (by decide +kernel)) rfl, TT_of (List.mem_of_getElem? (i := 104) (by decide +kernel)) rfl, ⟨by decide +kernel, by decide +kernel⟩, by decide +kernel⟩
theorem mv_X8_fillFrom : MoV mX8_fillFrom := ⟨TT_of (List.mem_of_getElem? (i := 525) (by decide +kernel)) rfl, TT_of (List.mem_of_getElem? (i := 24) (by decide +kernel)) rfl⟩
theorem mo_X8_goOn : MoI mX8_goOn 0 := ⟨TT_of (List.mem_of_getElem? (i := 546) (by decide +kernel)) rfl, TT_of (List.mem_of_getElem? (i := 104) (by decide +kernel)) rfl, ⟨by decide +kernel, by decide +kernel⟩, by decide +kernel⟩
theorem mv_X8_goOn : MoV mX8_goOn := ⟨TT_of (List.mem_of_getElem? (i := 545) (by decide +kernel)) rfl, TT_of (List.mem_of_getElem? (i := 28) (by decide +kernel)) rfl⟩
theorem mo_X8_goOnTimes : MoI mX8_goOnTimes 1 := ⟨TT_of (List.mem_of_getElem? (i := 559) (by decide +kernel)) rfl, TT_of (List.mem_of_getElem? (i := 104) (by decide +kernel)) rfl, ⟨by decide +kernel, by decide +kernel⟩, by decide +kernel⟩
theorem mv_X8_goOnTimes : MoV mX8_goOnTimes := ⟨TT_of (List.mem_of_getElem? (i := 558) (by decide +kernel)) rfl, TT_of (List.mem_of_getElem? (i := 30) (by decide +kernel)) rfl⟩
theorem mo_X8_greatestAt : MoI mX8_greatestAt 1 := ⟨TT_of (List.mem_of_getElem? (i := 550) (by decide +kernel)) rfl, TT_of (List.mem_of_getElem? (i := 104) (by decide +kernel)) rfl, ⟨by decide +kernel, by decide +kernel⟩, by decide +kernel⟩
theorem mv_X8_greatestAt : MoV mX8_greatestAt := ⟨TT_of (List.mem_of_getElem? (i := 549) (by decide +kernel)) rfl, TT_of (List.mem_of_getElem? (i := 29) (by decide +kernel)) rfl⟩
theorem mo_X8_init : MoI mX8_init 0 := ⟨TT_of (List.mem_of_getElem? (i := 212) (by decide +kernel)) rfl, TT_of (List.mem_of_getElem? (i := 104) (by decide +kernel)) rfl, ⟨by decide +kernel, by decide +kernel⟩, by decide +kernel⟩
theorem mc_X8_init : MoC mX8_init := ⟨TT_of (List.mem_of_getElem? (i := 211) (by decide +kernel)) rfl, rfl⟩
theorem mo_X8_leastAt : MoI mX8_leastAt 1 := ⟨TT_of (List.mem_of_getElem? (i := 530) (by decide +kernel)) rfl, TT_of (List.mem_of_getElem? (i := 104) (by decide +kernel)) rfl, ⟨by decide +kernel, by decide +kernel⟩, by decide +kernel⟩
theorem mv_X8_leastAt : MoV mX8_leastAt := ⟨TT_of (List.mem_of_getElem? (i := 529) (by decide +kernel)) rfl, TT_of (List.mem_of_getElem? (i := 25) (by decide +kernel)) rfl⟩
theorem mo_X8_start : MoI mX8_start 2 := ⟨TT_of (List.mem_of_getElem? (i := 521) (by decide +kernel)) rfl, TT_of (List.mem_of_getElem? (i := 104) (by decide +kernel)) rfl, ⟨by decide +kernel, by decide +kernel⟩, by decide +kernel⟩
theorem mv_X8_start : MoV mX8_start := ⟨TT_of (List.mem_of_getElem? (i := 520) (by decide +kernel)) rfl, TT_of (List.mem_of_getElem? (i := 23) (by decide +kernel)) rfl⟩
theorem mo_X8_wallValue : MoI mX8_wallValue 0 := ⟨TT_of (List.mem_of_getElem? (i := 542) (by decide +kernel)) rfl, TT_of (List.mem_of_getElem? (i := 104) (by decide +kernel)) rfl, ⟨by decide +kernel, by decide +kernel⟩, by decide +kernel⟩
theorem mv_X8_wallValue : MoV mX8_wallValue := ⟨TT_of (List.mem_of_getElem? (i := 541) (by decide +kernel)) rfl, TT_of (List.mem_of_getElem? (i := 27) (by decide +kernel)) rfl⟩
theorem mo_X9_across : MoI mX9_across 1 := ⟨TT_of (List.mem_of_getElem? (i := 702) (by decide +kernel)) rfl, TT_of (List.mem_of_getElem? (i := 98) (by decide +kernel)) rfl, ⟨by decide +kernel, by decide +kernel⟩, by decide +kernel⟩
theorem mv_X9_across : MoV mX9_across := ⟨TT_of (List.mem_of_getElem? (i := 701) (by decide +kernel)) rfl, TT_of (List.mem_of_getElem? (i := 52) (by decide +kernel)) rfl⟩
theorem mo_X9_at : MoI mX9_at 2 := ⟨TT_of (List.mem_of_getElem? (i := 421) (by decide +kernel)) rfl, TT_of (List.mem_of_getElem? (i := 98) (by decide +kernel)) rfl, ⟨by decide +kernel, by decide +kernel⟩, by decide +kernel⟩
theorem mv_X9_at : MoV mX9_at := ⟨TT_of (List.mem_of_getElem? (i := 419) (by decide +kernel)) rfl, TT_of (List.mem_of_getElem? (i := 420) (by decide +kernel)) rfl⟩
theorem mo_X9_back : MoI mX9_back 0 := ⟨TT_of (List.mem_of_getElem? (i := 487) (by decide +kernel)) rfl, TT_of (List.mem_of_getElem? (i := 98) (by decide +kernel)) rfl, ⟨by decide +kernel, by decide +kernel⟩, by decide +kernel⟩
theorem mv_X9_back : MoV mX9_back := ⟨TT_of (List.mem_of_getElem? (i := 485) (by decide +kernel)) rfl, TT_of (List.mem_of_getElem? (i := 486) (by decide +kernel)) rfl⟩
theorem mo_X9_count : MoI mX9_count 1 := ⟨TT_of (List.mem_of_getElem? (i := 815) (by decide +kernel)) rfl, TT_of (List.mem_of_getElem? (i := 98) (by decide +kernel)) rfl, ⟨by decide +kernel, by decide +kernel⟩, by decide +kernel⟩
theorem mv_X9_count : MoV mX9_count := ⟨TT_of (List.mem_of_getElem? (i := 813) (by decide +kernel)) rfl, TT_of (List.mem_of_getElem? (i := 814) (by decide +kernel)) rfl⟩
theorem mo_X9_cut : MoI mX9_cut 2 := ⟨TT_of (List.mem_of_getElem? (i := 425) (by decide +kernel)) rfl, TT_of (List.mem_of_getElem? (i := 98) (by decide +kernel)) rfl, ⟨by decide +kernel, by decide +kernel⟩, by decide +kernel⟩
theorem mv_X9_cut : MoV mX9_cut := ⟨TT_of (List.mem_of_getElem? (i := 423) (by decide +kernel)) rfl, TT_of (List.mem_of_getElem? (i := 424) (by decide +kernel)) rfl⟩
theorem mo_X9_doDeed : MoI mX9_doDeed 0 := ⟨TT_of (List.mem_of_getElem? (i := 401) (by decide +kernel)) rfl, TT_of (List.mem_of_getElem? (i := 98) (by decide +kernel)) rfl, ⟨by decide +kernel, by decide +kernel⟩, by decide +kernel⟩
theorem mv_X9_doDeed : MoV mX9_doDeed := ⟨TT_of (List.mem_of_getElem? (i := 400) (by decide +kernel)) rfl, TT_of (List.mem_of_getElem? (i := 7) (by decide +kernel)) rfl⟩
theorem mo_X9_doDeedInBounds : MoI mX9_doDeedInBounds 0 := ⟨TT_of (List.mem_of_getElem? (i := 442) (by decide +kernel)) rfl, TT_of (List.mem_of_getElem? (i := 98) (by decide +kernel)) rfl, ⟨by decide +kernel, by decide +kernel⟩, by decide +kernel⟩
theorem mv_X9_doDeedInBounds : MoV mX9_doDeedInBounds := ⟨TT_of (List.mem_of_getElem? (i := 441) (by decide +kernel)) rfl, TT_of (List.mem_of_getElem? (i := 14) (by decide +kernel)) rfl⟩
theorem mo_X9_doubled : MoI mX9_doubled 1 := ⟨TT_of (List.mem_of_getElem? (i := 698) (by decide +kernel)) rfl, TT_of (List.mem_of_getElem? (i := 98) (by decide +kernel)) rfl, ⟨by decide +kernel, by decide +kernel⟩, by decide +kernel⟩
theorem mv_X9_doubled : MoV mX9_doubled := ⟨TT_of (List.mem_of_getElem? (i := 697) (by decide +kernel)) rfl, TT_of (List.mem_of_getElem? (i := 51) (by decide +kernel)) rfl⟩
theorem mo_X9_feed : MoI mX9_feed 2 := ⟨TT_of (List.mem_of_getElem? (i := 711) (by decide +kernel)) rfl, TT_of (List.mem_of_getElem? (i := 98) (by decide +kernel)) rfl, ⟨by decide +kernel, by decide +kernel⟩, by decide +kernel⟩
theorem mv_X9_feed : MoV mX9_feed := ⟨TT_of (List.mem_of_getElem? (i := 709) (by decide +kernel)) rfl, TT_of (List.mem_of_getElem? (i := 710) (by decide +kernel)) rfl⟩
theorem mo_X9_gauge : MoI mX9_gauge 2 := ⟨TT_of (List.mem_of_getElem? (i := 690) (by decide +kernel)) rfl, TT_of (List.mem_of_getElem? (i := 98) (by decide +kernel)) rfl, ⟨by decide +kernel, by decide +kernel⟩, by decide +kernel⟩
theorem mv_X9_gauge : MoV mX9_gauge := ⟨TT_of (List.mem_of_getElem? (i := 688) (by decide +kernel)) rfl, TT_of (List.mem_of_getElem? (i := 689) (by decide +kernel)) rfl⟩
theorem mo_X9_hold : MoI mX9_hold 1 := ⟨TT_of (List.mem_of_getElem? (i := 762) (by decide +kernel)) rfl, TT_of (List.mem_of_getElem? (i := 98) (by decide +kernel)) rfl, ⟨by decide +kernel, by decide +kernel⟩, by decide +kernel⟩
theorem mv_X9_hold : MoV mX9_hold := ⟨TT_of (List.mem_of_getElem? (i := 760) (by decide +kernel)) rfl, TT_of (List.mem_of_getElem? (i := 761) (by decide +kernel)) rfl⟩
theorem mo_X9_holdWall : MoI mX9_holdWall 3 := ⟨TT_of (List.mem_of_getElem? (i := 564) (by decide +kernel)) rfl, TT_of (List.mem_of_getElem? (i := 98) (by decide +kernel)) rfl, ⟨by decide +kernel, by decide +kernel⟩, by decide +kernel⟩
theorem mv_X9_holdWall : MoV mX9_holdWall := ⟨TT_of (List.mem_of_getElem? (i := 562) (by decide +kernel)) rfl, TT_of (List.mem_of_getElem? (i := 563) (by decide +kernel)) rfl⟩
theorem mo_X9_image : MoI mX9_image 0 := ⟨TT_of (List.mem_of_getElem? (i := 802) (by decide +kernel)) rfl, TT_of (List.mem_of_getElem? (i := 98) (by decide +kernel)) rfl, ⟨by decide +kernel, by decide +kernel⟩, by decide +kernel⟩
theorem mv_X9_image : MoV mX9_image := ⟨TT_of (List.mem_of_getElem? (i := 800) (by decide +kernel)) rfl, TT_of (List.mem_of_getElem? (i := 801) (by decide +kernel)) rfl⟩
theorem mo_X9_init : MoI mX9_init 0 := ⟨TT_of (List.mem_of_getElem? (i := 115) (by decide +kernel)) rfl, TT_of (List.mem_of_getElem? (i := 98) (by decide +kernel)) rfl, ⟨by decide +kernel, by decide +kernel⟩, by decide +kernel⟩
theorem mc_X9_init : MoC mX9_init := ⟨TT_of (List.mem_of_getElem? (i := 114) (by decide +kernel)) rfl, rfl⟩
theorem mo_X9_isBrokenTriangle : MoI mX9_isBrokenTriangle 3 := ⟨TT_of (List.mem_of_getElem? (i := 499) (by decide +kernel)) rfl, TT_of (List.mem_of_getElem? (i := 98) (by decide +kernel)) rfl, ⟨by decide +kernel, by decide +kernel⟩, by decide +kernel⟩
theorem mv_X9_isBrokenTriangle : MoV mX9_isBrokenTriangle := ⟨TT_of (List.mem_of_getElem? (i := 498) (by decide +kernel)) rfl, TT_of (List.mem_of_getElem? (i := 21) (by decide +kernel)) rfl⟩
theorem mo_X9_isHolder : MoI mX9_isHolder 1 := ⟨TT_of (List.mem_of_getElem? (i := 567) (by decide +kernel)) rfl, TT_of (List.mem_of_getElem? (i := 98) (by decide +kernel)) rfl, ⟨by decide +kernel, by decide +kernel⟩, by decide +kernel⟩
theorem ms_X9_isHolder : MoS mX9_isHolder := TT_of (List.mem_of_getElem? (i := 566) (by decide +kernel)) rfl
theorem mo_X9_isOddRound : MoI mX9_isOddRound 3 := ⟨TT_of (List.mem_of_getElem? (i := 510) (by decide +kernel)) rfl, TT_of (List.mem_of_getElem? (i := 98) (by decide +kernel)) rfl, ⟨by decide +kernel, by decide +kernel⟩, by decide +kernel⟩
theorem mv_X9_isOddRound : MoV mX9_isOddRound := ⟨TT_of (List.mem_of_getElem? (i := 509) (by decide +kernel)) rfl, TT_of (List.mem_of_getElem? (i := 22) (by decide +kernel)) rfl⟩
theorem mo_X9_isRoot : MoI mX9_isRoot 2 := ⟨TT_of (List.mem_of_getElem? (i := 612) (by decide +kernel)) rfl, TT_of (List.mem_of_getElem? (i := 98) (by decide +kernel)) rfl, ⟨by decide +kernel, by decide +kernel⟩, by decide +kernel⟩
theorem ms_X9_isRoot : MoS mX9_isRoot := TT_of (List.mem_of_getElem? (i := 611) (by decide +kernel)) rfl
theorem mo_X9_isWidth : MoI mX9_isWidth 1 := ⟨TT_of (List.mem_of_getElem? (i := 517) (by decide +kernel)) rfl, TT_of (List.mem_of_getElem? (i := 98) (by decide +kernel)) rfl, ⟨by decide +kernel, by decide +kernel⟩, by decide +kernel⟩
theorem ms_X9_isWidth : MoS mX9_isWidth := TT_of (List.mem_of_getElem? (i := 516) (by decide +kernel)) rfl
theorem mo_X9_judge : MoI mX9_judge 1 := ⟨TT_of (List.mem_of_getElem? (i := 798) (by decide +kernel)) rfl, TT_of (List.mem_of_getElem? (i := 98) (by decide +kernel)) rfl, ⟨by decide +kernel, by decide +kernel⟩, by decide +kernel⟩
theorem mv_X9_judge : MoV mX9_judge := ⟨TT_of (List.mem_of_getElem? (i := 796) (by decide +kernel)) rfl, TT_of (List.mem_of_getElem? (i := 797) (by decide +kernel)) rfl⟩
theorem mo_X9_longest : MoI mX9_longest 1 := ⟨TT_of (List.mem_of_getElem? (i := 706) (by decide +kernel)) rfl, TT_of (List.mem_of_getElem? (i := 98) (by decide +kernel)) rfl, ⟨by decide +kernel, by decide +kernel⟩, by decide +kernel⟩
theorem mv_X9_longest : MoV mX9_longest := ⟨TT_of (List.mem_of_getElem? (i := 705) (by decide +kernel)) rfl, TT_of (List.mem_of_getElem? (i := 53) (by decide +kernel)) rfl⟩
theorem mo_X9_lose : MoI mX9_lose 1 := ⟨TT_of (List.mem_of_getElem? (i := 766) (by decide +kernel)) rfl, TT_of (List.mem_of_getElem? (i := 98) (by decide +kernel)) rfl, ⟨by decide +kernel, by decide +kernel⟩, by decide +kernel⟩
theorem mv_X9_lose : MoV mX9_lose := ⟨TT_of (List.mem_of_getElem? (i := 764) (by decide +kernel)) rfl, TT_of (List.mem_of_getElem? (i := 765) (by decide +kernel)) rfl⟩
theorem mo_X9_number : MoI mX9_number 2 := ⟨TT_of (List.mem_of_getElem? (i := 778) (by decide +kernel)) rfl, TT_of (List.mem_of_getElem? (i := 98) (by decide +kernel)) rfl, ⟨by decide +kernel, by decide +kernel⟩, by decide +kernel⟩
theorem mv_X9_number : MoV mX9_number := ⟨TT_of (List.mem_of_getElem? (i := 776) (by decide +kernel)) rfl, TT_of (List.mem_of_getElem? (i := 777) (by decide +kernel)) rfl⟩
theorem mo_X9_paths : MoI mX9_paths 0 := ⟨TT_of (List.mem_of_getElem? (i := 454) (by decide +kernel)) rfl, TT_of (List.mem_of_getElem? (i := 98) (by decide +kernel)) rfl, ⟨by decide +kernel, by decide +kernel⟩, by decide +kernel⟩
theorem mv_X9_paths : MoV mX9_paths := ⟨TT_of (List.mem_of_getElem? (i := 452) (by decide +kernel)) rfl, TT_of (List.mem_of_getElem? (i := 453) (by decide +kernel)) rfl⟩
theorem mo_X9_place : MoI mX9_place 3 := ⟨TT_of (List.mem_of_getElem? (i := 464) (by decide +kernel)) rfl, TT_of (List.mem_of_getElem? (i := 98) (by decide +kernel)) rfl, ⟨by decide +kernel, by decide +kernel⟩, by decide +kernel⟩
theorem mv_X9_place : MoV mX9_place := ⟨TT_of (List.mem_of_getElem? (i := 462) (by decide +kernel)) rfl, TT_of (List.mem_of_getElem? (i := 463) (by decide +kernel)) rfl⟩
theorem mo_X9_points : MoI mX9_points 1 := ⟨TT_of (List.mem_of_getElem? (i := 360) (by decide +kernel)) rfl, TT_of (List.mem_of_getElem? (i := 98) (by decide +kernel)) rfl, ⟨by decide +kernel, by decide +kernel⟩, by decide +kernel⟩
theorem mv_X9_points : MoV mX9_points := ⟨TT_of (List.mem_of_getElem? (i := 358) (by decide +kernel)) rfl, TT_of (List.mem_of_getElem? (i := 359) (by decide +kernel)) rfl⟩
theorem mo_X9_put : MoI mX9_put 3 := ⟨TT_of (List.mem_of_getElem? (i := 376) (by decide +kernel)) rfl, TT_of (List.mem_of_getElem? (i := 98) (by decide +kernel)) rfl, ⟨by decide +kernel, by decide +kernel⟩, by decide +kernel⟩
theorem mv_X9_put : MoV mX9_put := ⟨TT_of (List.mem_of_getElem? (i := 374) (by decide +kernel)) rfl, TT_of (List.mem_of_getElem? (i := 375) (by decide +kernel)) rfl⟩
theorem mo_X9_read : MoI mX9_read 0 := ⟨TT_of (List.mem_of_getElem? (i := 723) (by decide +kernel)) rfl, TT_of (List.mem_of_getElem? (i := 98) (by decide +kernel)) rfl, ⟨by decide +kernel, by decide +kernel⟩, by decide +kernel⟩
theorem mv_X9_read : MoV mX9_read := ⟨TT_of (List.mem_of_getElem? (i := 721) (by decide +kernel)) rfl, TT_of (List.mem_of_getElem? (i := 722) (by decide +kernel)) rfl⟩
theorem mo_X9_refusalOfKind : MoI mX9_refusalOfKind 2 := ⟨TT_of (List.mem_of_getElem? (i := 587) (by decide +kernel)) rfl, TT_of (List.mem_of_getElem? (i := 98) (by decide +kernel)) rfl, ⟨by decide +kernel, by decide +kernel⟩, by decide +kernel⟩
theorem mv_X9_refusalOfKind : MoV mX9_refusalOfKind := ⟨TT_of (List.mem_of_getElem? (i := 586) (by decide +kernel)) rfl, TT_of (List.mem_of_getElem? (i := 33) (by decide +kernel)) rfl⟩
theorem mo_X9_refusalOfWall : MoI mX9_refusalOfWall 1 := ⟨TT_of (List.mem_of_getElem? (i := 599) (by decide +kernel)) rfl, TT_of (List.mem_of_getElem? (i := 98) (by decide +kernel)) rfl, ⟨by decide +kernel, by decide +kernel⟩, by decide +kernel⟩
theorem mv_X9_refusalOfWall : MoV mX9_refusalOfWall := ⟨TT_of (List.mem_of_getElem? (i := 598) (by decide +kernel)) rfl, TT_of (List.mem_of_getElem? (i := 35) (by decide +kernel)) rfl⟩
theorem mo_X9_root : MoI mX9_root 2 := ⟨TT_of (List.mem_of_getElem? (i := 641) (by decide +kernel)) rfl, TT_of (List.mem_of_getElem? (i := 98) (by decide +kernel)) rfl, ⟨by decide +kernel, by decide +kernel⟩, by decide +kernel⟩
theorem mv_X9_root : MoV mX9_root := ⟨TT_of (List.mem_of_getElem? (i := 639) (by decide +kernel)) rfl, TT_of (List.mem_of_getElem? (i := 640) (by decide +kernel)) rfl⟩
theorem mo_X9_rootCount : MoI mX9_rootCount 1 := ⟨TT_of (List.mem_of_getElem? (i := 608) (by decide +kernel)) rfl, TT_of (List.mem_of_getElem? (i := 98) (by decide +kernel)) rfl, ⟨by decide +kernel, by decide +kernel⟩, by decide +kernel⟩
theorem mv_X9_rootCount : MoV mX9_rootCount := ⟨TT_of (List.mem_of_getElem? (i := 607) (by decide +kernel)) rfl, TT_of (List.mem_of_getElem? (i := 36) (by decide +kernel)) rfl⟩
theorem mo_X9_rootRank : MoI mX9_rootRank 1 := ⟨TT_of (List.mem_of_getElem? (i := 620) (by decide +kernel)) rfl, TT_of (List.mem_of_getElem? (i := 98) (by decide +kernel)) rfl, ⟨by decide +kernel, by decide +kernel⟩, by decide +kernel⟩
theorem mv_X9_rootRank : MoV mX9_rootRank := ⟨TT_of (List.mem_of_getElem? (i := 619) (by decide +kernel)) rfl, TT_of (List.mem_of_getElem? (i := 38) (by decide +kernel)) rfl⟩
theorem mo_X9_roots : MoI mX9_roots 2 := ⟨TT_of (List.mem_of_getElem? (i := 604) (by decide +kernel)) rfl, TT_of (List.mem_of_getElem? (i := 98) (by decide +kernel)) rfl, ⟨by decide +kernel, by decide +kernel⟩, by decide +kernel⟩
theorem mv_X9_roots : MoV mX9_roots := ⟨TT_of (List.mem_of_getElem? (i := 602) (by decide +kernel)) rfl, TT_of (List.mem_of_getElem? (i := 603) (by decide +kernel)) rfl⟩
theorem mo_X9_rounds : MoI mX9_rounds 1 := ⟨TT_of (List.mem_of_getElem? (i := 506) (by decide +kernel)) rfl, TT_of (List.mem_of_getElem? (i := 98) (by decide +kernel)) rfl, ⟨by decide +kernel, by decide +kernel⟩, by decide +kernel⟩
theorem mv_X9_rounds : MoV mX9_rounds := ⟨TT_of (List.mem_of_getElem? (i := 504) (by decide +kernel)) rfl, TT_of (List.mem_of_getElem? (i := 505) (by decide +kernel)) rfl⟩
theorem mo_X9_row : MoI mX9_row 2 := ⟨TT_of (List.mem_of_getElem? (i := 786) (by decide +kernel)) rfl, TT_of (List.mem_of_getElem? (i := 98) (by decide +kernel)) rfl, ⟨by decide +kernel, by decide +kernel⟩, by decide +kernel⟩
theorem mv_X9_row : MoV mX9_row := ⟨TT_of (List.mem_of_getElem? (i := 784) (by decide +kernel)) rfl, TT_of (List.mem_of_getElem? (i := 785) (by decide +kernel)) rfl⟩
theorem mo_X9_set : MoI mX9_set 3 := ⟨TT_of (List.mem_of_getElem? (i := 794) (by decide +kernel)) rfl, TT_of (List.mem_of_getElem? (i := 98) (by decide +kernel)) rfl, ⟨by decide +kernel, by decide +kernel⟩, by decide +kernel⟩
theorem mv_X9_set : MoV mX9_set := ⟨TT_of (List.mem_of_getElem? (i := 792) (by decide +kernel)) rfl, TT_of (List.mem_of_getElem? (i := 793) (by decide +kernel)) rfl⟩
theorem mo_X9_spell : MoI mX9_spell 1 := ⟨TT_of (List.mem_of_getElem? (i := 745) (by decide +kernel)) rfl, TT_of (List.mem_of_getElem? (i := 98) (by decide +kernel)) rfl, ⟨by decide +kernel, by decide +kernel⟩, by decide +kernel⟩
theorem mv_X9_spell : MoV mX9_spell := ⟨TT_of (List.mem_of_getElem? (i := 743) (by decide +kernel)) rfl, TT_of (List.mem_of_getElem? (i := 744) (by decide +kernel)) rfl⟩
theorem mo_X9_stretch : MoI mX9_stretch 1 := ⟨TT_of (List.mem_of_getElem? (i := 483) (by decide +kernel)) rfl, TT_of (List.mem_of_getElem? (i := 98) (by decide +kernel)) rfl, ⟨by decide +kernel, by decide +kernel⟩, by decide +kernel⟩
theorem mv_X9_stretch : MoV mX9_stretch := ⟨TT_of (List.mem_of_getElem? (i := 481) (by decide +kernel)) rfl, TT_of (List.mem_of_getElem? (i := 482) (by decide +kernel)) rfl⟩
theorem mo_X9_sum : MoI mX9_sum 2 := ⟨TT_of (List.mem_of_getElem? (i := 653) (by decide +kernel)) rfl, TT_of (List.mem_of_getElem? (i := 98) (by decide +kernel)) rfl, ⟨by decide +kernel, by decide +kernel⟩, by decide +kernel⟩
theorem mv_X9_sum : MoV mX9_sum := ⟨TT_of (List.mem_of_getElem? (i := 651) (by decide +kernel)) rfl, TT_of (List.mem_of_getElem? (i := 652) (by decide +kernel)) rfl⟩
theorem mo_X9_switched : MoI mX9_switched 2 := ⟨TT_of (List.mem_of_getElem? (i := 645) (by decide +kernel)) rfl, TT_of (List.mem_of_getElem? (i := 98) (by decide +kernel)) rfl, ⟨by decide +kernel, by decide +kernel⟩, by decide +kernel⟩
theorem mv_X9_switched : MoV mX9_switched := ⟨TT_of (List.mem_of_getElem? (i := 643) (by decide +kernel)) rfl, TT_of (List.mem_of_getElem? (i := 644) (by decide +kernel)) rfl⟩
theorem mo_X9_taken : MoI mX9_taken 2 := ⟨TT_of (List.mem_of_getElem? (i := 770) (by decide +kernel)) rfl, TT_of (List.mem_of_getElem? (i := 98) (by decide +kernel)) rfl, ⟨by decide +kernel, by decide +kernel⟩, by decide +kernel⟩
theorem mv_X9_taken : MoV mX9_taken := ⟨TT_of (List.mem_of_getElem? (i := 768) (by decide +kernel)) rfl, TT_of (List.mem_of_getElem? (i := 769) (by decide +kernel)) rfl⟩
theorem mo_X9_told : MoI mX9_told 3 := ⟨TT_of (List.mem_of_getElem? (i := 502) (by decide +kernel)) rfl, TT_of (List.mem_of_getElem? (i := 98) (by decide +kernel)) rfl, ⟨by decide +kernel, by decide +kernel⟩, by decide +kernel⟩
theorem ms_X9_told : MoS mX9_told := TT_of (List.mem_of_getElem? (i := 501) (by decide +kernel)) rfl
theorem mo_X9_town : MoI mX9_town 0 := ⟨TT_of (List.mem_of_getElem? (i := 472) (by decide +kernel)) rfl, TT_of (List.mem_of_getElem? (i := 98) (by decide +kernel)) rfl, ⟨by decide +kernel, by decide +kernel⟩, by decide +kernel⟩
theorem mv_X9_town : MoV mX9_town := ⟨TT_of (List.mem_of_getElem? (i := 470) (by decide +kernel)) rfl, TT_of (List.mem_of_getElem? (i := 471) (by decide +kernel)) rfl⟩
theorem mo_X9_triangles : MoI mX9_triangles 1 := ⟨TT_of (List.mem_of_getElem? (i := 495) (by decide +kernel)) rfl, TT_of (List.mem_of_getElem? (i := 98) (by decide +kernel)) rfl, ⟨by decide +kernel, by decide +kernel⟩, by decide +kernel⟩
theorem mv_X9_triangles : MoV mX9_triangles := ⟨TT_of (List.mem_of_getElem? (i := 493) (by decide +kernel)) rfl, TT_of (List.mem_of_getElem? (i := 494) (by decide +kernel)) rfl⟩
theorem mo_X9_undo : MoI mX9_undo 0 := ⟨TT_of (List.mem_of_getElem? (i := 811) (by decide +kernel)) rfl, TT_of (List.mem_of_getElem? (i := 98) (by decide +kernel)) rfl, ⟨by decide +kernel, by decide +kernel⟩, by decide +kernel⟩
theorem mv_X9_undo : MoV mX9_undo := ⟨TT_of (List.mem_of_getElem? (i := 809) (by decide +kernel)) rfl, TT_of (List.mem_of_getElem? (i := 810) (by decide +kernel)) rfl⟩
theorem mo_X9_value : MoI mX9_value 1 := ⟨TT_of (List.mem_of_getElem? (i := 595) (by decide +kernel)) rfl, TT_of (List.mem_of_getElem? (i := 98) (by decide +kernel)) rfl, ⟨by decide +kernel, by decide +kernel⟩, by decide +kernel⟩
theorem mv_X9_value : MoV mX9_value := ⟨TT_of (List.mem_of_getElem? (i := 593) (by decide +kernel)) rfl, TT_of (List.mem_of_getElem? (i := 594) (by decide +kernel)) rfl⟩
theorem mo_X9_wall : MoI mX9_wall 3 := ⟨TT_of (List.mem_of_getElem? (i := 555) (by decide +kernel)) rfl, TT_of (List.mem_of_getElem? (i := 98) (by decide +kernel)) rfl, ⟨by decide +kernel, by decide +kernel⟩, by decide +kernel⟩
theorem mv_X9_wall : MoV mX9_wall := ⟨TT_of (List.mem_of_getElem? (i := 553) (by decide +kernel)) rfl, TT_of (List.mem_of_getElem? (i := 554) (by decide +kernel)) rfl⟩
theorem mo_X9_wallOf : MoI mX9_wallOf 2 := ⟨TT_of (List.mem_of_getElem? (i := 583) (by decide +kernel)) rfl, TT_of (List.mem_of_getElem? (i := 98) (by decide +kernel)) rfl, ⟨by decide +kernel, by decide +kernel⟩, by decide +kernel⟩
theorem mv_X9_wallOf : MoV mX9_wallOf := ⟨TT_of (List.mem_of_getElem? (i := 581) (by decide +kernel)) rfl, TT_of (List.mem_of_getElem? (i := 582) (by decide +kernel)) rfl⟩
theorem mo_X9_walls : MoI mX9_walls 2 := ⟨TT_of (List.mem_of_getElem? (i := 514) (by decide +kernel)) rfl, TT_of (List.mem_of_getElem? (i := 98) (by decide +kernel)) rfl, ⟨by decide +kernel, by decide +kernel⟩, by decide +kernel⟩
theorem mv_X9_walls : MoV mX9_walls := ⟨TT_of (List.mem_of_getElem? (i := 512) (by decide +kernel)) rfl, TT_of (List.mem_of_getElem? (i := 513) (by decide +kernel)) rfl⟩
theorem mo_X9_wipe : MoI mX9_wipe 0 := ⟨TT_of (List.mem_of_getElem? (i := 719) (by decide +kernel)) rfl, TT_of (List.mem_of_getElem? (i := 98) (by decide +kernel)) rfl, ⟨by decide +kernel, by decide +kernel⟩, by decide +kernel⟩
theorem mv_X9_wipe : MoV mX9_wipe := ⟨TT_of (List.mem_of_getElem? (i := 717) (by decide +kernel)) rfl, TT_of (List.mem_of_getElem? (i := 718) (by decide +kernel)) rfl⟩
theorem mo_X9_within : MoI mX9_within 1 := ⟨TT_of (List.mem_of_getElem? (i := 694) (by decide +kernel)) rfl, TT_of (List.mem_of_getElem? (i := 98) (by decide +kernel)) rfl, ⟨by decide +kernel, by decide +kernel⟩, by decide +kernel⟩
theorem mv_X9_within : MoV mX9_within := ⟨TT_of (List.mem_of_getElem? (i := 693) (by decide +kernel)) rfl, TT_of (List.mem_of_getElem? (i := 50) (by decide +kernel)) rfl⟩
theorem cl_RX10_103 : Cond.constantLong RX10 103 2 ∈ TT := TT_of (List.mem_of_getElem? (i := 923) (by decide +kernel)) rfl
theorem cl_RX10_105 : Cond.constantLong RX10 105 6 ∈ TT := TT_of (List.mem_of_getElem? (i := 924) (by decide +kernel)) rfl
theorem cl_RX10_110 : Cond.constantLong RX10 110 999 ∈ TT := TT_of (List.mem_of_getElem? (i := 940) (by decide +kernel)) rfl
theorem cl_RX10_125 : Cond.constantLong RX10 125 (-99) ∈ TT := TT_of (List.mem_of_getElem? (i := 972) (by decide +kernel)) rfl
theorem cl_RX10_127 : Cond.constantLong RX10 127 99 ∈ TT := TT_of (List.mem_of_getElem? (i := 973) (by decide +kernel)) rfl
theorem cl_RX10_144 : Cond.constantLong RX10 144 (-3) ∈ TT := TT_of (List.mem_of_getElem? (i := 1033) (by decide +kernel)) rfl
theorem cl_RX10_146 : Cond.constantLong RX10 146 3 ∈ TT := TT_of (List.mem_of_getElem? (i := 1023) (by decide +kernel)) rfl
theorem cl_RX10_153 : Cond.constantLong RX10 153 4 ∈ TT := TT_of (List.mem_of_getElem? (i := 1024) (by decide +kernel)) rfl
theorem cl_RX10_170 : Cond.constantLong RX10 170 5 ∈ TT := TT_of (List.mem_of_getElem? (i := 1057) (by decide +kernel)) rfl
theorem cl_RX10_185 : Cond.constantLong RX10 185 (-9223372036854775808) ∈ TT := TT_of (List.mem_of_getElem? (i := 1079) (by decide +kernel)) rfl
theorem cl_RX10_229 : Cond.constantLong RX10 229 9999 ∈ TT := TT_of (List.mem_of_getElem? (i := 1115) (by decide +kernel)) rfl
theorem cl_RX10_231 : Cond.constantLong RX10 231 (-1) ∈ TT := TT_of (List.mem_of_getElem? (i := 1116) (by decide +kernel)) rfl
theorem cl_RX10_248 : Cond.constantLong RX10 248 48 ∈ TT := TT_of (List.mem_of_getElem? (i := 1167) (by decide +kernel)) rfl
theorem cl_RX10_250 : Cond.constantLong RX10 250 57 ∈ TT := TT_of (List.mem_of_getElem? (i := 1168) (by decide +kernel)) rfl
theorem cl_RX10_252 : Cond.constantLong RX10 252 50 ∈ TT := TT_of (List.mem_of_getElem? (i := 1157) (by decide +kernel)) rfl
theorem cl_RX10_254 : Cond.constantLong RX10 254 54 ∈ TT := TT_of (List.mem_of_getElem? (i := 1158) (by decide +kernel)) rfl
theorem cl_RX3_41 : Cond.constantLong RX3 41 1000003 ∈ TT := TT_of (List.mem_of_getElem? (i := 634) (by decide +kernel)) rfl
theorem cl_RX9_228 : Cond.constantLong RX9 228 (-9223372036854775808) ∈ TT := TT_of (List.mem_of_getElem? (i := 600) (by decide +kernel)) rfl
theorem ml_RX0_3 : Cond.methodLink RX0 3 objectInit ∈ TT := TT_of (List.mem_of_getElem? (i := 159) (by decide +kernel)) rfl
theorem ml_RX0_29 : Cond.methodLink RX0 29 Lib.Math.min.name ∈ TT := TT_of (List.mem_of_getElem? (i := 415) (by decide +kernel)) rfl
theorem ml_RX1_3 : Cond.methodLink RX1 3 objectInit ∈ TT := TT_of (List.mem_of_getElem? (i := 299) (by decide +kernel)) rfl
theorem ml_RX1_25 : Cond.methodLink RX1 25 Lib.Math.min.name ∈ TT := TT_of (List.mem_of_getElem? (i := 572) (by decide +kernel)) rfl
theorem ml_RX1_31 : Cond.methodLink RX1 31 arraycopyName ∈ TT := TT_of (List.mem_of_getElem? (i := 573) (by decide +kernel)) rfl
theorem ml_RX1_37 : Cond.methodLink RX1 37 Lib.Math.abs.name ∈ TT := TT_of (List.mem_of_getElem? (i := 578) (by decide +kernel)) rfl
theorem ml_RX1_41 : Cond.methodLink RX1 41 Lib.Math.max.name ∈ TT := TT_of (List.mem_of_getElem? (i := 579) (by decide +kernel)) rfl
theorem ml_RX10_3 : Cond.methodLink RX10 3 objectInit ∈ TT := TT_of (List.mem_of_getElem? (i := 821) (by decide +kernel)) rfl
theorem ml_RX10_148 : Cond.methodLink RX10 148 Lib.Math.max.name ∈ TT := TT_of (List.mem_of_getElem? (i := 1066) (by decide +kernel)) rfl
theorem ml_RX10_203 : Cond.methodLink RX10 203 Lib.Math.min.name ∈ TT := TT_of (List.mem_of_getElem? (i := 1129) (by decide +kernel)) rfl
theorem ml_RX10_233 : Cond.methodLink RX10 233 Lib.MathLoose.max_long.x ∈ TT := TT_of (List.mem_of_getElem? (i := 1138) (by decide +kernel)) rfl
theorem ml_RX2_3 : Cond.methodLink RX2 3 objectInit ∈ TT := TT_of (List.mem_of_getElem? (i := 144) (by decide +kernel)) rfl
theorem ml_RX2_18 : Cond.methodLink RX2 18 Lib.Math.abs.name ∈ TT := TT_of (List.mem_of_getElem? (i := 477) (by decide +kernel)) rfl
theorem ml_RX2_24 : Cond.methodLink RX2 24 arraycopyName ∈ TT := TT_of (List.mem_of_getElem? (i := 807) (by decide +kernel)) rfl
theorem ml_RX3_3 : Cond.methodLink RX3 3 objectInit ∈ TT := TT_of (List.mem_of_getElem? (i := 273) (by decide +kernel)) rfl
theorem ml_RX3_31 : Cond.methodLink RX3 31 arraycopyName ∈ TT := TT_of (List.mem_of_getElem? (i := 629) (by decide +kernel)) rfl
theorem ml_RX4_3 : Cond.methodLink RX4 3 objectInit ∈ TT := TT_of (List.mem_of_getElem? (i := 198) (by decide +kernel)) rfl
theorem ml_RX5_3 : Cond.methodLink RX5 3 objectInit ∈ TT := TT_of (List.mem_of_getElem? (i := 250) (by decide +kernel)) rfl
theorem ml_RX5_56 : Cond.methodLink RX5 56 arraycopyName ∈ TT := TT_of (List.mem_of_getElem? (i := 663) (by decide +kernel)) rfl
theorem ml_RX5_67 : Cond.methodLink RX5 67 Lib.Math.min.name ∈ TT := TT_of (List.mem_of_getElem? (i := 670) (by decide +kernel)) rfl
theorem ml_RX6_3 : Cond.methodLink RX6 3 objectInit ∈ TT := TT_of (List.mem_of_getElem? (i := 124) (by decide +kernel)) rfl
theorem ml_RX6_37 : Cond.methodLink RX6 37 Lib.Math.min.name ∈ TT := TT_of (List.mem_of_getElem? (i := 460) (by decide +kernel)) rfl
theorem ml_RX6_42 : Cond.methodLink RX6 42 arraycopyName ∈ TT := TT_of (List.mem_of_getElem? (i := 394) (by decide +kernel)) rfl
theorem ml_RX7_3 : Cond.methodLink RX7 3 objectInit ∈ TT := TT_of (List.mem_of_getElem? (i := 181) (by decide +kernel)) rfl
theorem ml_RX8_3 : Cond.methodLink RX8 3 objectInit ∈ TT := TT_of (List.mem_of_getElem? (i := 213) (by decide +kernel)) rfl
theorem ml_RX8_66 : Cond.methodLink RX8 66 Lib.Math.max.name ∈ TT := TT_of (List.mem_of_getElem? (i := 531) (by decide +kernel)) rfl
theorem ml_RX8_72 : Cond.methodLink RX8 72 Lib.Math.min.name ∈ TT := TT_of (List.mem_of_getElem? (i := 551) (by decide +kernel)) rfl
theorem ml_RX9_3 : Cond.methodLink RX9 3 objectInit ∈ TT := TT_of (List.mem_of_getElem? (i := 116) (by decide +kernel)) rfl
theorem ml_RX9_278 : Cond.methodLink RX9 278 Lib.Math.max.name ∈ TT := TT_of (List.mem_of_getElem? (i := 707) (by decide +kernel)) rfl
theorem jm_max : Cond.static Lib.Math.max.name ∈ TT ∧ Cond.initialized "java/lang/Math" ∈ TT ∧ Cond.code Lib.Math.max.name Lib.Math.max.code 2 (some .int) ∈ TT := ⟨TT_of (List.mem_of_getElem? (i := 532) (by decide +kernel)) rfl, TT_of (List.mem_of_getElem? (i := 110) (by decide +kernel)) rfl, TT_of (List.mem_of_getElem? (i := 533) (by decide +kernel)) rfl⟩
theorem jm_min : Cond.static Lib.Math.min.name ∈ TT ∧ Cond.initialized "java/lang/Math" ∈ TT ∧ Cond.code Lib.Math.min.name Lib.Math.min.code 2 (some .int) ∈ TT := ⟨TT_of (List.mem_of_getElem? (i := 416) (by decide +kernel)) rfl, TT_of (List.mem_of_getElem? (i := 110) (by decide +kernel)) rfl, TT_of (List.mem_of_getElem? (i := 417) (by decide +kernel)) rfl⟩
theorem jm_abs : Cond.static Lib.Math.abs.name ∈ TT ∧ Cond.initialized "java/lang/Math" ∈ TT ∧ Cond.code Lib.Math.abs.name Lib.Math.abs.code 1 (some .int) ∈ TT := ⟨TT_of (List.mem_of_getElem? (i := 478) (by decide +kernel)) rfl, TT_of (List.mem_of_getElem? (i := 110) (by decide +kernel)) rfl, TT_of (List.mem_of_getElem? (i := 479) (by decide +kernel)) rfl⟩
theorem jm_maxl : Cond.static Lib.MathLoose.max_long.x ∈ TT ∧ Cond.initialized "java/lang/Math" ∈ TT ∧ Cond.code Lib.MathLoose.max_long.x Lib.MathLoose.max_long.code 4 (some .long) ∈ TT := ⟨TT_of (List.mem_of_getElem? (i := 1139) (by decide +kernel)) rfl, TT_of (List.mem_of_getElem? (i := 110) (by decide +kernel)) rfl, TT_of (List.mem_of_getElem? (i := 1140) (by decide +kernel)) rfl⟩
theorem jm_copy : Cond.native arraycopyName ∈ TT ∧ Cond.static arraycopyName ∈ TT ∧ Cond.initialized "java/lang/System" ∈ TT := ⟨TT_of (List.mem_of_getElem? (i := 396) (by decide +kernel)) rfl, TT_of (List.mem_of_getElem? (i := 395) (by decide +kernel)) rfl, TT_of (List.mem_of_getElem? (i := 109) (by decide +kernel)) rfl⟩
theorem jm_obj : Cond.instanceMethod objectInit ∈ TT ∧ Cond.code objectInit ⟨#[0xb1]⟩ 1 none ∈ TT := ⟨TT_of (List.mem_of_getElem? (i := 117) (by decide +kernel)) rfl, TT_of (List.mem_of_getElem? (i := 118) (by decide +kernel)) rfl⟩
theorem jm_arr_int : Cond.arrayClass .int ∈ TT := TT_of (List.mem_of_getElem? (i := 138) (by decide +kernel)) rfl
theorem jm_arr_long : Cond.arrayClass .long ∈ TT := TT_of (List.mem_of_getElem? (i := 293) (by decide +kernel)) rfl
theorem jm_arr_boolean : Cond.arrayClass .boolean ∈ TT := TT_of (List.mem_of_getElem? (i := 294) (by decide +kernel)) rfl
