/-! words that the constructors link, by wip/whole/mkinit.py -/
theorem tw_99 : (.initialized "CutDistances$Table" : Cond) ∈ TT := TT_of (List.mem_of_getElem? (i := 99) (by decide +kernel)) rfl
theorem tw_100 : (.initialized "CutDistances$Places" : Cond) ∈ TT := TT_of (List.mem_of_getElem? (i := 100) (by decide +kernel)) rfl
theorem tw_101 : (.initialized "CutDistances$Deeds" : Cond) ∈ TT := TT_of (List.mem_of_getElem? (i := 101) (by decide +kernel)) rfl
theorem tw_102 : (.initialized "CutDistances$Tape" : Cond) ∈ TT := TT_of (List.mem_of_getElem? (i := 102) (by decide +kernel)) rfl
theorem tw_103 : (.initialized "CutDistances$Speller" : Cond) ∈ TT := TT_of (List.mem_of_getElem? (i := 103) (by decide +kernel)) rfl
theorem tw_104 : (.initialized "CutDistances$WallWalk" : Cond) ∈ TT := TT_of (List.mem_of_getElem? (i := 104) (by decide +kernel)) rfl
theorem tw_105 : (.initialized "CutDistances$SumSearch" : Cond) ∈ TT := TT_of (List.mem_of_getElem? (i := 105) (by decide +kernel)) rfl
theorem tw_106 : (.initialized "CutDistances$RankCounter" : Cond) ∈ TT := TT_of (List.mem_of_getElem? (i := 106) (by decide +kernel)) rfl
theorem tw_107 : (.initialized "CutDistances$Holder" : Cond) ∈ TT := TT_of (List.mem_of_getElem? (i := 107) (by decide +kernel)) rfl
theorem tw_116 : (.methodLink "CutDistances" 3 ⟨"java/lang/Object","<init>","()V"⟩ : Cond) ∈ TT := TT_of (List.mem_of_getElem? (i := 116) (by decide +kernel)) rfl
theorem tw_117 : (.instanceMethod ⟨"java/lang/Object","<init>","()V"⟩ : Cond) ∈ TT := TT_of (List.mem_of_getElem? (i := 117) (by decide +kernel)) rfl
theorem tw_118 : (.code ⟨"java/lang/Object","<init>","()V"⟩ object_method_1_code 1 (none : Option Jvm.ClassFile.FieldType) : Cond) ∈ TT := TT_of (List.mem_of_getElem? (i := 118) (by decide +kernel)) rfl
theorem tw_119 : (.classLink "CutDistances" 9 "CutDistances$Table" : Cond) ∈ TT := TT_of (List.mem_of_getElem? (i := 119) (by decide +kernel)) rfl
theorem tw_120 : (.instantiable "CutDistances$Table" 2 : Cond) ∈ TT := TT_of (List.mem_of_getElem? (i := 120) (by decide +kernel)) rfl
theorem tw_124 : (.methodLink "CutDistances$Table" 3 ⟨"java/lang/Object","<init>","()V"⟩ : Cond) ∈ TT := TT_of (List.mem_of_getElem? (i := 124) (by decide +kernel)) rfl
theorem tw_129 : (.fieldLink "CutDistances$Table" 15 "CutDistances$Table" "far" "[I" : Cond) ∈ TT := TT_of (List.mem_of_getElem? (i := 129) (by decide +kernel)) rfl
theorem tw_138 : (.arrayClass .int : Cond) ∈ TT := TT_of (List.mem_of_getElem? (i := 138) (by decide +kernel)) rfl
theorem tw_139 : (.classLink "CutDistances" 21 "CutDistances$Places" : Cond) ∈ TT := TT_of (List.mem_of_getElem? (i := 139) (by decide +kernel)) rfl
theorem tw_140 : (.instantiable "CutDistances$Places" 2 : Cond) ∈ TT := TT_of (List.mem_of_getElem? (i := 140) (by decide +kernel)) rfl
theorem tw_144 : (.methodLink "CutDistances$Places" 3 ⟨"java/lang/Object","<init>","()V"⟩ : Cond) ∈ TT := TT_of (List.mem_of_getElem? (i := 144) (by decide +kernel)) rfl
theorem tw_145 : (.fieldLink "CutDistances$Places" 9 "CutDistances$Places" "x" "[I" : Cond) ∈ TT := TT_of (List.mem_of_getElem? (i := 145) (by decide +kernel)) rfl
theorem tw_147 : (.fieldLink "CutDistances$Places" 15 "CutDistances$Places" "y" "[I" : Cond) ∈ TT := TT_of (List.mem_of_getElem? (i := 147) (by decide +kernel)) rfl
theorem tw_154 : (.classLink "CutDistances" 28 "CutDistances$Deeds" : Cond) ∈ TT := TT_of (List.mem_of_getElem? (i := 154) (by decide +kernel)) rfl
theorem tw_155 : (.instantiable "CutDistances$Deeds" 3 : Cond) ∈ TT := TT_of (List.mem_of_getElem? (i := 155) (by decide +kernel)) rfl
theorem tw_159 : (.methodLink "CutDistances$Deeds" 3 ⟨"java/lang/Object","<init>","()V"⟩ : Cond) ∈ TT := TT_of (List.mem_of_getElem? (i := 159) (by decide +kernel)) rfl
theorem tw_160 : (.classLink "CutDistances$Deeds" 9 "CutDistances$Table" : Cond) ∈ TT := TT_of (List.mem_of_getElem? (i := 160) (by decide +kernel)) rfl
theorem tw_161 : (.arrayOver (.object "CutDistances$Table") : Cond) ∈ NN := NN_of (List.mem_of_getElem? (i := 161) (by decide +kernel)) rfl
theorem tw_163 : (.fieldLink "CutDistances$Deeds" 11 "CutDistances$Deeds" "ahead" "[LCutDistances$Table;" : Cond) ∈ TT := TT_of (List.mem_of_getElem? (i := 163) (by decide +kernel)) rfl
theorem tw_174 : (.classLink "CutDistances" 45 "CutDistances$Holder" : Cond) ∈ TT := TT_of (List.mem_of_getElem? (i := 174) (by decide +kernel)) rfl
theorem tw_175 : (.arrayOver (.object "CutDistances$Holder") : Cond) ∈ NN := NN_of (List.mem_of_getElem? (i := 175) (by decide +kernel)) rfl
theorem tw_176 : (.classLink "CutDistances" 51 "CutDistances$Tape" : Cond) ∈ TT := TT_of (List.mem_of_getElem? (i := 176) (by decide +kernel)) rfl
theorem tw_177 : (.instantiable "CutDistances$Tape" 3 : Cond) ∈ TT := TT_of (List.mem_of_getElem? (i := 177) (by decide +kernel)) rfl
theorem tw_181 : (.methodLink "CutDistances$Tape" 3 ⟨"java/lang/Object","<init>","()V"⟩ : Cond) ∈ TT := TT_of (List.mem_of_getElem? (i := 181) (by decide +kernel)) rfl
theorem tw_182 : (.fieldLink "CutDistances$Tape" 9 "CutDistances$Tape" "bytes" "[I" : Cond) ∈ TT := TT_of (List.mem_of_getElem? (i := 182) (by decide +kernel)) rfl
theorem tw_193 : (.classLink "CutDistances" 58 "CutDistances$Speller" : Cond) ∈ TT := TT_of (List.mem_of_getElem? (i := 193) (by decide +kernel)) rfl
theorem tw_194 : (.instantiable "CutDistances$Speller" 2 : Cond) ∈ TT := TT_of (List.mem_of_getElem? (i := 194) (by decide +kernel)) rfl
theorem tw_198 : (.methodLink "CutDistances$Speller" 3 ⟨"java/lang/Object","<init>","()V"⟩ : Cond) ∈ TT := TT_of (List.mem_of_getElem? (i := 198) (by decide +kernel)) rfl
theorem tw_199 : (.fieldLink "CutDistances$Speller" 9 "CutDistances$Speller" "bytes" "[I" : Cond) ∈ TT := TT_of (List.mem_of_getElem? (i := 199) (by decide +kernel)) rfl
theorem tw_208 : (.classLink "CutDistances" 65 "CutDistances$WallWalk" : Cond) ∈ TT := TT_of (List.mem_of_getElem? (i := 208) (by decide +kernel)) rfl
theorem tw_209 : (.instantiable "CutDistances$WallWalk" 8 : Cond) ∈ TT := TT_of (List.mem_of_getElem? (i := 209) (by decide +kernel)) rfl
theorem tw_213 : (.methodLink "CutDistances$WallWalk" 3 ⟨"java/lang/Object","<init>","()V"⟩ : Cond) ∈ TT := TT_of (List.mem_of_getElem? (i := 213) (by decide +kernel)) rfl
theorem tw_214 : (.classLink "CutDistances$WallWalk" 9 "CutDistances$Table" : Cond) ∈ TT := TT_of (List.mem_of_getElem? (i := 214) (by decide +kernel)) rfl
theorem tw_216 : (.classLink "CutDistances$WallWalk" 39 "[[I" : Cond) ∈ TT := TT_of (List.mem_of_getElem? (i := 216) (by decide +kernel)) rfl
theorem tw_217 : (.arrayOver (.array .int) : Cond) ∈ NN := NN_of (List.mem_of_getElem? (i := 217) (by decide +kernel)) rfl
theorem tw_218 : (.fieldLink "CutDistances$WallWalk" 12 "CutDistances$WallWalk" "table" "LCutDistances$Table;" : Cond) ∈ TT := TT_of (List.mem_of_getElem? (i := 218) (by decide +kernel)) rfl
theorem tw_223 : (.fieldLink "CutDistances$WallWalk" 29 "CutDistances$WallWalk" "b" "[I" : Cond) ∈ TT := TT_of (List.mem_of_getElem? (i := 223) (by decide +kernel)) rfl
theorem tw_225 : (.fieldLink "CutDistances$WallWalk" 33 "CutDistances$WallWalk" "rest" "[I" : Cond) ∈ TT := TT_of (List.mem_of_getElem? (i := 225) (by decide +kernel)) rfl
theorem tw_226 : (.fieldLink "CutDistances$WallWalk" 36 "CutDistances$WallWalk" "frontValue" "[I" : Cond) ∈ TT := TT_of (List.mem_of_getElem? (i := 226) (by decide +kernel)) rfl
theorem tw_227 : (.fieldLink "CutDistances$WallWalk" 41 "CutDistances$WallWalk" "pull" "[[I" : Cond) ∈ TT := TT_of (List.mem_of_getElem? (i := 227) (by decide +kernel)) rfl
theorem tw_245 : (.classLink "CutDistances" 72 "CutDistances$SumSearch" : Cond) ∈ TT := TT_of (List.mem_of_getElem? (i := 245) (by decide +kernel)) rfl
theorem tw_246 : (.instantiable "CutDistances$SumSearch" 5 : Cond) ∈ TT := TT_of (List.mem_of_getElem? (i := 246) (by decide +kernel)) rfl
theorem tw_250 : (.methodLink "CutDistances$SumSearch" 3 ⟨"java/lang/Object","<init>","()V"⟩ : Cond) ∈ TT := TT_of (List.mem_of_getElem? (i := 250) (by decide +kernel)) rfl
theorem tw_251 : (.fieldLink "CutDistances$SumSearch" 9 "CutDistances$SumSearch" "numbers" "[I" : Cond) ∈ TT := TT_of (List.mem_of_getElem? (i := 251) (by decide +kernel)) rfl
theorem tw_253 : (.fieldLink "CutDistances$SumSearch" 15 "CutDistances$SumSearch" "apart" "[I" : Cond) ∈ TT := TT_of (List.mem_of_getElem? (i := 253) (by decide +kernel)) rfl
theorem tw_254 : (.fieldLink "CutDistances$SumSearch" 18 "CutDistances$SumSearch" "left" "[I" : Cond) ∈ TT := TT_of (List.mem_of_getElem? (i := 254) (by decide +kernel)) rfl
theorem tw_268 : (.classLink "CutDistances" 79 "CutDistances$RankCounter" : Cond) ∈ TT := TT_of (List.mem_of_getElem? (i := 268) (by decide +kernel)) rfl
theorem tw_269 : (.instantiable "CutDistances$RankCounter" 5 : Cond) ∈ TT := TT_of (List.mem_of_getElem? (i := 269) (by decide +kernel)) rfl
theorem tw_273 : (.methodLink "CutDistances$RankCounter" 3 ⟨"java/lang/Object","<init>","()V"⟩ : Cond) ∈ TT := TT_of (List.mem_of_getElem? (i := 273) (by decide +kernel)) rfl
theorem tw_274 : (.classLink "CutDistances$RankCounter" 9 "[[J" : Cond) ∈ TT := TT_of (List.mem_of_getElem? (i := 274) (by decide +kernel)) rfl
theorem tw_275 : (.arrayOver (.array .long) : Cond) ∈ NN := NN_of (List.mem_of_getElem? (i := 275) (by decide +kernel)) rfl
theorem tw_276 : (.fieldLink "CutDistances$RankCounter" 11 "CutDistances$RankCounter" "base" "[[J" : Cond) ∈ TT := TT_of (List.mem_of_getElem? (i := 276) (by decide +kernel)) rfl
theorem tw_277 : (.fieldLink "CutDistances$RankCounter" 16 "CutDistances$RankCounter" "fresh" "[J" : Cond) ∈ TT := TT_of (List.mem_of_getElem? (i := 277) (by decide +kernel)) rfl
theorem tw_278 : (.fieldLink "CutDistances$RankCounter" 20 "CutDistances$RankCounter" "hasBase" "[Z" : Cond) ∈ TT := TT_of (List.mem_of_getElem? (i := 278) (by decide +kernel)) rfl
theorem tw_293 : (.arrayClass .long : Cond) ∈ TT := TT_of (List.mem_of_getElem? (i := 293) (by decide +kernel)) rfl
theorem tw_294 : (.arrayClass .boolean : Cond) ∈ TT := TT_of (List.mem_of_getElem? (i := 294) (by decide +kernel)) rfl
theorem tw_295 : (.instantiable "CutDistances$Holder" 4 : Cond) ∈ TT := TT_of (List.mem_of_getElem? (i := 295) (by decide +kernel)) rfl
theorem tw_299 : (.methodLink "CutDistances$Holder" 3 ⟨"java/lang/Object","<init>","()V"⟩ : Cond) ∈ TT := TT_of (List.mem_of_getElem? (i := 299) (by decide +kernel)) rfl
theorem tw_306 : (.fieldLink "CutDistances$Holder" 21 "CutDistances$Holder" "numbers" "[I" : Cond) ∈ TT := TT_of (List.mem_of_getElem? (i := 306) (by decide +kernel)) rfl
theorem tw_317 : (.fieldLink "CutDistances" 12 "CutDistances" "now" "LCutDistances$Table;" : Cond) ∈ TT := TT_of (List.mem_of_getElem? (i := 317) (by decide +kernel)) rfl
theorem tw_318 : (.fieldLink "CutDistances" 18 "CutDistances" "next" "LCutDistances$Table;" : Cond) ∈ TT := TT_of (List.mem_of_getElem? (i := 318) (by decide +kernel)) rfl
theorem tw_319 : (.fieldLink "CutDistances" 24 "CutDistances" "places" "LCutDistances$Places;" : Cond) ∈ TT := TT_of (List.mem_of_getElem? (i := 319) (by decide +kernel)) rfl
theorem tw_320 : (.fieldLink "CutDistances" 31 "CutDistances" "deeds" "LCutDistances$Deeds;" : Cond) ∈ TT := TT_of (List.mem_of_getElem? (i := 320) (by decide +kernel)) rfl
theorem tw_321 : (.fieldLink "CutDistances" 35 "CutDistances" "imageTable" "LCutDistances$Table;" : Cond) ∈ TT := TT_of (List.mem_of_getElem? (i := 321) (by decide +kernel)) rfl
theorem tw_322 : (.fieldLink "CutDistances" 38 "CutDistances" "imagePlaces" "LCutDistances$Places;" : Cond) ∈ TT := TT_of (List.mem_of_getElem? (i := 322) (by decide +kernel)) rfl
theorem tw_324 : (.fieldLink "CutDistances" 47 "CutDistances" "holders" "[LCutDistances$Holder;" : Cond) ∈ TT := TT_of (List.mem_of_getElem? (i := 324) (by decide +kernel)) rfl
theorem tw_325 : (.fieldLink "CutDistances" 54 "CutDistances" "tape" "LCutDistances$Tape;" : Cond) ∈ TT := TT_of (List.mem_of_getElem? (i := 325) (by decide +kernel)) rfl
theorem tw_326 : (.fieldLink "CutDistances" 61 "CutDistances" "speller" "LCutDistances$Speller;" : Cond) ∈ TT := TT_of (List.mem_of_getElem? (i := 326) (by decide +kernel)) rfl
theorem tw_327 : (.fieldLink "CutDistances" 68 "CutDistances" "walk" "LCutDistances$WallWalk;" : Cond) ∈ TT := TT_of (List.mem_of_getElem? (i := 327) (by decide +kernel)) rfl
theorem tw_328 : (.fieldLink "CutDistances" 75 "CutDistances" "search" "LCutDistances$SumSearch;" : Cond) ∈ TT := TT_of (List.mem_of_getElem? (i := 328) (by decide +kernel)) rfl
theorem tw_329 : (.fieldLink "CutDistances" 82 "CutDistances" "ranks" "LCutDistances$RankCounter;" : Cond) ∈ TT := TT_of (List.mem_of_getElem? (i := 329) (by decide +kernel)) rfl
theorem tw_821 : (.methodLink "CutDistancesModel" 3 ⟨"java/lang/Object","<init>","()V"⟩ : Cond) ∈ TT := TT_of (List.mem_of_getElem? (i := 821) (by decide +kernel)) rfl
theorem tw_823 : (.fieldLink "CutDistancesModel" 15 "CutDistancesModel" "far" "[I" : Cond) ∈ TT := TT_of (List.mem_of_getElem? (i := 823) (by decide +kernel)) rfl
theorem tw_824 : (.fieldLink "CutDistancesModel" 19 "CutDistancesModel" "xs" "[I" : Cond) ∈ TT := TT_of (List.mem_of_getElem? (i := 824) (by decide +kernel)) rfl
theorem tw_825 : (.fieldLink "CutDistancesModel" 22 "CutDistancesModel" "ys" "[I" : Cond) ∈ TT := TT_of (List.mem_of_getElem? (i := 825) (by decide +kernel)) rfl
theorem tw_827 : (.fieldLink "CutDistancesModel" 25 "CutDistancesModel" "deedN" "[I" : Cond) ∈ TT := TT_of (List.mem_of_getElem? (i := 827) (by decide +kernel)) rfl
theorem tw_828 : (.fieldLink "CutDistancesModel" 28 "CutDistancesModel" "deedFar" "[I" : Cond) ∈ TT := TT_of (List.mem_of_getElem? (i := 828) (by decide +kernel)) rfl
theorem tw_829 : (.fieldLink "CutDistancesModel" 31 "CutDistancesModel" "tape" "[I" : Cond) ∈ TT := TT_of (List.mem_of_getElem? (i := 829) (by decide +kernel)) rfl
theorem tw_831 : (.fieldLink "CutDistancesModel" 34 "CutDistancesModel" "kinds" "[I" : Cond) ∈ TT := TT_of (List.mem_of_getElem? (i := 831) (by decide +kernel)) rfl
theorem tw_832 : (.fieldLink "CutDistancesModel" 37 "CutDistancesModel" "sizes" "[I" : Cond) ∈ TT := TT_of (List.mem_of_getElem? (i := 832) (by decide +kernel)) rfl
theorem tw_833 : (.fieldLink "CutDistancesModel" 40 "CutDistancesModel" "cells" "[I" : Cond) ∈ TT := TT_of (List.mem_of_getElem? (i := 833) (by decide +kernel)) rfl
theorem tw_836 : (.fieldLink "CutDistancesModel" 43 "CutDistancesModel" "imFar" "[I" : Cond) ∈ TT := TT_of (List.mem_of_getElem? (i := 836) (by decide +kernel)) rfl
theorem tw_837 : (.fieldLink "CutDistancesModel" 46 "CutDistancesModel" "imXs" "[I" : Cond) ∈ TT := TT_of (List.mem_of_getElem? (i := 837) (by decide +kernel)) rfl
theorem tw_838 : (.fieldLink "CutDistancesModel" 49 "CutDistancesModel" "imYs" "[I" : Cond) ∈ TT := TT_of (List.mem_of_getElem? (i := 838) (by decide +kernel)) rfl
theorem tw_839 : (.fieldLink "CutDistancesModel" 52 "CutDistancesModel" "wasFar" "[I" : Cond) ∈ TT := TT_of (List.mem_of_getElem? (i := 839) (by decide +kernel)) rfl
theorem tw_841 : (.fieldLink "CutDistancesModel" 55 "CutDistancesModel" "b" "[I" : Cond) ∈ TT := TT_of (List.mem_of_getElem? (i := 841) (by decide +kernel)) rfl
theorem tw_842 : (.fieldLink "CutDistancesModel" 58 "CutDistancesModel" "table" "[J" : Cond) ∈ TT := TT_of (List.mem_of_getElem? (i := 842) (by decide +kernel)) rfl
theorem tw_843 : (.fieldLink "CutDistancesModel" 62 "CutDistancesModel" "left" "[I" : Cond) ∈ TT := TT_of (List.mem_of_getElem? (i := 843) (by decide +kernel)) rfl
theorem tw_844 : (.fieldLink "CutDistancesModel" 65 "CutDistancesModel" "numbers" "[I" : Cond) ∈ TT := TT_of (List.mem_of_getElem? (i := 844) (by decide +kernel)) rfl
theorem tw_851 : (.fieldLink "CutDistancesModel" 68 "CutDistancesModel" "told" "[I" : Cond) ∈ TT := TT_of (List.mem_of_getElem? (i := 851) (by decide +kernel)) rfl
theorem tw_852 : (.fieldLink "CutDistancesModel" 71 "CutDistancesModel" "line" "[I" : Cond) ∈ TT := TT_of (List.mem_of_getElem? (i := 852) (by decide +kernel)) rfl
