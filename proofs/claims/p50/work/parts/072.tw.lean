set_option maxRecDepth 100000 in
theorem tg_0 : Cond.initialized RX4 ∈ bigT ∧ Cond.initialized RX3 ∈ bigT ∧ Cond.initialized RX0 ∈ bigT ∧ Cond.initialized RX2 ∈ bigT ∧ Cond.initialized RX1 ∈ bigT ∧ Cond.initialized RX5 ∈ bigT ∧ Cond.initialized RJ9 ∈ bigT ∧ Cond.initialized "java/lang/System" ∈ bigT ∧ Cond.initialized RJ6 ∈ bigT ∧ Cond.initialized RJ0 ∈ bigT ∧ Cond.initialized RJ1 ∈ bigT ∧ Cond.initialized RJ3 ∈ bigT ∧ Cond.fieldLink RX3 11 RX3 "things" "[[I" ∈ bigT ∧ Cond.fieldLink RX3 16 RX3 "windows" "[[I" ∈ bigT ∧ Cond.fieldLink RX3 19 RX3 "paintPrices" "[I" ∈ bigT ∧ Cond.fieldLink RX3 23 RX3 "purses" "[I" ∈ bigT ∧ Cond.fieldLink RX3 26 RX3 "spots" "[I" ∈ bigT ∧ Cond.fieldLink RX3 29 RX3 "windowCount" "I" ∈ bigT ∧ Cond.fieldLink RX3 33 RX3 "month" "I" ∈ bigT ∧ Cond.fieldLink RX3 36 RX3 "z" "I" ∈ bigT ∧ Cond.fieldLink RX0 9 RX0 "lotsAway" "[I" ∈ bigT ∧ Cond.fieldLink RX0 15 RX0 "tops" "[I" ∈ bigT ∧ Cond.fieldLink RX0 18 RX0 "lowest" "[I" ∈ bigT ∧ Cond.fieldLink RX2 9 RX2 "bytes" "[I" ∈ bigT ∧ True := by
  have h := tb_alls tables_1_1 tp_1 [1, 0, 0, 0, 0, 0, 0, 0, 0, 0, 0, 0, 17, 2, 2, 2, 2, 1, 3, 1, 25, 0, 0, 13] [Cond.initialized RX4, Cond.initialized RX3, Cond.initialized RX0, Cond.initialized RX2, Cond.initialized RX1, Cond.initialized RX5, Cond.initialized RJ9, Cond.initialized "java/lang/System", Cond.initialized RJ6, Cond.initialized RJ0, Cond.initialized RJ1, Cond.initialized RJ3, Cond.fieldLink RX3 11 RX3 "things" "[[I", Cond.fieldLink RX3 16 RX3 "windows" "[[I", Cond.fieldLink RX3 19 RX3 "paintPrices" "[I", Cond.fieldLink RX3 23 RX3 "purses" "[I", Cond.fieldLink RX3 26 RX3 "spots" "[I", Cond.fieldLink RX3 29 RX3 "windowCount" "I", Cond.fieldLink RX3 33 RX3 "month" "I", Cond.fieldLink RX3 36 RX3 "z" "I", Cond.fieldLink RX0 9 RX0 "lotsAway" "[I", Cond.fieldLink RX0 15 RX0 "tops" "[I", Cond.fieldLink RX0 18 RX0 "lowest" "[I", Cond.fieldLink RX2 9 RX2 "bytes" "[I"] rfl (by decide +kernel)
  exact h
theorem tw_190 : Cond.initialized RX4 ∈ bigT := tg_0.1
theorem tw_33 : Cond.initialized RX3 ∈ bigT := tg_0.2.1
theorem tw_49 : Cond.initialized RX0 ∈ bigT := tg_0.2.2.1
theorem tw_100 : Cond.initialized RX2 ∈ bigT := tg_0.2.2.2.1
theorem tw_295 : Cond.initialized RX1 ∈ bigT := tg_0.2.2.2.2.1
theorem tw_325 : Cond.initialized RX5 ∈ bigT := tg_0.2.2.2.2.2.1
theorem tw_37 : Cond.initialized RJ9 ∈ bigT := tg_0.2.2.2.2.2.2.1
theorem tw_175 : Cond.initialized "java/lang/System" ∈ bigT := tg_0.2.2.2.2.2.2.2.1
theorem tw_257 : Cond.initialized RJ6 ∈ bigT := tg_0.2.2.2.2.2.2.2.2.1
theorem tw_17 : Cond.initialized RJ0 ∈ bigT := tg_0.2.2.2.2.2.2.2.2.2.1
theorem tw_18 : Cond.initialized RJ1 ∈ bigT := tg_0.2.2.2.2.2.2.2.2.2.2.1
theorem tw_19 : Cond.initialized RJ3 ∈ bigT := tg_0.2.2.2.2.2.2.2.2.2.2.2.1
theorem tw_27 : Cond.fieldLink RX3 11 RX3 "things" "[[I" ∈ bigT := tg_0.2.2.2.2.2.2.2.2.2.2.2.2.1
theorem tw_141 : Cond.fieldLink RX3 16 RX3 "windows" "[[I" ∈ bigT := tg_0.2.2.2.2.2.2.2.2.2.2.2.2.2.1
theorem tw_73 : Cond.fieldLink RX3 19 RX3 "paintPrices" "[I" ∈ bigT := tg_0.2.2.2.2.2.2.2.2.2.2.2.2.2.2.1
theorem tw_176 : Cond.fieldLink RX3 23 RX3 "purses" "[I" ∈ bigT := tg_0.2.2.2.2.2.2.2.2.2.2.2.2.2.2.2.1
theorem tw_177 : Cond.fieldLink RX3 26 RX3 "spots" "[I" ∈ bigT := tg_0.2.2.2.2.2.2.2.2.2.2.2.2.2.2.2.2.1
theorem tw_140 : Cond.fieldLink RX3 29 RX3 "windowCount" "I" ∈ bigT := tg_0.2.2.2.2.2.2.2.2.2.2.2.2.2.2.2.2.2.1
theorem tw_28 : Cond.fieldLink RX3 33 RX3 "month" "I" ∈ bigT := tg_0.2.2.2.2.2.2.2.2.2.2.2.2.2.2.2.2.2.2.1
theorem tw_178 : Cond.fieldLink RX3 36 RX3 "z" "I" ∈ bigT := tg_0.2.2.2.2.2.2.2.2.2.2.2.2.2.2.2.2.2.2.2.1
theorem tw_38 : Cond.fieldLink RX0 9 RX0 "lotsAway" "[I" ∈ bigT := tg_0.2.2.2.2.2.2.2.2.2.2.2.2.2.2.2.2.2.2.2.2.1
theorem tw_39 : Cond.fieldLink RX0 15 RX0 "tops" "[I" ∈ bigT := tg_0.2.2.2.2.2.2.2.2.2.2.2.2.2.2.2.2.2.2.2.2.2.1
theorem tw_50 : Cond.fieldLink RX0 18 RX0 "lowest" "[I" ∈ bigT := tg_0.2.2.2.2.2.2.2.2.2.2.2.2.2.2.2.2.2.2.2.2.2.2.1
theorem tw_93 : Cond.fieldLink RX2 9 RX2 "bytes" "[I" ∈ bigT := tg_0.2.2.2.2.2.2.2.2.2.2.2.2.2.2.2.2.2.2.2.2.2.2.2.1
set_option maxRecDepth 100000 in
theorem tg_1 : Cond.fieldLink RX2 15 RX2 "length" "I" ∈ bigT ∧ Cond.fieldLink RX2 19 RX2 "sort" "I" ∈ bigT ∧ Cond.fieldLink RX2 22 RX2 "begin" "I" ∈ bigT ∧ Cond.fieldLink RX2 25 RX2 "end" "I" ∈ bigT ∧ Cond.fieldLink RX2 28 RX2 "number" "I" ∈ bigT ∧ Cond.fieldLink RX2 31 RX2 "fault" "I" ∈ bigT ∧ Cond.fieldLink RX1 11 RX1 "numbers" "[[I" ∈ bigT ∧ Cond.fieldLink RX1 16 RX1 "bits" "[I" ∈ bigT ∧ Cond.fieldLink RX1 20 RX1 "lengths" "[I" ∈ bigT ∧ Cond.fieldLink RX4 10 RX4 "town" "LWindowViews$Town;" ∈ bigT ∧ Cond.fieldLink RX4 16 RX4 "kept" "LWindowViews$Town;" ∈ bigT ∧ Cond.fieldLink RX4 19 RX4 "trial" "LWindowViews$Town;" ∈ bigT ∧ Cond.fieldLink RX4 25 RX4 "glance" "LWindowViews$Glance;" ∈ bigT ∧ Cond.fieldLink RX4 32 RX4 "tape" "LWindowViews$Tape;" ∈ bigT ∧ Cond.fieldLink RX4 39 RX4 "sheets" "LWindowViews$Sheets;" ∈ bigT ∧ Cond.fieldLink RX4 43 RX4 "told" "[I" ∈ bigT ∧ Cond.fieldLink RX4 47 RX4 "gainsBefore" "[I" ∈ bigT ∧ Cond.fieldLink RX4 50 RX4 "gainsAfter" "[I" ∈ bigT ∧ Cond.fieldLink RX4 53 RX4 "spareRow" "[I" ∈ bigT ∧ Cond.fieldLink RX4 56 RX4 "imageKept" "Z" ∈ bigT ∧ Cond.methodLink RX4 60 yX4_within ∈ bigT ∧ Cond.static yX4_within ∈ bigT ∧ Cond.code yX4_within cX4_within 2 (some .boolean) ∈ bigT ∧ Cond.methodLink RX4 64 yX4_finding ∈ bigT ∧ True := by
  have h := tb_alls tables_1_1 tp_1 [93, 1, 0, 0, 0, 0, 23, 1, 1, 8, 0, 0, 0, 0, 0, 0, 0, 0, 0, 0, 27, 0, 0, 0] [Cond.fieldLink RX2 15 RX2 "length" "I", Cond.fieldLink RX2 19 RX2 "sort" "I", Cond.fieldLink RX2 22 RX2 "begin" "I", Cond.fieldLink RX2 25 RX2 "end" "I", Cond.fieldLink RX2 28 RX2 "number" "I", Cond.fieldLink RX2 31 RX2 "fault" "I", Cond.fieldLink RX1 11 RX1 "numbers" "[[I", Cond.fieldLink RX1 16 RX1 "bits" "[I", Cond.fieldLink RX1 20 RX1 "lengths" "[I", Cond.fieldLink RX4 10 RX4 "town" "LWindowViews$Town;", Cond.fieldLink RX4 16 RX4 "kept" "LWindowViews$Town;", Cond.fieldLink RX4 19 RX4 "trial" "LWindowViews$Town;", Cond.fieldLink RX4 25 RX4 "glance" "LWindowViews$Glance;", Cond.fieldLink RX4 32 RX4 "tape" "LWindowViews$Tape;", Cond.fieldLink RX4 39 RX4 "sheets" "LWindowViews$Sheets;", Cond.fieldLink RX4 43 RX4 "told" "[I", Cond.fieldLink RX4 47 RX4 "gainsBefore" "[I", Cond.fieldLink RX4 50 RX4 "gainsAfter" "[I", Cond.fieldLink RX4 53 RX4 "spareRow" "[I", Cond.fieldLink RX4 56 RX4 "imageKept" "Z", Cond.methodLink RX4 60 yX4_within, Cond.static yX4_within, Cond.code yX4_within cX4_within 2 (some .boolean), Cond.methodLink RX4 64 yX4_finding] rfl (by decide +kernel)
  exact h
theorem tw_92 : Cond.fieldLink RX2 15 RX2 "length" "I" ∈ bigT := tg_1.1
theorem tw_101 : Cond.fieldLink RX2 19 RX2 "sort" "I" ∈ bigT := tg_1.2.1
theorem tw_95 : Cond.fieldLink RX2 22 RX2 "begin" "I" ∈ bigT := tg_1.2.2.1
theorem tw_94 : Cond.fieldLink RX2 25 RX2 "end" "I" ∈ bigT := tg_1.2.2.2.1
theorem tw_102 : Cond.fieldLink RX2 28 RX2 "number" "I" ∈ bigT := tg_1.2.2.2.2.1
theorem tw_116 : Cond.fieldLink RX2 31 RX2 "fault" "I" ∈ bigT := tg_1.2.2.2.2.2.1
theorem tw_91 : Cond.fieldLink RX1 11 RX1 "numbers" "[[I" ∈ bigT := tg_1.2.2.2.2.2.2.1
theorem tw_89 : Cond.fieldLink RX1 16 RX1 "bits" "[I" ∈ bigT := tg_1.2.2.2.2.2.2.2.1
theorem tw_90 : Cond.fieldLink RX1 20 RX1 "lengths" "[I" ∈ bigT := tg_1.2.2.2.2.2.2.2.2.1
theorem tw_195 : Cond.fieldLink RX4 10 RX4 "town" "LWindowViews$Town;" ∈ bigT := tg_1.2.2.2.2.2.2.2.2.2.1
theorem tw_308 : Cond.fieldLink RX4 16 RX4 "kept" "LWindowViews$Town;" ∈ bigT := tg_1.2.2.2.2.2.2.2.2.2.2.1
theorem tw_234 : Cond.fieldLink RX4 19 RX4 "trial" "LWindowViews$Town;" ∈ bigT := tg_1.2.2.2.2.2.2.2.2.2.2.2.1
theorem tw_209 : Cond.fieldLink RX4 25 RX4 "glance" "LWindowViews$Glance;" ∈ bigT := tg_1.2.2.2.2.2.2.2.2.2.2.2.2.1
theorem tw_280 : Cond.fieldLink RX4 32 RX4 "tape" "LWindowViews$Tape;" ∈ bigT := tg_1.2.2.2.2.2.2.2.2.2.2.2.2.2.1
theorem tw_293 : Cond.fieldLink RX4 39 RX4 "sheets" "LWindowViews$Sheets;" ∈ bigT := tg_1.2.2.2.2.2.2.2.2.2.2.2.2.2.2.1
theorem tw_185 : Cond.fieldLink RX4 43 RX4 "told" "[I" ∈ bigT := tg_1.2.2.2.2.2.2.2.2.2.2.2.2.2.2.2.1
theorem tw_253 : Cond.fieldLink RX4 47 RX4 "gainsBefore" "[I" ∈ bigT := tg_1.2.2.2.2.2.2.2.2.2.2.2.2.2.2.2.2.1
theorem tw_217 : Cond.fieldLink RX4 50 RX4 "gainsAfter" "[I" ∈ bigT := tg_1.2.2.2.2.2.2.2.2.2.2.2.2.2.2.2.2.2.1
theorem tw_216 : Cond.fieldLink RX4 53 RX4 "spareRow" "[I" ∈ bigT := tg_1.2.2.2.2.2.2.2.2.2.2.2.2.2.2.2.2.2.2.1
theorem tw_309 : Cond.fieldLink RX4 56 RX4 "imageKept" "Z" ∈ bigT := tg_1.2.2.2.2.2.2.2.2.2.2.2.2.2.2.2.2.2.2.2.1
theorem tw_188 : Cond.methodLink RX4 60 yX4_within ∈ bigT := tg_1.2.2.2.2.2.2.2.2.2.2.2.2.2.2.2.2.2.2.2.2.1
theorem tw_189 : Cond.static yX4_within ∈ bigT := tg_1.2.2.2.2.2.2.2.2.2.2.2.2.2.2.2.2.2.2.2.2.2.1
theorem tw_187 : Cond.code yX4_within cX4_within 2 (some .boolean) ∈ bigT := tg_1.2.2.2.2.2.2.2.2.2.2.2.2.2.2.2.2.2.2.2.2.2.2.1
theorem tw_192 : Cond.methodLink RX4 64 yX4_finding ∈ bigT := tg_1.2.2.2.2.2.2.2.2.2.2.2.2.2.2.2.2.2.2.2.2.2.2.2.1
set_option maxRecDepth 100000 in
theorem tg_2 : Cond.instanceMethod yX4_finding ∈ bigT ∧ Cond.code yX4_finding cX4_finding 2 (some .int) ∈ bigT ∧ Cond.constant RX4 263 (-1000001) ∈ bigT ∧ Cond.instanceMethod yX3_isTaken ∈ bigT ∧ Cond.code yX3_isTaken cX3_isTaken 2 (some .boolean) ∈ bigT ∧ Cond.instanceMethod yX3_put ∈ bigT ∧ Cond.code yX3_put cX3_put 6 (none) ∈ bigT ∧ Cond.instanceMethod yX3_thingCount ∈ bigT ∧ Cond.code yX3_thingCount cX3_thingCount 3 (some .int) ∈ bigT ∧ Cond.methodLink RX3 45 yX3_isTaken ∈ bigT ∧ Cond.instanceMethod yX3_takeOff ∈ bigT ∧ Cond.code yX3_takeOff cX3_takeOff 2 (none) ∈ bigT ∧ Cond.instanceMethod yX3_standing ∈ bigT ∧ Cond.code yX3_standing cX3_standing 3 (some .int) ∈ bigT ∧ Cond.methodLink RX3 49 yX3_isSummer ∈ bigT ∧ Cond.instanceMethod yX3_isSummer ∈ bigT ∧ Cond.code yX3_isSummer cX3_isSummer 2 (some .boolean) ∈ bigT ∧ Cond.methodLink RX3 53 yJ9_min_7cf53 ∈ bigT ∧ Cond.static yJ9_min_7cf53 ∈ bigT ∧ Cond.code yJ9_min_7cf53 cJ9_min_7cf53 2 (some .int) ∈ bigT ∧ Cond.instanceMethod yX3_squarePrice ∈ bigT ∧ Cond.code yX3_squarePrice cX3_squarePrice 4 (some .int) ∈ bigT ∧ Cond.instanceMethod yX3_growth ∈ bigT ∧ Cond.code yX3_growth cX3_growth 3 (some .int) ∈ bigT ∧ True := by
  have h := tb_alls tables_1_1 tp_1 [179, 0, 0, 2, 0, 2, 0, 2, 0, 0, 6, 0, 6, 0, 0, 1, 0, 0, 0, 0, 2, 0, 2, 0] [Cond.instanceMethod yX4_finding, Cond.code yX4_finding cX4_finding 2 (some .int), Cond.constant RX4 263 (-1000001), Cond.instanceMethod yX3_isTaken, Cond.code yX3_isTaken cX3_isTaken 2 (some .boolean), Cond.instanceMethod yX3_put, Cond.code yX3_put cX3_put 6 (none), Cond.instanceMethod yX3_thingCount, Cond.code yX3_thingCount cX3_thingCount 3 (some .int), Cond.methodLink RX3 45 yX3_isTaken, Cond.instanceMethod yX3_takeOff, Cond.code yX3_takeOff cX3_takeOff 2 (none), Cond.instanceMethod yX3_standing, Cond.code yX3_standing cX3_standing 3 (some .int), Cond.methodLink RX3 49 yX3_isSummer, Cond.instanceMethod yX3_isSummer, Cond.code yX3_isSummer cX3_isSummer 2 (some .boolean), Cond.methodLink RX3 53 yJ9_min_7cf53, Cond.static yJ9_min_7cf53, Cond.code yJ9_min_7cf53 cJ9_min_7cf53 2 (some .int), Cond.instanceMethod yX3_squarePrice, Cond.code yX3_squarePrice cX3_squarePrice 4 (some .int), Cond.instanceMethod yX3_growth, Cond.code yX3_growth cX3_growth 3 (some .int)] rfl (by decide +kernel)
  exact h
theorem tw_193 : Cond.instanceMethod yX4_finding ∈ bigT := tg_2.1
theorem tw_191 : Cond.code yX4_finding cX4_finding 2 (some .int) ∈ bigT := tg_2.2.1
theorem tw_186 : Cond.constant RX4 263 (-1000001) ∈ bigT := tg_2.2.2.1
theorem tw_52 : Cond.instanceMethod yX3_isTaken ∈ bigT := tg_2.2.2.2.1
theorem tw_51 : Cond.code yX3_isTaken cX3_isTaken 2 (some .boolean) ∈ bigT := tg_2.2.2.2.2.1
theorem tw_138 : Cond.instanceMethod yX3_put ∈ bigT := tg_2.2.2.2.2.2.1
theorem tw_137 : Cond.code yX3_put cX3_put 6 (none) ∈ bigT := tg_2.2.2.2.2.2.2.1
theorem tw_197 : Cond.instanceMethod yX3_thingCount ∈ bigT := tg_2.2.2.2.2.2.2.2.1
theorem tw_196 : Cond.code yX3_thingCount cX3_thingCount 3 (some .int) ∈ bigT := tg_2.2.2.2.2.2.2.2.2.1
theorem tw_179 : Cond.methodLink RX3 45 yX3_isTaken ∈ bigT := tg_2.2.2.2.2.2.2.2.2.2.1
theorem tw_146 : Cond.instanceMethod yX3_takeOff ∈ bigT := tg_2.2.2.2.2.2.2.2.2.2.2.1
theorem tw_145 : Cond.code yX3_takeOff cX3_takeOff 2 (none) ∈ bigT := tg_2.2.2.2.2.2.2.2.2.2.2.2.1
theorem tw_55 : Cond.instanceMethod yX3_standing ∈ bigT := tg_2.2.2.2.2.2.2.2.2.2.2.2.2.1
theorem tw_54 : Cond.code yX3_standing cX3_standing 3 (some .int) ∈ bigT := tg_2.2.2.2.2.2.2.2.2.2.2.2.2.2.1
theorem tw_30 : Cond.methodLink RX3 49 yX3_isSummer ∈ bigT := tg_2.2.2.2.2.2.2.2.2.2.2.2.2.2.2.1
theorem tw_31 : Cond.instanceMethod yX3_isSummer ∈ bigT := tg_2.2.2.2.2.2.2.2.2.2.2.2.2.2.2.2.1
theorem tw_29 : Cond.code yX3_isSummer cX3_isSummer 2 (some .boolean) ∈ bigT := tg_2.2.2.2.2.2.2.2.2.2.2.2.2.2.2.2.2.1
theorem tw_35 : Cond.methodLink RX3 53 yJ9_min_7cf53 ∈ bigT := tg_2.2.2.2.2.2.2.2.2.2.2.2.2.2.2.2.2.2.1
theorem tw_36 : Cond.static yJ9_min_7cf53 ∈ bigT := tg_2.2.2.2.2.2.2.2.2.2.2.2.2.2.2.2.2.2.2.1
theorem tw_34 : Cond.code yJ9_min_7cf53 cJ9_min_7cf53 2 (some .int) ∈ bigT := tg_2.2.2.2.2.2.2.2.2.2.2.2.2.2.2.2.2.2.2.2.1
theorem tw_75 : Cond.instanceMethod yX3_squarePrice ∈ bigT := tg_2.2.2.2.2.2.2.2.2.2.2.2.2.2.2.2.2.2.2.2.2.1
theorem tw_74 : Cond.code yX3_squarePrice cX3_squarePrice 4 (some .int) ∈ bigT := tg_2.2.2.2.2.2.2.2.2.2.2.2.2.2.2.2.2.2.2.2.2.2.1
theorem tw_182 : Cond.instanceMethod yX3_growth ∈ bigT := tg_2.2.2.2.2.2.2.2.2.2.2.2.2.2.2.2.2.2.2.2.2.2.2.1
theorem tw_180 : Cond.code yX3_growth cX3_growth 3 (some .int) ∈ bigT := tg_2.2.2.2.2.2.2.2.2.2.2.2.2.2.2.2.2.2.2.2.2.2.2.2.1
set_option maxRecDepth 100000 in
theorem tg_3 : Cond.methodLink RX4 97 yX4_thingLimit ∈ bigT ∧ Cond.static yX4_thingLimit ∈ bigT ∧ Cond.code yX4_thingLimit cX4_thingLimit 1 (some .int) ∈ bigT ∧ True := by
  have h := tb_alls tables_1_1 tp_1 [230, 0, 0] [Cond.methodLink RX4 97 yX4_thingLimit, Cond.static yX4_thingLimit, Cond.code yX4_thingLimit cX4_thingLimit 1 (some .int)] rfl (by decide +kernel)
  exact h
theorem tw_200 : Cond.methodLink RX4 97 yX4_thingLimit ∈ bigT := tg_3.1
theorem tw_201 : Cond.static yX4_thingLimit ∈ bigT := tg_3.2.1
theorem tw_199 : Cond.code yX4_thingLimit cX4_thingLimit 1 (some .int) ∈ bigT := tg_3.2.2.1
set_option maxRecDepth 100000 in
theorem tg_4 : Cond.instanceMethod yX3_addWindow ∈ bigT ∧ Cond.code yX3_addWindow cX3_addWindow 5 (none) ∈ bigT ∧ Cond.methodLink RX4 111 yX4_isWindow ∈ bigT ∧ Cond.instanceMethod yX4_isWindow ∈ bigT ∧ Cond.code yX4_isWindow cX4_isWindow 2 (some .boolean) ∈ bigT ∧ Cond.methodLink RX4 117 yX4_windowLimit ∈ bigT ∧ Cond.static yX4_windowLimit ∈ bigT ∧ Cond.code yX4_windowLimit cX4_windowLimit 1 (some .int) ∈ bigT ∧ Cond.instanceMethod yX0_isBroken ∈ bigT ∧ Cond.code yX0_isBroken cX0_isBroken 4 (some .boolean) ∈ bigT ∧ Cond.methodLink RX0 78 yX0_squaresOfOwner ∈ bigT ∧ Cond.instanceMethod yX0_squaresOfOwner ∈ bigT ∧ Cond.code yX0_squaresOfOwner cX0_squaresOfOwner 6 (some .int) ∈ bigT ∧ Cond.methodLink RX0 53 yX0_look ∈ bigT ∧ Cond.instanceMethod yX0_look ∈ bigT ∧ Cond.code yX0_look cX0_look 7 (none) ∈ bigT ∧ Cond.methodLink RX0 27 yX0_nextLot ∈ bigT ∧ Cond.static yX0_nextLot ∈ bigT ∧ Cond.code yX0_nextLot cX0_nextLot 2 (some .int) ∈ bigT ∧ Cond.methodLink RX0 39 yX0_lowestSeen ∈ bigT ∧ Cond.instanceMethod yX0_lowestSeen ∈ bigT ∧ Cond.code yX0_lowestSeen cX0_lowestSeen 6 (some .int) ∈ bigT ∧ Cond.methodLink RX0 42 yJ9_floorDiv_7cf53 ∈ bigT ∧ Cond.static yJ9_floorDiv_7cf53 ∈ bigT ∧ True := by
  have h := tb_alls tables_1_2 tp_2 [3, 0, 4, 1, 0, 4, 0, 0, 6, 0, 0, 1, 0, 0, 1, 0, 0, 0, 0, 2, 1, 0, 0, 0] [Cond.instanceMethod yX3_addWindow, Cond.code yX3_addWindow cX3_addWindow 5 (none), Cond.methodLink RX4 111 yX4_isWindow, Cond.instanceMethod yX4_isWindow, Cond.code yX4_isWindow cX4_isWindow 2 (some .boolean), Cond.methodLink RX4 117 yX4_windowLimit, Cond.static yX4_windowLimit, Cond.code yX4_windowLimit cX4_windowLimit 1 (some .int), Cond.instanceMethod yX0_isBroken, Cond.code yX0_isBroken cX0_isBroken 4 (some .boolean), Cond.methodLink RX0 78 yX0_squaresOfOwner, Cond.instanceMethod yX0_squaresOfOwner, Cond.code yX0_squaresOfOwner cX0_squaresOfOwner 6 (some .int), Cond.methodLink RX0 53 yX0_look, Cond.instanceMethod yX0_look, Cond.code yX0_look cX0_look 7 (none), Cond.methodLink RX0 27 yX0_nextLot, Cond.static yX0_nextLot, Cond.code yX0_nextLot cX0_nextLot 2 (some .int), Cond.methodLink RX0 39 yX0_lowestSeen, Cond.instanceMethod yX0_lowestSeen, Cond.code yX0_lowestSeen cX0_lowestSeen 6 (some .int), Cond.methodLink RX0 42 yJ9_floorDiv_7cf53, Cond.static yJ9_floorDiv_7cf53] rfl (by decide +kernel)
  exact h
theorem tw_143 : Cond.instanceMethod yX3_addWindow ∈ bigT := tg_4.1
theorem tw_142 : Cond.code yX3_addWindow cX3_addWindow 5 (none) ∈ bigT := tg_4.2.1
theorem tw_203 : Cond.methodLink RX4 111 yX4_isWindow ∈ bigT := tg_4.2.2.1
theorem tw_204 : Cond.instanceMethod yX4_isWindow ∈ bigT := tg_4.2.2.2.1
theorem tw_202 : Cond.code yX4_isWindow cX4_isWindow 2 (some .boolean) ∈ bigT := tg_4.2.2.2.2.1
theorem tw_207 : Cond.methodLink RX4 117 yX4_windowLimit ∈ bigT := tg_4.2.2.2.2.2.1
theorem tw_208 : Cond.static yX4_windowLimit ∈ bigT := tg_4.2.2.2.2.2.2.1
theorem tw_206 : Cond.code yX4_windowLimit cX4_windowLimit 1 (some .int) ∈ bigT := tg_4.2.2.2.2.2.2.2.1
theorem tw_87 : Cond.instanceMethod yX0_isBroken ∈ bigT := tg_4.2.2.2.2.2.2.2.2.1
theorem tw_85 : Cond.code yX0_isBroken cX0_isBroken 4 (some .boolean) ∈ bigT := tg_4.2.2.2.2.2.2.2.2.2.1
theorem tw_82 : Cond.methodLink RX0 78 yX0_squaresOfOwner ∈ bigT := tg_4.2.2.2.2.2.2.2.2.2.2.1
theorem tw_83 : Cond.instanceMethod yX0_squaresOfOwner ∈ bigT := tg_4.2.2.2.2.2.2.2.2.2.2.2.1
theorem tw_81 : Cond.code yX0_squaresOfOwner cX0_squaresOfOwner 6 (some .int) ∈ bigT := tg_4.2.2.2.2.2.2.2.2.2.2.2.2.1
theorem tw_66 : Cond.methodLink RX0 53 yX0_look ∈ bigT := tg_4.2.2.2.2.2.2.2.2.2.2.2.2.2.1
theorem tw_67 : Cond.instanceMethod yX0_look ∈ bigT := tg_4.2.2.2.2.2.2.2.2.2.2.2.2.2.2.1
theorem tw_65 : Cond.code yX0_look cX0_look 7 (none) ∈ bigT := tg_4.2.2.2.2.2.2.2.2.2.2.2.2.2.2.2.1
theorem tw_47 : Cond.methodLink RX0 27 yX0_nextLot ∈ bigT := tg_4.2.2.2.2.2.2.2.2.2.2.2.2.2.2.2.2.1
theorem tw_48 : Cond.static yX0_nextLot ∈ bigT := tg_4.2.2.2.2.2.2.2.2.2.2.2.2.2.2.2.2.2.1
theorem tw_46 : Cond.code yX0_nextLot cX0_nextLot 2 (some .int) ∈ bigT := tg_4.2.2.2.2.2.2.2.2.2.2.2.2.2.2.2.2.2.2.1
theorem tw_58 : Cond.methodLink RX0 39 yX0_lowestSeen ∈ bigT := tg_4.2.2.2.2.2.2.2.2.2.2.2.2.2.2.2.2.2.2.2.1
theorem tw_59 : Cond.instanceMethod yX0_lowestSeen ∈ bigT := tg_4.2.2.2.2.2.2.2.2.2.2.2.2.2.2.2.2.2.2.2.2.1
theorem tw_57 : Cond.code yX0_lowestSeen cX0_lowestSeen 6 (some .int) ∈ bigT := tg_4.2.2.2.2.2.2.2.2.2.2.2.2.2.2.2.2.2.2.2.2.2.1
theorem tw_41 : Cond.methodLink RX0 42 yJ9_floorDiv_7cf53 ∈ bigT := tg_4.2.2.2.2.2.2.2.2.2.2.2.2.2.2.2.2.2.2.2.2.2.2.1
theorem tw_42 : Cond.static yJ9_floorDiv_7cf53 ∈ bigT := tg_4.2.2.2.2.2.2.2.2.2.2.2.2.2.2.2.2.2.2.2.2.2.2.2.1
set_option maxRecDepth 100000 in
theorem tg_5 : Cond.code yJ9_floorDiv_7cf53 cJ9_floorDiv_7cf53 3 (some .int) ∈ bigT ∧ Cond.methodLink RX0 47 yJ9_max_7cf53 ∈ bigT ∧ Cond.static yJ9_max_7cf53 ∈ bigT ∧ Cond.code yJ9_max_7cf53 cJ9_max_7cf53 2 (some .int) ∈ bigT ∧ Cond.methodLink RX0 50 yX0_squares ∈ bigT ∧ Cond.instanceMethod yX0_squares ∈ bigT ∧ Cond.code yX0_squares cX0_squares 2 (some .int) ∈ bigT ∧ Cond.instanceMethod yX0_squareSet ∈ bigT ∧ Cond.code yX0_squareSet cX0_squareSet 2 (some .int) ∈ bigT ∧ Cond.instanceMethod yX0_squaresInView ∈ bigT ∧ Cond.code yX0_squaresInView cX0_squaresInView 5 (some .int) ∈ bigT ∧ Cond.instanceMethod yX0_lotSet ∈ bigT ∧ Cond.code yX0_lotSet cX0_lotSet 5 (some .int) ∈ bigT ∧ Cond.instanceMethod yX0_pay ∈ bigT ∧ Cond.code yX0_pay cX0_pay 9 (some .int) ∈ bigT ∧ Cond.instanceMethod yX0_gainsInto ∈ bigT ∧ Cond.code yX0_gainsInto cX0_gainsInto 5 (some .int) ∈ bigT ∧ Cond.methodLink RX0 74 yX0_pay ∈ bigT ∧ Cond.instanceMethod yX0_brokenSet ∈ bigT ∧ Cond.code yX0_brokenSet cX0_brokenSet 4 (some .int) ∈ bigT ∧ Cond.methodLink RX0 82 yX0_isBroken ∈ bigT ∧ Cond.methodLink RX4 160 yX4_passMonths ∈ bigT ∧ Cond.instanceMethod yX4_passMonths ∈ bigT ∧ Cond.code yX4_passMonths cX4_passMonths 5 (some .int) ∈ bigT ∧ True := by
  have h := tb_alls tables_1_2 tp_2 [47, 0, 0, 0, 0, 1, 0, 11, 0, 6, 0, 11, 0, 10, 0, 7, 0, 0, 6, 0, 0, 4, 1, 0] [Cond.code yJ9_floorDiv_7cf53 cJ9_floorDiv_7cf53 3 (some .int), Cond.methodLink RX0 47 yJ9_max_7cf53, Cond.static yJ9_max_7cf53, Cond.code yJ9_max_7cf53 cJ9_max_7cf53 2 (some .int), Cond.methodLink RX0 50 yX0_squares, Cond.instanceMethod yX0_squares, Cond.code yX0_squares cX0_squares 2 (some .int), Cond.instanceMethod yX0_squareSet, Cond.code yX0_squareSet cX0_squareSet 2 (some .int), Cond.instanceMethod yX0_squaresInView, Cond.code yX0_squaresInView cX0_squaresInView 5 (some .int), Cond.instanceMethod yX0_lotSet, Cond.code yX0_lotSet cX0_lotSet 5 (some .int), Cond.instanceMethod yX0_pay, Cond.code yX0_pay cX0_pay 9 (some .int), Cond.instanceMethod yX0_gainsInto, Cond.code yX0_gainsInto cX0_gainsInto 5 (some .int), Cond.methodLink RX0 74 yX0_pay, Cond.instanceMethod yX0_brokenSet, Cond.code yX0_brokenSet cX0_brokenSet 4 (some .int), Cond.methodLink RX0 82 yX0_isBroken, Cond.methodLink RX4 160 yX4_passMonths, Cond.instanceMethod yX4_passMonths, Cond.code yX4_passMonths cX4_passMonths 5 (some .int)] rfl (by decide +kernel)
  exact h
theorem tw_40 : Cond.code yJ9_floorDiv_7cf53 cJ9_floorDiv_7cf53 3 (some .int) ∈ bigT := tg_5.1
theorem tw_44 : Cond.methodLink RX0 47 yJ9_max_7cf53 ∈ bigT := tg_5.2.1
theorem tw_45 : Cond.static yJ9_max_7cf53 ∈ bigT := tg_5.2.2.1
theorem tw_43 : Cond.code yJ9_max_7cf53 cJ9_max_7cf53 2 (some .int) ∈ bigT := tg_5.2.2.2.1
theorem tw_62 : Cond.methodLink RX0 50 yX0_squares ∈ bigT := tg_5.2.2.2.2.1
theorem tw_63 : Cond.instanceMethod yX0_squares ∈ bigT := tg_5.2.2.2.2.2.1
theorem tw_61 : Cond.code yX0_squares cX0_squares 2 (some .int) ∈ bigT := tg_5.2.2.2.2.2.2.1
theorem tw_211 : Cond.instanceMethod yX0_squareSet ∈ bigT := tg_5.2.2.2.2.2.2.2.1
theorem tw_210 : Cond.code yX0_squareSet cX0_squareSet 2 (some .int) ∈ bigT := tg_5.2.2.2.2.2.2.2.2.1
theorem tw_71 : Cond.instanceMethod yX0_squaresInView ∈ bigT := tg_5.2.2.2.2.2.2.2.2.2.1
theorem tw_69 : Cond.code yX0_squaresInView cX0_squaresInView 5 (some .int) ∈ bigT := tg_5.2.2.2.2.2.2.2.2.2.2.1
theorem tw_214 : Cond.instanceMethod yX0_lotSet ∈ bigT := tg_5.2.2.2.2.2.2.2.2.2.2.2.1
theorem tw_213 : Cond.code yX0_lotSet cX0_lotSet 5 (some .int) ∈ bigT := tg_5.2.2.2.2.2.2.2.2.2.2.2.2.1
theorem tw_79 : Cond.instanceMethod yX0_pay ∈ bigT := tg_5.2.2.2.2.2.2.2.2.2.2.2.2.2.1
theorem tw_77 : Cond.code yX0_pay cX0_pay 9 (some .int) ∈ bigT := tg_5.2.2.2.2.2.2.2.2.2.2.2.2.2.2.1
theorem tw_219 : Cond.instanceMethod yX0_gainsInto ∈ bigT := tg_5.2.2.2.2.2.2.2.2.2.2.2.2.2.2.2.1
theorem tw_218 : Cond.code yX0_gainsInto cX0_gainsInto 5 (some .int) ∈ bigT := tg_5.2.2.2.2.2.2.2.2.2.2.2.2.2.2.2.2.1
theorem tw_78 : Cond.methodLink RX0 74 yX0_pay ∈ bigT := tg_5.2.2.2.2.2.2.2.2.2.2.2.2.2.2.2.2.2.1
theorem tw_222 : Cond.instanceMethod yX0_brokenSet ∈ bigT := tg_5.2.2.2.2.2.2.2.2.2.2.2.2.2.2.2.2.2.2.1
theorem tw_221 : Cond.code yX0_brokenSet cX0_brokenSet 4 (some .int) ∈ bigT := tg_5.2.2.2.2.2.2.2.2.2.2.2.2.2.2.2.2.2.2.2.1
theorem tw_86 : Cond.methodLink RX0 82 yX0_isBroken ∈ bigT := tg_5.2.2.2.2.2.2.2.2.2.2.2.2.2.2.2.2.2.2.2.2.1
theorem tw_231 : Cond.methodLink RX4 160 yX4_passMonths ∈ bigT := tg_5.2.2.2.2.2.2.2.2.2.2.2.2.2.2.2.2.2.2.2.2.2.1
theorem tw_232 : Cond.instanceMethod yX4_passMonths ∈ bigT := tg_5.2.2.2.2.2.2.2.2.2.2.2.2.2.2.2.2.2.2.2.2.2.2.1
theorem tw_230 : Cond.code yX4_passMonths cX4_passMonths 5 (some .int) ∈ bigT := tg_5.2.2.2.2.2.2.2.2.2.2.2.2.2.2.2.2.2.2.2.2.2.2.2.1
set_option maxRecDepth 100000 in
theorem tg_6 : Cond.instanceMethod yX0_payAll ∈ bigT ∧ Cond.code yX0_payAll cX0_payAll 4 (some .int) ∈ bigT ∧ Cond.instanceMethod yX3_growAll ∈ bigT ∧ Cond.code yX3_growAll cX3_growAll 2 (none) ∈ bigT ∧ Cond.methodLink RX3 59 yX3_growth ∈ bigT ∧ Cond.instanceMethod yX3_become ∈ bigT ∧ Cond.code yX3_become cX3_become 3 (none) ∈ bigT ∧ Cond.methodLink RX3 39 arraycopyName ∈ bigT ∧ Cond.static arraycopyName ∈ bigT ∧ Cond.native arraycopyName ∈ bigT ∧ Cond.instanceMethod yX0_squaresInAllViews ∈ bigT ∧ Cond.code yX0_squaresInAllViews cX0_squaresInAllViews 4 (some .int) ∈ bigT ∧ Cond.methodLink RX0 61 yX0_squaresInView ∈ bigT ∧ Cond.methodLink RX4 170 yX4_tryUntilBroken ∈ bigT ∧ Cond.instanceMethod yX4_tryUntilBroken ∈ bigT ∧ Cond.code yX4_tryUntilBroken cX4_tryUntilBroken 3 (some .int) ∈ bigT ∧ Cond.methodLink RX4 173 yX4_isBrokenWithout ∈ bigT ∧ Cond.instanceMethod yX4_isBrokenWithout ∈ bigT ∧ Cond.code yX4_isBrokenWithout cX4_isBrokenWithout 5 (some .boolean) ∈ bigT ∧ Cond.methodLink RX4 176 yX4_bestFor ∈ bigT ∧ Cond.instanceMethod yX4_bestFor ∈ bigT ∧ Cond.code yX4_bestFor cX4_bestFor 9 (some .int) ∈ bigT ∧ Cond.methodLink RX4 180 yJ6_bitCount_0f7a4 ∈ bigT ∧ Cond.static yJ6_bitCount_0f7a4 ∈ bigT ∧ True := by
  have h := tb_alls tables_1_2 tp_2 [130, 0, 2, 0, 0, 6, 0, 0, 0, 0, 2, 0, 0, 4, 1, 0, 4, 1, 0, 4, 1, 0, 12, 0] [Cond.instanceMethod yX0_payAll, Cond.code yX0_payAll cX0_payAll 4 (some .int), Cond.instanceMethod yX3_growAll, Cond.code yX3_growAll cX3_growAll 2 (none), Cond.methodLink RX3 59 yX3_growth, Cond.instanceMethod yX3_become, Cond.code yX3_become cX3_become 3 (none), Cond.methodLink RX3 39 arraycopyName, Cond.static arraycopyName, Cond.native arraycopyName, Cond.instanceMethod yX0_squaresInAllViews, Cond.code yX0_squaresInAllViews cX0_squaresInAllViews 4 (some .int), Cond.methodLink RX0 61 yX0_squaresInView, Cond.methodLink RX4 170 yX4_tryUntilBroken, Cond.instanceMethod yX4_tryUntilBroken, Cond.code yX4_tryUntilBroken cX4_tryUntilBroken 3 (some .int), Cond.methodLink RX4 173 yX4_isBrokenWithout, Cond.instanceMethod yX4_isBrokenWithout, Cond.code yX4_isBrokenWithout cX4_isBrokenWithout 5 (some .boolean), Cond.methodLink RX4 176 yX4_bestFor, Cond.instanceMethod yX4_bestFor, Cond.code yX4_bestFor cX4_bestFor 9 (some .int), Cond.methodLink RX4 180 yJ6_bitCount_0f7a4, Cond.static yJ6_bitCount_0f7a4] rfl (by decide +kernel)
  exact h
theorem tw_225 : Cond.instanceMethod yX0_payAll ∈ bigT := tg_6.1
theorem tw_224 : Cond.code yX0_payAll cX0_payAll 4 (some .int) ∈ bigT := tg_6.2.1
theorem tw_228 : Cond.instanceMethod yX3_growAll ∈ bigT := tg_6.2.2.1
theorem tw_227 : Cond.code yX3_growAll cX3_growAll 2 (none) ∈ bigT := tg_6.2.2.2.1
theorem tw_181 : Cond.methodLink RX3 59 yX3_growth ∈ bigT := tg_6.2.2.2.2.1
theorem tw_236 : Cond.instanceMethod yX3_become ∈ bigT := tg_6.2.2.2.2.2.1
theorem tw_235 : Cond.code yX3_become cX3_become 3 (none) ∈ bigT := tg_6.2.2.2.2.2.2.1
theorem tw_172 : Cond.methodLink RX3 39 arraycopyName ∈ bigT := tg_6.2.2.2.2.2.2.2.1
theorem tw_174 : Cond.static arraycopyName ∈ bigT := tg_6.2.2.2.2.2.2.2.2.1
theorem tw_173 : Cond.native arraycopyName ∈ bigT := tg_6.2.2.2.2.2.2.2.2.2.1
theorem tw_239 : Cond.instanceMethod yX0_squaresInAllViews ∈ bigT := tg_6.2.2.2.2.2.2.2.2.2.2.1
theorem tw_238 : Cond.code yX0_squaresInAllViews cX0_squaresInAllViews 4 (some .int) ∈ bigT := tg_6.2.2.2.2.2.2.2.2.2.2.2.1
theorem tw_70 : Cond.methodLink RX0 61 yX0_squaresInView ∈ bigT := tg_6.2.2.2.2.2.2.2.2.2.2.2.2.1
theorem tw_242 : Cond.methodLink RX4 170 yX4_tryUntilBroken ∈ bigT := tg_6.2.2.2.2.2.2.2.2.2.2.2.2.2.1
theorem tw_243 : Cond.instanceMethod yX4_tryUntilBroken ∈ bigT := tg_6.2.2.2.2.2.2.2.2.2.2.2.2.2.2.1
theorem tw_241 : Cond.code yX4_tryUntilBroken cX4_tryUntilBroken 3 (some .int) ∈ bigT := tg_6.2.2.2.2.2.2.2.2.2.2.2.2.2.2.2.1
theorem tw_246 : Cond.methodLink RX4 173 yX4_isBrokenWithout ∈ bigT := tg_6.2.2.2.2.2.2.2.2.2.2.2.2.2.2.2.2.1
theorem tw_247 : Cond.instanceMethod yX4_isBrokenWithout ∈ bigT := tg_6.2.2.2.2.2.2.2.2.2.2.2.2.2.2.2.2.2.1
theorem tw_245 : Cond.code yX4_isBrokenWithout cX4_isBrokenWithout 5 (some .boolean) ∈ bigT := tg_6.2.2.2.2.2.2.2.2.2.2.2.2.2.2.2.2.2.2.1
theorem tw_250 : Cond.methodLink RX4 176 yX4_bestFor ∈ bigT := tg_6.2.2.2.2.2.2.2.2.2.2.2.2.2.2.2.2.2.2.2.1
theorem tw_251 : Cond.instanceMethod yX4_bestFor ∈ bigT := tg_6.2.2.2.2.2.2.2.2.2.2.2.2.2.2.2.2.2.2.2.2.1
theorem tw_249 : Cond.code yX4_bestFor cX4_bestFor 9 (some .int) ∈ bigT := tg_6.2.2.2.2.2.2.2.2.2.2.2.2.2.2.2.2.2.2.2.2.2.1
theorem tw_255 : Cond.methodLink RX4 180 yJ6_bitCount_0f7a4 ∈ bigT := tg_6.2.2.2.2.2.2.2.2.2.2.2.2.2.2.2.2.2.2.2.2.2.2.1
theorem tw_256 : Cond.static yJ6_bitCount_0f7a4 ∈ bigT := tg_6.2.2.2.2.2.2.2.2.2.2.2.2.2.2.2.2.2.2.2.2.2.2.2.1
set_option maxRecDepth 100000 in
theorem tg_7 : Cond.code yJ6_bitCount_0f7a4 cJ6_bitCount_0f7a4 1 (some .int) ∈ bigT ∧ Cond.constant RJ6 265 (1431655765) ∈ bigT ∧ Cond.constant RJ6 266 (858993459) ∈ bigT ∧ Cond.constant RJ6 267 (252645135) ∈ bigT ∧ Cond.instanceMethod yX3_isOwnersLot ∈ bigT ∧ Cond.code yX3_isOwnersLot cX3_isOwnersLot 3 (some .boolean) ∈ bigT ∧ Cond.methodLink RX4 188 yX4_bothGainIfLower ∈ bigT ∧ Cond.instanceMethod yX4_bothGainIfLower ∈ bigT ∧ Cond.code yX4_bothGainIfLower cX4_bothGainIfLower 7 (some .boolean) ∈ bigT ∧ Cond.instanceMethod yX3_lower ∈ bigT ∧ Cond.code yX3_lower cX3_lower 3 (some .int) ∈ bigT ∧ Cond.instanceMethod yX3_exchange ∈ bigT ∧ Cond.code yX3_exchange cX3_exchange 5 (none) ∈ bigT ∧ Cond.methodLink RX4 195 yJ6_compare_7cf53 ∈ bigT ∧ True := by
  have h := tb_alls tables_1_2 tp_2 [191, 0, 0, 0, 26, 0, 0, 1, 0, 2, 0, 6, 0, 0] [Cond.code yJ6_bitCount_0f7a4 cJ6_bitCount_0f7a4 1 (some .int), Cond.constant RJ6 265 (1431655765), Cond.constant RJ6 266 (858993459), Cond.constant RJ6 267 (252645135), Cond.instanceMethod yX3_isOwnersLot, Cond.code yX3_isOwnersLot cX3_isOwnersLot 3 (some .boolean), Cond.methodLink RX4 188 yX4_bothGainIfLower, Cond.instanceMethod yX4_bothGainIfLower, Cond.code yX4_bothGainIfLower cX4_bothGainIfLower 7 (some .boolean), Cond.instanceMethod yX3_lower, Cond.code yX3_lower cX3_lower 3 (some .int), Cond.instanceMethod yX3_exchange, Cond.code yX3_exchange cX3_exchange 5 (none), Cond.methodLink RX4 195 yJ6_compare_7cf53] rfl (by decide +kernel)
  exact h
theorem tw_254 : Cond.code yJ6_bitCount_0f7a4 cJ6_bitCount_0f7a4 1 (some .int) ∈ bigT := tg_7.1
theorem tw_24 : Cond.constant RJ6 265 (1431655765) ∈ bigT := tg_7.2.1
theorem tw_25 : Cond.constant RJ6 266 (858993459) ∈ bigT := tg_7.2.2.1
theorem tw_26 : Cond.constant RJ6 267 (252645135) ∈ bigT := tg_7.2.2.2.1
theorem tw_262 : Cond.instanceMethod yX3_isOwnersLot ∈ bigT := tg_7.2.2.2.2.1
theorem tw_261 : Cond.code yX3_isOwnersLot cX3_isOwnersLot 3 (some .boolean) ∈ bigT := tg_7.2.2.2.2.2.1
theorem tw_265 : Cond.methodLink RX4 188 yX4_bothGainIfLower ∈ bigT := tg_7.2.2.2.2.2.2.1
theorem tw_266 : Cond.instanceMethod yX4_bothGainIfLower ∈ bigT := tg_7.2.2.2.2.2.2.2.1
theorem tw_264 : Cond.code yX4_bothGainIfLower cX4_bothGainIfLower 7 (some .boolean) ∈ bigT := tg_7.2.2.2.2.2.2.2.2.1
theorem tw_259 : Cond.instanceMethod yX3_lower ∈ bigT := tg_7.2.2.2.2.2.2.2.2.2.1
theorem tw_258 : Cond.code yX3_lower cX3_lower 3 (some .int) ∈ bigT := tg_7.2.2.2.2.2.2.2.2.2.2.1
theorem tw_269 : Cond.instanceMethod yX3_exchange ∈ bigT := tg_7.2.2.2.2.2.2.2.2.2.2.2.1
theorem tw_268 : Cond.code yX3_exchange cX3_exchange 5 (none) ∈ bigT := tg_7.2.2.2.2.2.2.2.2.2.2.2.2.1
theorem tw_272 : Cond.methodLink RX4 195 yJ6_compare_7cf53 ∈ bigT := tg_7.2.2.2.2.2.2.2.2.2.2.2.2.2.1
set_option maxRecDepth 100000 in
theorem tg_8 : Cond.static yJ6_compare_7cf53 ∈ bigT ∧ Cond.code yJ6_compare_7cf53 cJ6_compare_7cf53 2 (some .int) ∈ bigT ∧ Cond.instanceMethod yX3_draw ∈ bigT ∧ Cond.code yX3_draw cX3_draw 1 (some .int) ∈ bigT ∧ Cond.constant RX3 63 (1103515245) ∈ bigT ∧ Cond.instanceMethod yX3_lotOfThing ∈ bigT ∧ Cond.code yX3_lotOfThing cX3_lotOfThing 4 (some .int) ∈ bigT ∧ Cond.instanceMethod yX2_append ∈ bigT ∧ Cond.code yX2_append cX2_append 2 (none) ∈ bigT ∧ Cond.instanceMethod yX2_readText ∈ bigT ∧ Cond.code yX2_readText cX2_readText 3 (some .int) ∈ bigT ∧ Cond.methodLink RX2 34 yX2_nextToken ∈ bigT ∧ Cond.instanceMethod yX2_nextToken ∈ bigT ∧ Cond.code yX2_nextToken cX2_nextToken 1 (none) ∈ bigT ∧ Cond.methodLink RX2 143 yX2_sortAt ∈ bigT ∧ Cond.instanceMethod yX2_sortAt ∈ bigT ∧ Cond.code yX2_sortAt cX2_sortAt 3 (some .int) ∈ bigT ∧ Cond.methodLink RX2 146 yJ9_min_7cf53 ∈ bigT ∧ Cond.methodLink RX2 37 yX2_readItem ∈ bigT ∧ Cond.instanceMethod yX2_readItem ∈ bigT ∧ Cond.code yX2_readItem cX2_readItem 3 (none) ∈ bigT ∧ Cond.methodLink RX2 44 yX2_kindOfWord ∈ bigT ∧ Cond.instanceMethod yX2_kindOfWord ∈ bigT ∧ Cond.code yX2_kindOfWord cX2_kindOfWord 1 (some .int) ∈ bigT ∧ True := by
  have h := tb_alls tables_1_3 tp_3 [0, 0, 6, 0, 0, 2, 0, 10, 0, 10, 0, 0, 1, 0, 0, 1, 0, 0, 0, 1, 0, 0, 1, 0] [Cond.static yJ6_compare_7cf53, Cond.code yJ6_compare_7cf53 cJ6_compare_7cf53 2 (some .int), Cond.instanceMethod yX3_draw, Cond.code yX3_draw cX3_draw 1 (some .int), Cond.constant RX3 63 (1103515245), Cond.instanceMethod yX3_lotOfThing, Cond.code yX3_lotOfThing cX3_lotOfThing 4 (some .int), Cond.instanceMethod yX2_append, Cond.code yX2_append cX2_append 2 (none), Cond.instanceMethod yX2_readText, Cond.code yX2_readText cX2_readText 3 (some .int), Cond.methodLink RX2 34 yX2_nextToken, Cond.instanceMethod yX2_nextToken, Cond.code yX2_nextToken cX2_nextToken 1 (none), Cond.methodLink RX2 143 yX2_sortAt, Cond.instanceMethod yX2_sortAt, Cond.code yX2_sortAt cX2_sortAt 3 (some .int), Cond.methodLink RX2 146 yJ9_min_7cf53, Cond.methodLink RX2 37 yX2_readItem, Cond.instanceMethod yX2_readItem, Cond.code yX2_readItem cX2_readItem 3 (none), Cond.methodLink RX2 44 yX2_kindOfWord, Cond.instanceMethod yX2_kindOfWord, Cond.code yX2_kindOfWord cX2_kindOfWord 1 (some .int)] rfl (by decide +kernel)
  exact h
theorem tw_273 : Cond.static yJ6_compare_7cf53 ∈ bigT := tg_8.1
theorem tw_271 : Cond.code yJ6_compare_7cf53 cJ6_compare_7cf53 2 (some .int) ∈ bigT := tg_8.2.1
theorem tw_275 : Cond.instanceMethod yX3_draw ∈ bigT := tg_8.2.2.1
theorem tw_274 : Cond.code yX3_draw cX3_draw 1 (some .int) ∈ bigT := tg_8.2.2.2.1
theorem tw_184 : Cond.constant RX3 63 (1103515245) ∈ bigT := tg_8.2.2.2.2.1
theorem tw_278 : Cond.instanceMethod yX3_lotOfThing ∈ bigT := tg_8.2.2.2.2.2.1
theorem tw_277 : Cond.code yX3_lotOfThing cX3_lotOfThing 4 (some .int) ∈ bigT := tg_8.2.2.2.2.2.2.1
theorem tw_282 : Cond.instanceMethod yX2_append ∈ bigT := tg_8.2.2.2.2.2.2.2.1
theorem tw_281 : Cond.code yX2_append cX2_append 2 (none) ∈ bigT := tg_8.2.2.2.2.2.2.2.2.1
theorem tw_285 : Cond.instanceMethod yX2_readText ∈ bigT := tg_8.2.2.2.2.2.2.2.2.2.1
theorem tw_284 : Cond.code yX2_readText cX2_readText 3 (some .int) ∈ bigT := tg_8.2.2.2.2.2.2.2.2.2.2.1
theorem tw_122 : Cond.methodLink RX2 34 yX2_nextToken ∈ bigT := tg_8.2.2.2.2.2.2.2.2.2.2.2.1
theorem tw_123 : Cond.instanceMethod yX2_nextToken ∈ bigT := tg_8.2.2.2.2.2.2.2.2.2.2.2.2.1
theorem tw_121 : Cond.code yX2_nextToken cX2_nextToken 1 (none) ∈ bigT := tg_8.2.2.2.2.2.2.2.2.2.2.2.2.2.1
theorem tw_97 : Cond.methodLink RX2 143 yX2_sortAt ∈ bigT := tg_8.2.2.2.2.2.2.2.2.2.2.2.2.2.2.1
theorem tw_98 : Cond.instanceMethod yX2_sortAt ∈ bigT := tg_8.2.2.2.2.2.2.2.2.2.2.2.2.2.2.2.1
theorem tw_96 : Cond.code yX2_sortAt cX2_sortAt 3 (some .int) ∈ bigT := tg_8.2.2.2.2.2.2.2.2.2.2.2.2.2.2.2.2.1
theorem tw_103 : Cond.methodLink RX2 146 yJ9_min_7cf53 ∈ bigT := tg_8.2.2.2.2.2.2.2.2.2.2.2.2.2.2.2.2.2.1
theorem tw_169 : Cond.methodLink RX2 37 yX2_readItem ∈ bigT := tg_8.2.2.2.2.2.2.2.2.2.2.2.2.2.2.2.2.2.2.1
theorem tw_170 : Cond.instanceMethod yX2_readItem ∈ bigT := tg_8.2.2.2.2.2.2.2.2.2.2.2.2.2.2.2.2.2.2.2.1
theorem tw_168 : Cond.code yX2_readItem cX2_readItem 3 (none) ∈ bigT := tg_8.2.2.2.2.2.2.2.2.2.2.2.2.2.2.2.2.2.2.2.2.1
theorem tw_149 : Cond.methodLink RX2 44 yX2_kindOfWord ∈ bigT := tg_8.2.2.2.2.2.2.2.2.2.2.2.2.2.2.2.2.2.2.2.2.2.1
theorem tw_150 : Cond.instanceMethod yX2_kindOfWord ∈ bigT := tg_8.2.2.2.2.2.2.2.2.2.2.2.2.2.2.2.2.2.2.2.2.2.2.1
theorem tw_148 : Cond.code yX2_kindOfWord cX2_kindOfWord 1 (some .int) ∈ bigT := tg_8.2.2.2.2.2.2.2.2.2.2.2.2.2.2.2.2.2.2.2.2.2.2.2.1
set_option maxRecDepth 100000 in
theorem tg_9 : Cond.methodLink RX2 54 yX2_isWord ∈ bigT ∧ Cond.instanceMethod yX2_isWord ∈ bigT ∧ Cond.code yX2_isWord cX2_isWord 3 (some .boolean) ∈ bigT ∧ Cond.methodLink RX2 135 yJ0_length_8abf5 ∈ bigT ∧ Cond.instanceMethod yJ0_length_8abf5 ∈ bigT ∧ Cond.selects RJ0 yJ0_length_8abf5 yJ0_length_8abf5 ∈ bigT ∧ Cond.code yJ0_length_8abf5 cJ0_length_8abf5 1 (some .int) ∈ bigT ∧ Cond.methodLink RJ0 335 yJ0_coder_7d493 ∈ bigT ∧ Cond.instanceMethod yJ0_coder_7d493 ∈ bigT ∧ Cond.selects RJ0 yJ0_coder_7d493 yJ0_coder_7d493 ∈ bigT ∧ Cond.code yJ0_coder_7d493 cJ0_coder_7d493 1 (some .byte) ∈ bigT ∧ Cond.fieldLink RJ0 38 "java/lang/String" "COMPACT_STRINGS" "Z" ∈ bigT ∧ Cond.methodLink RX2 139 yJ0_charAt_5068e ∈ bigT ∧ Cond.instanceMethod yJ0_charAt_5068e ∈ bigT ∧ Cond.selects RJ0 yJ0_charAt_5068e yJ0_charAt_5068e ∈ bigT ∧ Cond.code yJ0_charAt_5068e cJ0_charAt_5068e 2 (some .char) ∈ bigT ∧ Cond.methodLink RJ0 492 yJ0_isLatin1_aae02 ∈ bigT ∧ Cond.instanceMethod yJ0_isLatin1_aae02 ∈ bigT ∧ Cond.selects RJ0 yJ0_isLatin1_aae02 yJ0_isLatin1_aae02 ∈ bigT ∧ Cond.code yJ0_isLatin1_aae02 cJ0_isLatin1_aae02 1 (some .boolean) ∈ bigT ∧ Cond.methodLink RJ0 495 yJ1_charAt_3b067 ∈ bigT ∧ Cond.static yJ1_charAt_3b067 ∈ bigT ∧ Cond.code yJ1_charAt_3b067 cJ1_charAt_3b067 2 (some .char) ∈ bigT ∧ Cond.methodLink RJ1 9 yJ0_checkIndex_df160 ∈ bigT ∧ True := by
  have h := tb_alls tables_1_3 tp_3 [57, 1, 0, 0, 0, 0, 0, 0, 0, 0, 0, 0, 1, 0, 0, 0, 0, 0, 0, 0, 0, 0, 0, 0] [Cond.methodLink RX2 54 yX2_isWord, Cond.instanceMethod yX2_isWord, Cond.code yX2_isWord cX2_isWord 3 (some .boolean), Cond.methodLink RX2 135 yJ0_length_8abf5, Cond.instanceMethod yJ0_length_8abf5, Cond.selects RJ0 yJ0_length_8abf5 yJ0_length_8abf5, Cond.code yJ0_length_8abf5 cJ0_length_8abf5 1 (some .int), Cond.methodLink RJ0 335 yJ0_coder_7d493, Cond.instanceMethod yJ0_coder_7d493, Cond.selects RJ0 yJ0_coder_7d493 yJ0_coder_7d493, Cond.code yJ0_coder_7d493 cJ0_coder_7d493 1 (some .byte), Cond.fieldLink RJ0 38 "java/lang/String" "COMPACT_STRINGS" "Z", Cond.methodLink RX2 139 yJ0_charAt_5068e, Cond.instanceMethod yJ0_charAt_5068e, Cond.selects RJ0 yJ0_charAt_5068e yJ0_charAt_5068e, Cond.code yJ0_charAt_5068e cJ0_charAt_5068e 2 (some .char), Cond.methodLink RJ0 492 yJ0_isLatin1_aae02, Cond.instanceMethod yJ0_isLatin1_aae02, Cond.selects RJ0 yJ0_isLatin1_aae02 yJ0_isLatin1_aae02, Cond.code yJ0_isLatin1_aae02 cJ0_isLatin1_aae02 1 (some .boolean), Cond.methodLink RJ0 495 yJ1_charAt_3b067, Cond.static yJ1_charAt_3b067, Cond.code yJ1_charAt_3b067 cJ1_charAt_3b067 2 (some .char), Cond.methodLink RJ1 9 yJ0_checkIndex_df160] rfl (by decide +kernel)
  exact h
theorem tw_113 : Cond.methodLink RX2 54 yX2_isWord ∈ bigT := tg_9.1
theorem tw_114 : Cond.instanceMethod yX2_isWord ∈ bigT := tg_9.2.1
theorem tw_112 : Cond.code yX2_isWord cX2_isWord 3 (some .boolean) ∈ bigT := tg_9.2.2.1
theorem tw_105 : Cond.methodLink RX2 135 yJ0_length_8abf5 ∈ bigT := tg_9.2.2.2.1
theorem tw_106 : Cond.instanceMethod yJ0_length_8abf5 ∈ bigT := tg_9.2.2.2.2.1
theorem tw_107 : Cond.selects RJ0 yJ0_length_8abf5 yJ0_length_8abf5 ∈ bigT := tg_9.2.2.2.2.2.1
theorem tw_104 : Cond.code yJ0_length_8abf5 cJ0_length_8abf5 1 (some .int) ∈ bigT := tg_9.2.2.2.2.2.2.1
theorem tw_12 : Cond.methodLink RJ0 335 yJ0_coder_7d493 ∈ bigT := tg_9.2.2.2.2.2.2.2.1
theorem tw_5 : Cond.instanceMethod yJ0_coder_7d493 ∈ bigT := tg_9.2.2.2.2.2.2.2.2.1
theorem tw_6 : Cond.selects RJ0 yJ0_coder_7d493 yJ0_coder_7d493 ∈ bigT := tg_9.2.2.2.2.2.2.2.2.2.1
theorem tw_0 : Cond.code yJ0_coder_7d493 cJ0_coder_7d493 1 (some .byte) ∈ bigT := tg_9.2.2.2.2.2.2.2.2.2.2.1
theorem tw_20 : Cond.fieldLink RJ0 38 "java/lang/String" "COMPACT_STRINGS" "Z" ∈ bigT := tg_9.2.2.2.2.2.2.2.2.2.2.2.1
theorem tw_109 : Cond.methodLink RX2 139 yJ0_charAt_5068e ∈ bigT := tg_9.2.2.2.2.2.2.2.2.2.2.2.2.1
theorem tw_110 : Cond.instanceMethod yJ0_charAt_5068e ∈ bigT := tg_9.2.2.2.2.2.2.2.2.2.2.2.2.2.1
theorem tw_111 : Cond.selects RJ0 yJ0_charAt_5068e yJ0_charAt_5068e ∈ bigT := tg_9.2.2.2.2.2.2.2.2.2.2.2.2.2.2.1
theorem tw_108 : Cond.code yJ0_charAt_5068e cJ0_charAt_5068e 2 (some .char) ∈ bigT := tg_9.2.2.2.2.2.2.2.2.2.2.2.2.2.2.2.1
theorem tw_13 : Cond.methodLink RJ0 492 yJ0_isLatin1_aae02 ∈ bigT := tg_9.2.2.2.2.2.2.2.2.2.2.2.2.2.2.2.2.1
theorem tw_7 : Cond.instanceMethod yJ0_isLatin1_aae02 ∈ bigT := tg_9.2.2.2.2.2.2.2.2.2.2.2.2.2.2.2.2.2.1
theorem tw_8 : Cond.selects RJ0 yJ0_isLatin1_aae02 yJ0_isLatin1_aae02 ∈ bigT := tg_9.2.2.2.2.2.2.2.2.2.2.2.2.2.2.2.2.2.2.1
theorem tw_1 : Cond.code yJ0_isLatin1_aae02 cJ0_isLatin1_aae02 1 (some .boolean) ∈ bigT := tg_9.2.2.2.2.2.2.2.2.2.2.2.2.2.2.2.2.2.2.2.1
theorem tw_14 : Cond.methodLink RJ0 495 yJ1_charAt_3b067 ∈ bigT := tg_9.2.2.2.2.2.2.2.2.2.2.2.2.2.2.2.2.2.2.2.2.1
theorem tw_10 : Cond.static yJ1_charAt_3b067 ∈ bigT := tg_9.2.2.2.2.2.2.2.2.2.2.2.2.2.2.2.2.2.2.2.2.2.1
theorem tw_3 : Cond.code yJ1_charAt_3b067 cJ1_charAt_3b067 2 (some .char) ∈ bigT := tg_9.2.2.2.2.2.2.2.2.2.2.2.2.2.2.2.2.2.2.2.2.2.2.1
theorem tw_15 : Cond.methodLink RJ1 9 yJ0_checkIndex_df160 ∈ bigT := tg_9.2.2.2.2.2.2.2.2.2.2.2.2.2.2.2.2.2.2.2.2.2.2.2.1
set_option maxRecDepth 100000 in
theorem tg_10 : Cond.static yJ0_checkIndex_df160 ∈ bigT ∧ Cond.code yJ0_checkIndex_df160 cJ0_checkIndex_df160 2 (none) ∈ bigT ∧ Cond.fieldLink RJ0 1053 "jdk/internal/util/Preconditions" "SIOOBE_FORMATTER" "Ljava/util/function/BiFunction;" ∈ bigT ∧ Cond.methodLink RJ0 1059 yJ3_checkIndex_8e157 ∈ bigT ∧ Cond.static yJ3_checkIndex_8e157 ∈ bigT ∧ Cond.code yJ3_checkIndex_8e157 cJ3_checkIndex_8e157 3 (some .int) ∈ bigT ∧ Cond.methodLink RX2 48 yX2_readThing ∈ bigT ∧ Cond.instanceMethod yX2_readThing ∈ bigT ∧ Cond.code yX2_readThing cX2_readThing 7 (none) ∈ bigT ∧ Cond.methodLink RX2 78 yX2_takeWord ∈ bigT ∧ Cond.instanceMethod yX2_takeWord ∈ bigT ∧ Cond.code yX2_takeWord cX2_takeWord 2 (none) ∈ bigT ∧ Cond.methodLink RX2 41 yX2_failHere ∈ bigT ∧ Cond.instanceMethod yX2_failHere ∈ bigT ∧ Cond.code yX2_failHere cX2_failHere 1 (none) ∈ bigT ∧ Cond.methodLink RX2 82 yX2_takeLot ∈ bigT ∧ Cond.instanceMethod yX2_takeLot ∈ bigT ∧ Cond.code yX2_takeLot cX2_takeLot 4 (some .int) ∈ bigT ∧ Cond.methodLink RX2 88 yX2_takeNumber ∈ bigT ∧ Cond.instanceMethod yX2_takeNumber ∈ bigT ∧ Cond.code yX2_takeNumber cX2_takeNumber 3 (some .int) ∈ bigT ∧ Cond.methodLink RX2 63 yX2_readWindow ∈ bigT ∧ Cond.instanceMethod yX2_readWindow ∈ bigT ∧ Cond.code yX2_readWindow cX2_readWindow 6 (none) ∈ bigT ∧ True := by
  have h := tb_alls tables_1_3 tp_3 [83, 0, 0, 1, 0, 0, 25, 1, 0, 1, 1, 0, 0, 1, 0, 0, 1, 0, 2, 1, 0, 4, 1, 0] [Cond.static yJ0_checkIndex_df160, Cond.code yJ0_checkIndex_df160 cJ0_checkIndex_df160 2 (none), Cond.fieldLink RJ0 1053 "jdk/internal/util/Preconditions" "SIOOBE_FORMATTER" "Ljava/util/function/BiFunction;", Cond.methodLink RJ0 1059 yJ3_checkIndex_8e157, Cond.static yJ3_checkIndex_8e157, Cond.code yJ3_checkIndex_8e157 cJ3_checkIndex_8e157 3 (some .int), Cond.methodLink RX2 48 yX2_readThing, Cond.instanceMethod yX2_readThing, Cond.code yX2_readThing cX2_readThing 7 (none), Cond.methodLink RX2 78 yX2_takeWord, Cond.instanceMethod yX2_takeWord, Cond.code yX2_takeWord cX2_takeWord 2 (none), Cond.methodLink RX2 41 yX2_failHere, Cond.instanceMethod yX2_failHere, Cond.code yX2_failHere cX2_failHere 1 (none), Cond.methodLink RX2 82 yX2_takeLot, Cond.instanceMethod yX2_takeLot, Cond.code yX2_takeLot cX2_takeLot 4 (some .int), Cond.methodLink RX2 88 yX2_takeNumber, Cond.instanceMethod yX2_takeNumber, Cond.code yX2_takeNumber cX2_takeNumber 3 (some .int), Cond.methodLink RX2 63 yX2_readWindow, Cond.instanceMethod yX2_readWindow, Cond.code yX2_readWindow cX2_readWindow 6 (none)] rfl (by decide +kernel)
  exact h
theorem tw_9 : Cond.static yJ0_checkIndex_df160 ∈ bigT := tg_10.1
theorem tw_2 : Cond.code yJ0_checkIndex_df160 cJ0_checkIndex_df160 2 (none) ∈ bigT := tg_10.2.1
theorem tw_21 : Cond.fieldLink RJ0 1053 "jdk/internal/util/Preconditions" "SIOOBE_FORMATTER" "Ljava/util/function/BiFunction;" ∈ bigT := tg_10.2.2.1
theorem tw_16 : Cond.methodLink RJ0 1059 yJ3_checkIndex_8e157 ∈ bigT := tg_10.2.2.2.1
theorem tw_11 : Cond.static yJ3_checkIndex_8e157 ∈ bigT := tg_10.2.2.2.2.1
theorem tw_4 : Cond.code yJ3_checkIndex_8e157 cJ3_checkIndex_8e157 3 (some .int) ∈ bigT := tg_10.2.2.2.2.2.1
theorem tw_165 : Cond.methodLink RX2 48 yX2_readThing ∈ bigT := tg_10.2.2.2.2.2.2.1
theorem tw_166 : Cond.instanceMethod yX2_readThing ∈ bigT := tg_10.2.2.2.2.2.2.2.1
theorem tw_164 : Cond.code yX2_readThing cX2_readThing 7 (none) ∈ bigT := tg_10.2.2.2.2.2.2.2.2.1
theorem tw_126 : Cond.methodLink RX2 78 yX2_takeWord ∈ bigT := tg_10.2.2.2.2.2.2.2.2.2.1
theorem tw_127 : Cond.instanceMethod yX2_takeWord ∈ bigT := tg_10.2.2.2.2.2.2.2.2.2.2.1
theorem tw_125 : Cond.code yX2_takeWord cX2_takeWord 2 (none) ∈ bigT := tg_10.2.2.2.2.2.2.2.2.2.2.2.1
theorem tw_118 : Cond.methodLink RX2 41 yX2_failHere ∈ bigT := tg_10.2.2.2.2.2.2.2.2.2.2.2.2.1
theorem tw_119 : Cond.instanceMethod yX2_failHere ∈ bigT := tg_10.2.2.2.2.2.2.2.2.2.2.2.2.2.1
theorem tw_117 : Cond.code yX2_failHere cX2_failHere 1 (none) ∈ bigT := tg_10.2.2.2.2.2.2.2.2.2.2.2.2.2.2.1
theorem tw_130 : Cond.methodLink RX2 82 yX2_takeLot ∈ bigT := tg_10.2.2.2.2.2.2.2.2.2.2.2.2.2.2.2.1
theorem tw_131 : Cond.instanceMethod yX2_takeLot ∈ bigT := tg_10.2.2.2.2.2.2.2.2.2.2.2.2.2.2.2.2.1
theorem tw_129 : Cond.code yX2_takeLot cX2_takeLot 4 (some .int) ∈ bigT := tg_10.2.2.2.2.2.2.2.2.2.2.2.2.2.2.2.2.2.1
theorem tw_134 : Cond.methodLink RX2 88 yX2_takeNumber ∈ bigT := tg_10.2.2.2.2.2.2.2.2.2.2.2.2.2.2.2.2.2.2.1
theorem tw_135 : Cond.instanceMethod yX2_takeNumber ∈ bigT := tg_10.2.2.2.2.2.2.2.2.2.2.2.2.2.2.2.2.2.2.2.1
theorem tw_133 : Cond.code yX2_takeNumber cX2_takeNumber 3 (some .int) ∈ bigT := tg_10.2.2.2.2.2.2.2.2.2.2.2.2.2.2.2.2.2.2.2.2.1
theorem tw_161 : Cond.methodLink RX2 63 yX2_readWindow ∈ bigT := tg_10.2.2.2.2.2.2.2.2.2.2.2.2.2.2.2.2.2.2.2.2.2.1
theorem tw_162 : Cond.instanceMethod yX2_readWindow ∈ bigT := tg_10.2.2.2.2.2.2.2.2.2.2.2.2.2.2.2.2.2.2.2.2.2.2.1
theorem tw_160 : Cond.code yX2_readWindow cX2_readWindow 6 (none) ∈ bigT := tg_10.2.2.2.2.2.2.2.2.2.2.2.2.2.2.2.2.2.2.2.2.2.2.2.1
set_option maxRecDepth 100000 in
theorem tg_11 : Cond.methodLink RX2 68 yX2_readPrice ∈ bigT ∧ Cond.instanceMethod yX2_readPrice ∈ bigT ∧ Cond.code yX2_readPrice cX2_readPrice 4 (none) ∈ bigT ∧ Cond.methodLink RX2 73 yX2_readClear ∈ bigT ∧ Cond.instanceMethod yX2_readClear ∈ bigT ∧ Cond.code yX2_readClear cX2_readClear 3 (none) ∈ bigT ∧ Cond.methodLink RX4 222 yX4_isOfKind ∈ bigT ∧ Cond.static yX4_isOfKind ∈ bigT ∧ Cond.code yX4_isOfKind cX4_isOfKind 2 (some .boolean) ∈ bigT ∧ Cond.methodLink RX4 264 yX4_kindAbove ∈ bigT ∧ Cond.static yX4_kindAbove ∈ bigT ∧ Cond.code yX4_kindAbove cX4_kindAbove 1 (some .int) ∈ bigT ∧ Cond.instanceMethod yX1_begin ∈ bigT ∧ Cond.code yX1_begin cX1_begin 5 (none) ∈ bigT ∧ Cond.instanceMethod yX1_isMissing ∈ bigT ∧ Cond.code yX1_isMissing cX1_isMissing 2 (some .boolean) ∈ bigT ∧ Cond.instanceMethod yX1_store ∈ bigT ∧ Cond.code yX1_store cX1_store 4 (none) ∈ bigT ∧ Cond.instanceMethod yX1_hasRange ∈ bigT ∧ Cond.code yX1_hasRange cX1_hasRange 4 (some .boolean) ∈ bigT ∧ Cond.methodLink RX4 248 arraycopyName ∈ bigT ∧ Cond.instanceMethod yX3_heightOfAll ∈ bigT ∧ Cond.code yX3_heightOfAll cX3_heightOfAll 3 (some .int) ∈ bigT ∧ Cond.instanceMethod yX3_contractCount ∈ bigT ∧ True := by
  have h := tb_alls tables_1_3 tp_3 [151, 1, 0, 1, 1, 0, 10, 0, 0, 0, 0, 0, 6, 0, 6, 0, 2, 0, 6, 0, 0, 26, 0, 2] [Cond.methodLink RX2 68 yX2_readPrice, Cond.instanceMethod yX2_readPrice, Cond.code yX2_readPrice cX2_readPrice 4 (none), Cond.methodLink RX2 73 yX2_readClear, Cond.instanceMethod yX2_readClear, Cond.code yX2_readClear cX2_readClear 3 (none), Cond.methodLink RX4 222 yX4_isOfKind, Cond.static yX4_isOfKind, Cond.code yX4_isOfKind cX4_isOfKind 2 (some .boolean), Cond.methodLink RX4 264 yX4_kindAbove, Cond.static yX4_kindAbove, Cond.code yX4_kindAbove cX4_kindAbove 1 (some .int), Cond.instanceMethod yX1_begin, Cond.code yX1_begin cX1_begin 5 (none), Cond.instanceMethod yX1_isMissing, Cond.code yX1_isMissing cX1_isMissing 2 (some .boolean), Cond.instanceMethod yX1_store, Cond.code yX1_store cX1_store 4 (none), Cond.instanceMethod yX1_hasRange, Cond.code yX1_hasRange cX1_hasRange 4 (some .boolean), Cond.methodLink RX4 248 arraycopyName, Cond.instanceMethod yX3_heightOfAll, Cond.code yX3_heightOfAll cX3_heightOfAll 3 (some .int), Cond.instanceMethod yX3_contractCount] rfl (by decide +kernel)
  exact h
theorem tw_157 : Cond.methodLink RX2 68 yX2_readPrice ∈ bigT := tg_11.1
theorem tw_158 : Cond.instanceMethod yX2_readPrice ∈ bigT := tg_11.2.1
theorem tw_156 : Cond.code yX2_readPrice cX2_readPrice 4 (none) ∈ bigT := tg_11.2.2.1
theorem tw_153 : Cond.methodLink RX2 73 yX2_readClear ∈ bigT := tg_11.2.2.2.1
theorem tw_154 : Cond.instanceMethod yX2_readClear ∈ bigT := tg_11.2.2.2.2.1
theorem tw_152 : Cond.code yX2_readClear cX2_readClear 3 (none) ∈ bigT := tg_11.2.2.2.2.2.1
theorem tw_291 : Cond.methodLink RX4 222 yX4_isOfKind ∈ bigT := tg_11.2.2.2.2.2.2.1
theorem tw_292 : Cond.static yX4_isOfKind ∈ bigT := tg_11.2.2.2.2.2.2.2.1
theorem tw_290 : Cond.code yX4_isOfKind cX4_isOfKind 2 (some .boolean) ∈ bigT := tg_11.2.2.2.2.2.2.2.2.1
theorem tw_288 : Cond.methodLink RX4 264 yX4_kindAbove ∈ bigT := tg_11.2.2.2.2.2.2.2.2.2.1
theorem tw_289 : Cond.static yX4_kindAbove ∈ bigT := tg_11.2.2.2.2.2.2.2.2.2.2.1
theorem tw_287 : Cond.code yX4_kindAbove cX4_kindAbove 1 (some .int) ∈ bigT := tg_11.2.2.2.2.2.2.2.2.2.2.2.1
theorem tw_296 : Cond.instanceMethod yX1_begin ∈ bigT := tg_11.2.2.2.2.2.2.2.2.2.2.2.2.1
theorem tw_294 : Cond.code yX1_begin cX1_begin 5 (none) ∈ bigT := tg_11.2.2.2.2.2.2.2.2.2.2.2.2.2.1
theorem tw_299 : Cond.instanceMethod yX1_isMissing ∈ bigT := tg_11.2.2.2.2.2.2.2.2.2.2.2.2.2.2.1
theorem tw_298 : Cond.code yX1_isMissing cX1_isMissing 2 (some .boolean) ∈ bigT := tg_11.2.2.2.2.2.2.2.2.2.2.2.2.2.2.2.1
theorem tw_302 : Cond.instanceMethod yX1_store ∈ bigT := tg_11.2.2.2.2.2.2.2.2.2.2.2.2.2.2.2.2.1
theorem tw_301 : Cond.code yX1_store cX1_store 4 (none) ∈ bigT := tg_11.2.2.2.2.2.2.2.2.2.2.2.2.2.2.2.2.2.1
theorem tw_305 : Cond.instanceMethod yX1_hasRange ∈ bigT := tg_11.2.2.2.2.2.2.2.2.2.2.2.2.2.2.2.2.2.2.1
theorem tw_304 : Cond.code yX1_hasRange cX1_hasRange 4 (some .boolean) ∈ bigT := tg_11.2.2.2.2.2.2.2.2.2.2.2.2.2.2.2.2.2.2.2.1
theorem tw_307 : Cond.methodLink RX4 248 arraycopyName ∈ bigT := tg_11.2.2.2.2.2.2.2.2.2.2.2.2.2.2.2.2.2.2.2.2.1
theorem tw_311 : Cond.instanceMethod yX3_heightOfAll ∈ bigT := tg_11.2.2.2.2.2.2.2.2.2.2.2.2.2.2.2.2.2.2.2.2.2.1
theorem tw_310 : Cond.code yX3_heightOfAll cX3_heightOfAll 3 (some .int) ∈ bigT := tg_11.2.2.2.2.2.2.2.2.2.2.2.2.2.2.2.2.2.2.2.2.2.2.1
theorem tw_314 : Cond.instanceMethod yX3_contractCount ∈ bigT := tg_11.2.2.2.2.2.2.2.2.2.2.2.2.2.2.2.2.2.2.2.2.2.2.2.1
set_option maxRecDepth 100000 in
theorem tg_12 : Cond.code yX3_contractCount cX3_contractCount 3 (some .int) ∈ bigT ∧ Cond.instanceMethod yX3_spotsInUse ∈ bigT ∧ True := by
  have h := tb_alls tables_1_3 tp_3 [236, 2] [Cond.code yX3_contractCount cX3_contractCount 3 (some .int), Cond.instanceMethod yX3_spotsInUse] rfl (by decide +kernel)
  exact h
theorem tw_313 : Cond.code yX3_contractCount cX3_contractCount 3 (some .int) ∈ bigT := tg_12.1
theorem tw_317 : Cond.instanceMethod yX3_spotsInUse ∈ bigT := tg_12.2.1
set_option maxRecDepth 100000 in
theorem tg_13 : Cond.code yX3_spotsInUse cX3_spotsInUse 3 (some .int) ∈ bigT ∧ Cond.methodLink RX5 46 yX5_at ∈ bigT ∧ Cond.static yX5_at ∈ bigT ∧ Cond.code yX5_at cX5_at 2 (some .int) ∈ bigT ∧ Cond.fieldLink RX5 7 RX5 "s" "[I" ∈ bigT ∧ Cond.fieldLink RX5 13 RX5 "keptS" "[I" ∈ bigT ∧ Cond.fieldLink RX5 16 RX5 "other" "[I" ∈ bigT ∧ Cond.fieldLink RX5 19 RX5 "statuses" "[I" ∈ bigT ∧ Cond.fieldLink RX5 334 RX5 "isKept" "Z" ∈ bigT ∧ Cond.fieldLink RX5 22 RX5 "squares" "[I" ∈ bigT ∧ Cond.fieldLink RX5 146 RX5 "allSquares" "I" ∈ bigT ∧ Cond.fieldLink RX5 150 RX5 "rentHere" "I" ∈ bigT ∧ Cond.fieldLink RX5 153 RX5 "lotSet" "I" ∈ bigT ∧ Cond.fieldLink RX5 25 RX5 "gains" "[I" ∈ bigT ∧ Cond.fieldLink RX5 28 RX5 "hadGains" "[I" ∈ bigT ∧ Cond.fieldLink RX5 31 RX5 "tape" "[I" ∈ bigT ∧ Cond.fieldLink RX5 215 RX5 "taped" "I" ∈ bigT ∧ Cond.fieldLink RX5 229 RX5 "from" "I" ∈ bigT ∧ Cond.fieldLink RX5 226 RX5 "to" "I" ∈ bigT ∧ Cond.fieldLink RX5 252 RX5 "value" "I" ∈ bigT ∧ Cond.fieldLink RX5 241 RX5 "isWrong" "Z" ∈ bigT ∧ Cond.fieldLink RX5 34 RX5 "bitsOf" "[I" ∈ bigT ∧ Cond.fieldLink RX5 37 RX5 "sizeOf" "[I" ∈ bigT ∧ Cond.fieldLink RX5 40 RX5 "number" "[I" ∈ bigT ∧ True := by
  have h := tb_alls tables_1_4 tp_4 [0, 10, 0, 0, 0, 0, 0, 0, 0, 0, 0, 0, 0, 0, 0, 0, 0, 0, 0, 0, 0, 0, 0, 0] [Cond.code yX3_spotsInUse cX3_spotsInUse 3 (some .int), Cond.methodLink RX5 46 yX5_at, Cond.static yX5_at, Cond.code yX5_at cX5_at 2 (some .int), Cond.fieldLink RX5 7 RX5 "s" "[I", Cond.fieldLink RX5 13 RX5 "keptS" "[I", Cond.fieldLink RX5 16 RX5 "other" "[I", Cond.fieldLink RX5 19 RX5 "statuses" "[I", Cond.fieldLink RX5 334 RX5 "isKept" "Z", Cond.fieldLink RX5 22 RX5 "squares" "[I", Cond.fieldLink RX5 146 RX5 "allSquares" "I", Cond.fieldLink RX5 150 RX5 "rentHere" "I", Cond.fieldLink RX5 153 RX5 "lotSet" "I", Cond.fieldLink RX5 25 RX5 "gains" "[I", Cond.fieldLink RX5 28 RX5 "hadGains" "[I", Cond.fieldLink RX5 31 RX5 "tape" "[I", Cond.fieldLink RX5 215 RX5 "taped" "I", Cond.fieldLink RX5 229 RX5 "from" "I", Cond.fieldLink RX5 226 RX5 "to" "I", Cond.fieldLink RX5 252 RX5 "value" "I", Cond.fieldLink RX5 241 RX5 "isWrong" "Z", Cond.fieldLink RX5 34 RX5 "bitsOf" "[I", Cond.fieldLink RX5 37 RX5 "sizeOf" "[I", Cond.fieldLink RX5 40 RX5 "number" "[I"] rfl (by decide +kernel)
  exact h
theorem tw_316 : Cond.code yX3_spotsInUse cX3_spotsInUse 3 (some .int) ∈ bigT := tg_13.1
theorem tw_332 : Cond.methodLink RX5 46 yX5_at ∈ bigT := tg_13.2.1
theorem tw_333 : Cond.static yX5_at ∈ bigT := tg_13.2.2.1
theorem tw_331 : Cond.code yX5_at cX5_at 2 (some .int) ∈ bigT := tg_13.2.2.2.1
theorem tw_328 : Cond.fieldLink RX5 7 RX5 "s" "[I" ∈ bigT := tg_13.2.2.2.2.1
theorem tw_596 : Cond.fieldLink RX5 13 RX5 "keptS" "[I" ∈ bigT := tg_13.2.2.2.2.2.1
theorem tw_330 : Cond.fieldLink RX5 16 RX5 "other" "[I" ∈ bigT := tg_13.2.2.2.2.2.2.1
theorem tw_319 : Cond.fieldLink RX5 19 RX5 "statuses" "[I" ∈ bigT := tg_13.2.2.2.2.2.2.2.1
theorem tw_595 : Cond.fieldLink RX5 334 RX5 "isKept" "Z" ∈ bigT := tg_13.2.2.2.2.2.2.2.2.1
theorem tw_412 : Cond.fieldLink RX5 22 RX5 "squares" "[I" ∈ bigT := tg_13.2.2.2.2.2.2.2.2.2.1
theorem tw_409 : Cond.fieldLink RX5 146 RX5 "allSquares" "I" ∈ bigT := tg_13.2.2.2.2.2.2.2.2.2.2.1
theorem tw_410 : Cond.fieldLink RX5 150 RX5 "rentHere" "I" ∈ bigT := tg_13.2.2.2.2.2.2.2.2.2.2.2.1
theorem tw_411 : Cond.fieldLink RX5 153 RX5 "lotSet" "I" ∈ bigT := tg_13.2.2.2.2.2.2.2.2.2.2.2.2.1
theorem tw_420 : Cond.fieldLink RX5 25 RX5 "gains" "[I" ∈ bigT := tg_13.2.2.2.2.2.2.2.2.2.2.2.2.2.1
theorem tw_489 : Cond.fieldLink RX5 28 RX5 "hadGains" "[I" ∈ bigT := tg_13.2.2.2.2.2.2.2.2.2.2.2.2.2.2.1
theorem tw_496 : Cond.fieldLink RX5 31 RX5 "tape" "[I" ∈ bigT := tg_13.2.2.2.2.2.2.2.2.2.2.2.2.2.2.2.1
theorem tw_495 : Cond.fieldLink RX5 215 RX5 "taped" "I" ∈ bigT := tg_13.2.2.2.2.2.2.2.2.2.2.2.2.2.2.2.2.1
theorem tw_502 : Cond.fieldLink RX5 229 RX5 "from" "I" ∈ bigT := tg_13.2.2.2.2.2.2.2.2.2.2.2.2.2.2.2.2.2.1
theorem tw_501 : Cond.fieldLink RX5 226 RX5 "to" "I" ∈ bigT := tg_13.2.2.2.2.2.2.2.2.2.2.2.2.2.2.2.2.2.2.1
theorem tw_520 : Cond.fieldLink RX5 252 RX5 "value" "I" ∈ bigT := tg_13.2.2.2.2.2.2.2.2.2.2.2.2.2.2.2.2.2.2.2.1
theorem tw_513 : Cond.fieldLink RX5 241 RX5 "isWrong" "Z" ∈ bigT := tg_13.2.2.2.2.2.2.2.2.2.2.2.2.2.2.2.2.2.2.2.2.1
theorem tw_583 : Cond.fieldLink RX5 34 RX5 "bitsOf" "[I" ∈ bigT := tg_13.2.2.2.2.2.2.2.2.2.2.2.2.2.2.2.2.2.2.2.2.2.1
theorem tw_584 : Cond.fieldLink RX5 37 RX5 "sizeOf" "[I" ∈ bigT := tg_13.2.2.2.2.2.2.2.2.2.2.2.2.2.2.2.2.2.2.2.2.2.2.1
theorem tw_586 : Cond.fieldLink RX5 40 RX5 "number" "[I" ∈ bigT := tg_13.2.2.2.2.2.2.2.2.2.2.2.2.2.2.2.2.2.2.2.2.2.2.2.1
set_option maxRecDepth 100000 in
theorem tg_14 : Cond.fieldLink RX5 43 RX5 "moved" "[I" ∈ bigT ∧ Cond.constantLong RX5 69 (6) ∈ bigT ∧ Cond.methodLink RX5 53 yX5_in ∈ bigT ∧ Cond.static yX5_in ∈ bigT ∧ Cond.code yX5_in cX5_in 6 (some .boolean) ∈ bigT ∧ Cond.methodLink RX5 71 yX5_isLot ∈ bigT ∧ Cond.static yX5_isLot ∈ bigT ∧ Cond.code yX5_isLot cX5_isLot 1 (some .boolean) ∈ bigT ∧ Cond.constantLong RX5 51 (24) ∈ bigT ∧ Cond.methodLink RX5 74 yX5_isOwner ∈ bigT ∧ Cond.static yX5_isOwner ∈ bigT ∧ Cond.code yX5_isOwner cX5_isOwner 1 (some .boolean) ∈ bigT ∧ Cond.constantLong RX5 57 (3) ∈ bigT ∧ Cond.methodLink RX5 77 yX5_isHeight ∈ bigT ∧ Cond.static yX5_isHeight ∈ bigT ∧ Cond.code yX5_isHeight cX5_isHeight 1 (some .boolean) ∈ bigT ∧ Cond.constantLong RX5 59 (9) ∈ bigT ∧ Cond.constant RX5 50 (-1000001) ∈ bigT ∧ Cond.methodLink RX5 80 yX5_finds ∈ bigT ∧ Cond.instanceMethod yX5_finds ∈ bigT ∧ Cond.code yX5_finds cX5_finds 2 (some .int) ∈ bigT ∧ Cond.methodLink RX5 65 yX5_isThing ∈ bigT ∧ Cond.instanceMethod yX5_isThing ∈ bigT ∧ Cond.code yX5_isThing cX5_isThing 2 (some .boolean) ∈ bigT ∧ True := by
  have h := tb_alls tables_1_4 tp_4 [34, 47, 0, 0, 0, 0, 0, 0, 0, 0, 0, 0, 0, 0, 0, 0, 0, 0, 0, 1, 0, 0, 1, 0] [Cond.fieldLink RX5 43 RX5 "moved" "[I", Cond.constantLong RX5 69 (6), Cond.methodLink RX5 53 yX5_in, Cond.static yX5_in, Cond.code yX5_in cX5_in 6 (some .boolean), Cond.methodLink RX5 71 yX5_isLot, Cond.static yX5_isLot, Cond.code yX5_isLot cX5_isLot 1 (some .boolean), Cond.constantLong RX5 51 (24), Cond.methodLink RX5 74 yX5_isOwner, Cond.static yX5_isOwner, Cond.code yX5_isOwner cX5_isOwner 1 (some .boolean), Cond.constantLong RX5 57 (3), Cond.methodLink RX5 77 yX5_isHeight, Cond.static yX5_isHeight, Cond.code yX5_isHeight cX5_isHeight 1 (some .boolean), Cond.constantLong RX5 59 (9), Cond.constant RX5 50 (-1000001), Cond.methodLink RX5 80 yX5_finds, Cond.instanceMethod yX5_finds, Cond.code yX5_finds cX5_finds 2 (some .int), Cond.methodLink RX5 65 yX5_isThing, Cond.instanceMethod yX5_isThing, Cond.code yX5_isThing cX5_isThing 2 (some .boolean)] rfl (by decide +kernel)
  exact h
theorem tw_594 : Cond.fieldLink RX5 43 RX5 "moved" "[I" ∈ bigT := tg_14.1
theorem tw_342 : Cond.constantLong RX5 69 (6) ∈ bigT := tg_14.2.1
theorem tw_323 : Cond.methodLink RX5 53 yX5_in ∈ bigT := tg_14.2.2.1
theorem tw_324 : Cond.static yX5_in ∈ bigT := tg_14.2.2.2.1
theorem tw_322 : Cond.code yX5_in cX5_in 6 (some .boolean) ∈ bigT := tg_14.2.2.2.2.1
theorem tw_348 : Cond.methodLink RX5 71 yX5_isLot ∈ bigT := tg_14.2.2.2.2.2.1
theorem tw_349 : Cond.static yX5_isLot ∈ bigT := tg_14.2.2.2.2.2.2.1
theorem tw_347 : Cond.code yX5_isLot cX5_isLot 1 (some .boolean) ∈ bigT := tg_14.2.2.2.2.2.2.2.1
theorem tw_321 : Cond.constantLong RX5 51 (24) ∈ bigT := tg_14.2.2.2.2.2.2.2.2.1
theorem tw_351 : Cond.methodLink RX5 74 yX5_isOwner ∈ bigT := tg_14.2.2.2.2.2.2.2.2.2.1
theorem tw_352 : Cond.static yX5_isOwner ∈ bigT := tg_14.2.2.2.2.2.2.2.2.2.2.1
theorem tw_350 : Cond.code yX5_isOwner cX5_isOwner 1 (some .boolean) ∈ bigT := tg_14.2.2.2.2.2.2.2.2.2.2.2.1
theorem tw_326 : Cond.constantLong RX5 57 (3) ∈ bigT := tg_14.2.2.2.2.2.2.2.2.2.2.2.2.1
theorem tw_354 : Cond.methodLink RX5 77 yX5_isHeight ∈ bigT := tg_14.2.2.2.2.2.2.2.2.2.2.2.2.2.1
theorem tw_355 : Cond.static yX5_isHeight ∈ bigT := tg_14.2.2.2.2.2.2.2.2.2.2.2.2.2.2.1
theorem tw_353 : Cond.code yX5_isHeight cX5_isHeight 1 (some .boolean) ∈ bigT := tg_14.2.2.2.2.2.2.2.2.2.2.2.2.2.2.2.1
theorem tw_327 : Cond.constantLong RX5 59 (9) ∈ bigT := tg_14.2.2.2.2.2.2.2.2.2.2.2.2.2.2.2.2.1
theorem tw_320 : Cond.constant RX5 50 (-1000001) ∈ bigT := tg_14.2.2.2.2.2.2.2.2.2.2.2.2.2.2.2.2.2.1
theorem tw_344 : Cond.methodLink RX5 80 yX5_finds ∈ bigT := tg_14.2.2.2.2.2.2.2.2.2.2.2.2.2.2.2.2.2.2.1
theorem tw_345 : Cond.instanceMethod yX5_finds ∈ bigT := tg_14.2.2.2.2.2.2.2.2.2.2.2.2.2.2.2.2.2.2.2.1
theorem tw_343 : Cond.code yX5_finds cX5_finds 2 (some .int) ∈ bigT := tg_14.2.2.2.2.2.2.2.2.2.2.2.2.2.2.2.2.2.2.2.2.1
theorem tw_339 : Cond.methodLink RX5 65 yX5_isThing ∈ bigT := tg_14.2.2.2.2.2.2.2.2.2.2.2.2.2.2.2.2.2.2.2.2.2.1
theorem tw_340 : Cond.instanceMethod yX5_isThing ∈ bigT := tg_14.2.2.2.2.2.2.2.2.2.2.2.2.2.2.2.2.2.2.2.2.2.2.1
theorem tw_338 : Cond.code yX5_isThing cX5_isThing 2 (some .boolean) ∈ bigT := tg_14.2.2.2.2.2.2.2.2.2.2.2.2.2.2.2.2.2.2.2.2.2.2.2.1
set_option maxRecDepth 100000 in
theorem tg_15 : Cond.methodLink RX5 62 yX5_its ∈ bigT ∧ Cond.instanceMethod yX5_its ∈ bigT ∧ Cond.code yX5_its cX5_its 3 (some .int) ∈ bigT ∧ Cond.constant RX5 84 (-1000005) ∈ bigT ∧ Cond.methodLink RX5 85 yX5_builds ∈ bigT ∧ Cond.instanceMethod yX5_builds ∈ bigT ∧ Cond.code yX5_builds cX5_builds 6 (none) ∈ bigT ∧ Cond.methodLink RX5 89 yX5_things ∈ bigT ∧ Cond.instanceMethod yX5_things ∈ bigT ∧ Cond.code yX5_things cX5_things 3 (some .int) ∈ bigT ∧ Cond.methodLink RX5 94 yX5_lotWrong ∈ bigT ∧ Cond.instanceMethod yX5_lotWrong ∈ bigT ∧ Cond.code yX5_lotWrong cX5_lotWrong 2 (some .int) ∈ bigT ∧ Cond.constant RX5 93 (-1000004) ∈ bigT ∧ Cond.methodLink RX5 103 yX5_stands ∈ bigT ∧ Cond.instanceMethod yX5_stands ∈ bigT ∧ Cond.code yX5_stands cX5_stands 4 (some .int) ∈ bigT ∧ Cond.methodLink RX5 99 yX5_isSummer ∈ bigT ∧ Cond.instanceMethod yX5_isSummer ∈ bigT ∧ Cond.code yX5_isSummer cX5_isSummer 1 (some .boolean) ∈ bigT ∧ Cond.constantLong RX5 97 (8) ∈ bigT ∧ Cond.methodLink RX5 106 yX5_priceOf ∈ bigT ∧ Cond.instanceMethod yX5_priceOf ∈ bigT ∧ Cond.code yX5_priceOf cX5_priceOf 3 (some .int) ∈ bigT ∧ True := by
  have h := tb_alls tables_1_4 tp_4 [107, 1, 0, 0, 0, 1, 0, 0, 1, 0, 4, 1, 0, 0, 4, 1, 0, 0, 1, 0, 0, 0, 1, 0] [Cond.methodLink RX5 62 yX5_its, Cond.instanceMethod yX5_its, Cond.code yX5_its cX5_its 3 (some .int), Cond.constant RX5 84 (-1000005), Cond.methodLink RX5 85 yX5_builds, Cond.instanceMethod yX5_builds, Cond.code yX5_builds cX5_builds 6 (none), Cond.methodLink RX5 89 yX5_things, Cond.instanceMethod yX5_things, Cond.code yX5_things cX5_things 3 (some .int), Cond.methodLink RX5 94 yX5_lotWrong, Cond.instanceMethod yX5_lotWrong, Cond.code yX5_lotWrong cX5_lotWrong 2 (some .int), Cond.constant RX5 93 (-1000004), Cond.methodLink RX5 103 yX5_stands, Cond.instanceMethod yX5_stands, Cond.code yX5_stands cX5_stands 4 (some .int), Cond.methodLink RX5 99 yX5_isSummer, Cond.instanceMethod yX5_isSummer, Cond.code yX5_isSummer cX5_isSummer 1 (some .boolean), Cond.constantLong RX5 97 (8), Cond.methodLink RX5 106 yX5_priceOf, Cond.instanceMethod yX5_priceOf, Cond.code yX5_priceOf cX5_priceOf 3 (some .int)] rfl (by decide +kernel)
  exact h
theorem tw_335 : Cond.methodLink RX5 62 yX5_its ∈ bigT := tg_15.1
theorem tw_336 : Cond.instanceMethod yX5_its ∈ bigT := tg_15.2.1
theorem tw_334 : Cond.code yX5_its cX5_its 3 (some .int) ∈ bigT := tg_15.2.2.1
theorem tw_364 : Cond.constant RX5 84 (-1000005) ∈ bigT := tg_15.2.2.2.1
theorem tw_357 : Cond.methodLink RX5 85 yX5_builds ∈ bigT := tg_15.2.2.2.2.1
theorem tw_358 : Cond.instanceMethod yX5_builds ∈ bigT := tg_15.2.2.2.2.2.1
theorem tw_356 : Cond.code yX5_builds cX5_builds 6 (none) ∈ bigT := tg_15.2.2.2.2.2.2.1
theorem tw_361 : Cond.methodLink RX5 89 yX5_things ∈ bigT := tg_15.2.2.2.2.2.2.2.1
theorem tw_362 : Cond.instanceMethod yX5_things ∈ bigT := tg_15.2.2.2.2.2.2.2.2.1
theorem tw_360 : Cond.code yX5_things cX5_things 3 (some .int) ∈ bigT := tg_15.2.2.2.2.2.2.2.2.2.1
theorem tw_367 : Cond.methodLink RX5 94 yX5_lotWrong ∈ bigT := tg_15.2.2.2.2.2.2.2.2.2.2.1
theorem tw_368 : Cond.instanceMethod yX5_lotWrong ∈ bigT := tg_15.2.2.2.2.2.2.2.2.2.2.2.1
theorem tw_366 : Cond.code yX5_lotWrong cX5_lotWrong 2 (some .int) ∈ bigT := tg_15.2.2.2.2.2.2.2.2.2.2.2.2.1
theorem tw_365 : Cond.constant RX5 93 (-1000004) ∈ bigT := tg_15.2.2.2.2.2.2.2.2.2.2.2.2.2.1
theorem tw_384 : Cond.methodLink RX5 103 yX5_stands ∈ bigT := tg_15.2.2.2.2.2.2.2.2.2.2.2.2.2.2.1
theorem tw_385 : Cond.instanceMethod yX5_stands ∈ bigT := tg_15.2.2.2.2.2.2.2.2.2.2.2.2.2.2.2.1
theorem tw_383 : Cond.code yX5_stands cX5_stands 4 (some .int) ∈ bigT := tg_15.2.2.2.2.2.2.2.2.2.2.2.2.2.2.2.2.1
theorem tw_372 : Cond.methodLink RX5 99 yX5_isSummer ∈ bigT := tg_15.2.2.2.2.2.2.2.2.2.2.2.2.2.2.2.2.2.1
theorem tw_373 : Cond.instanceMethod yX5_isSummer ∈ bigT := tg_15.2.2.2.2.2.2.2.2.2.2.2.2.2.2.2.2.2.2.1
theorem tw_371 : Cond.code yX5_isSummer cX5_isSummer 1 (some .boolean) ∈ bigT := tg_15.2.2.2.2.2.2.2.2.2.2.2.2.2.2.2.2.2.2.2.1
theorem tw_370 : Cond.constantLong RX5 97 (8) ∈ bigT := tg_15.2.2.2.2.2.2.2.2.2.2.2.2.2.2.2.2.2.2.2.2.1
theorem tw_380 : Cond.methodLink RX5 106 yX5_priceOf ∈ bigT := tg_15.2.2.2.2.2.2.2.2.2.2.2.2.2.2.2.2.2.2.2.2.2.1
theorem tw_381 : Cond.instanceMethod yX5_priceOf ∈ bigT := tg_15.2.2.2.2.2.2.2.2.2.2.2.2.2.2.2.2.2.2.2.2.2.2.1
theorem tw_379 : Cond.code yX5_priceOf cX5_priceOf 3 (some .int) ∈ bigT := tg_15.2.2.2.2.2.2.2.2.2.2.2.2.2.2.2.2.2.2.2.2.2.2.2.1
set_option maxRecDepth 100000 in
theorem tg_16 : Cond.methodLink RX5 109 yX5_grows ∈ bigT ∧ Cond.instanceMethod yX5_grows ∈ bigT ∧ Cond.code yX5_grows cX5_grows 4 (some .int) ∈ bigT ∧ Cond.constantLong RX5 112 (99) ∈ bigT ∧ Cond.constant RX5 117 (-1000002) ∈ bigT ∧ Cond.methodLink RX5 118 yX5_newWindow ∈ bigT ∧ Cond.instanceMethod yX5_newWindow ∈ bigT ∧ Cond.code yX5_newWindow cX5_newWindow 6 (some .int) ∈ bigT ∧ Cond.methodLink RX5 114 yX5_where ∈ bigT ∧ Cond.static yX5_where ∈ bigT ∧ Cond.code yX5_where cX5_where 2 (some .int) ∈ bigT ∧ Cond.methodLink RX5 122 yX5_isWindow ∈ bigT ∧ Cond.instanceMethod yX5_isWindow ∈ bigT ∧ Cond.code yX5_isWindow cX5_isWindow 2 (some .boolean) ∈ bigT ∧ Cond.constantLong RX5 125 (5) ∈ bigT ∧ Cond.methodLink RX5 127 yX5_told ∈ bigT ∧ Cond.instanceMethod yX5_told ∈ bigT ∧ Cond.code yX5_told cX5_told 3 (some .int) ∈ bigT ∧ Cond.constantLong RX5 130 (-1) ∈ bigT ∧ Cond.constantLong RX5 132 (36) ∈ bigT ∧ Cond.methodLink RX5 134 yX5_isBroken ∈ bigT ∧ Cond.instanceMethod yX5_isBroken ∈ bigT ∧ Cond.code yX5_isBroken cX5_isBroken 3 (some .boolean) ∈ bigT ∧ Cond.methodLink RX5 159 yX5_looks ∈ bigT ∧ True := by
  have h := tb_alls tables_1_4 tp_4 [146, 1, 0, 8, 4, 0, 1, 0, 0, 0, 0, 4, 1, 0, 0, 0, 1, 0, 8, 0, 0, 1, 0, 0] [Cond.methodLink RX5 109 yX5_grows, Cond.instanceMethod yX5_grows, Cond.code yX5_grows cX5_grows 4 (some .int), Cond.constantLong RX5 112 (99), Cond.constant RX5 117 (-1000002), Cond.methodLink RX5 118 yX5_newWindow, Cond.instanceMethod yX5_newWindow, Cond.code yX5_newWindow cX5_newWindow 6 (some .int), Cond.methodLink RX5 114 yX5_where, Cond.static yX5_where, Cond.code yX5_where cX5_where 2 (some .int), Cond.methodLink RX5 122 yX5_isWindow, Cond.instanceMethod yX5_isWindow, Cond.code yX5_isWindow cX5_isWindow 2 (some .boolean), Cond.constantLong RX5 125 (5), Cond.methodLink RX5 127 yX5_told, Cond.instanceMethod yX5_told, Cond.code yX5_told cX5_told 3 (some .int), Cond.constantLong RX5 130 (-1), Cond.constantLong RX5 132 (36), Cond.methodLink RX5 134 yX5_isBroken, Cond.instanceMethod yX5_isBroken, Cond.code yX5_isBroken cX5_isBroken 3 (some .boolean), Cond.methodLink RX5 159 yX5_looks] rfl (by decide +kernel)
  exact h
theorem tw_376 : Cond.methodLink RX5 109 yX5_grows ∈ bigT := tg_16.1
theorem tw_377 : Cond.instanceMethod yX5_grows ∈ bigT := tg_16.2.1
theorem tw_375 : Cond.code yX5_grows cX5_grows 4 (some .int) ∈ bigT := tg_16.2.2.1
theorem tw_387 : Cond.constantLong RX5 112 (99) ∈ bigT := tg_16.2.2.2.1
theorem tw_395 : Cond.constant RX5 117 (-1000002) ∈ bigT := tg_16.2.2.2.2.1
theorem tw_392 : Cond.methodLink RX5 118 yX5_newWindow ∈ bigT := tg_16.2.2.2.2.2.1
theorem tw_393 : Cond.instanceMethod yX5_newWindow ∈ bigT := tg_16.2.2.2.2.2.2.1
theorem tw_391 : Cond.code yX5_newWindow cX5_newWindow 6 (some .int) ∈ bigT := tg_16.2.2.2.2.2.2.2.1
theorem tw_389 : Cond.methodLink RX5 114 yX5_where ∈ bigT := tg_16.2.2.2.2.2.2.2.2.1
theorem tw_390 : Cond.static yX5_where ∈ bigT := tg_16.2.2.2.2.2.2.2.2.2.1
theorem tw_388 : Cond.code yX5_where cX5_where 2 (some .int) ∈ bigT := tg_16.2.2.2.2.2.2.2.2.2.2.1
theorem tw_397 : Cond.methodLink RX5 122 yX5_isWindow ∈ bigT := tg_16.2.2.2.2.2.2.2.2.2.2.2.1
theorem tw_398 : Cond.instanceMethod yX5_isWindow ∈ bigT := tg_16.2.2.2.2.2.2.2.2.2.2.2.2.1
theorem tw_396 : Cond.code yX5_isWindow cX5_isWindow 2 (some .boolean) ∈ bigT := tg_16.2.2.2.2.2.2.2.2.2.2.2.2.2.1
theorem tw_400 : Cond.constantLong RX5 125 (5) ∈ bigT := tg_16.2.2.2.2.2.2.2.2.2.2.2.2.2.2.1
theorem tw_402 : Cond.methodLink RX5 127 yX5_told ∈ bigT := tg_16.2.2.2.2.2.2.2.2.2.2.2.2.2.2.2.1
theorem tw_403 : Cond.instanceMethod yX5_told ∈ bigT := tg_16.2.2.2.2.2.2.2.2.2.2.2.2.2.2.2.2.1
theorem tw_401 : Cond.code yX5_told cX5_told 3 (some .int) ∈ bigT := tg_16.2.2.2.2.2.2.2.2.2.2.2.2.2.2.2.2.2.1
theorem tw_425 : Cond.constantLong RX5 130 (-1) ∈ bigT := tg_16.2.2.2.2.2.2.2.2.2.2.2.2.2.2.2.2.2.2.1
theorem tw_426 : Cond.constantLong RX5 132 (36) ∈ bigT := tg_16.2.2.2.2.2.2.2.2.2.2.2.2.2.2.2.2.2.2.2.1
theorem tw_428 : Cond.methodLink RX5 134 yX5_isBroken ∈ bigT := tg_16.2.2.2.2.2.2.2.2.2.2.2.2.2.2.2.2.2.2.2.2.1
theorem tw_429 : Cond.instanceMethod yX5_isBroken ∈ bigT := tg_16.2.2.2.2.2.2.2.2.2.2.2.2.2.2.2.2.2.2.2.2.2.1
theorem tw_427 : Cond.code yX5_isBroken cX5_isBroken 3 (some .boolean) ∈ bigT := tg_16.2.2.2.2.2.2.2.2.2.2.2.2.2.2.2.2.2.2.2.2.2.2.1
theorem tw_422 : Cond.methodLink RX5 159 yX5_looks ∈ bigT := tg_16.2.2.2.2.2.2.2.2.2.2.2.2.2.2.2.2.2.2.2.2.2.2.2.1
set_option maxRecDepth 100000 in
theorem tg_17 : Cond.instanceMethod yX5_looks ∈ bigT ∧ Cond.code yX5_looks cX5_looks 8 (none) ∈ bigT ∧ Cond.methodLink RX5 143 yX5_seen ∈ bigT ∧ Cond.instanceMethod yX5_seen ∈ bigT ∧ Cond.code yX5_seen cX5_seen 11 (some .int) ∈ bigT ∧ Cond.methodLink RX5 139 yX5_lotAt ∈ bigT ∧ Cond.static yX5_lotAt ∈ bigT ∧ Cond.code yX5_lotAt cX5_lotAt 5 (some .int) ∈ bigT ∧ Cond.constantLong RX5 137 (4) ∈ bigT ∧ Cond.methodLink RX5 156 yX5_ones ∈ bigT ∧ Cond.static yX5_ones ∈ bigT ∧ Cond.code yX5_ones cX5_ones 3 (some .int) ∈ bigT ∧ True := by
  have h := tb_alls tables_1_4 tp_4 [200, 0, 0, 1, 0, 0, 0, 0, 0, 0, 0, 0] [Cond.instanceMethod yX5_looks, Cond.code yX5_looks cX5_looks 8 (none), Cond.methodLink RX5 143 yX5_seen, Cond.instanceMethod yX5_seen, Cond.code yX5_seen cX5_seen 11 (some .int), Cond.methodLink RX5 139 yX5_lotAt, Cond.static yX5_lotAt, Cond.code yX5_lotAt cX5_lotAt 5 (some .int), Cond.constantLong RX5 137 (4), Cond.methodLink RX5 156 yX5_ones, Cond.static yX5_ones, Cond.code yX5_ones cX5_ones 3 (some .int)] rfl (by decide +kernel)
  exact h
theorem tw_423 : Cond.instanceMethod yX5_looks ∈ bigT := tg_17.1
theorem tw_421 : Cond.code yX5_looks cX5_looks 8 (none) ∈ bigT := tg_17.2.1
theorem tw_414 : Cond.methodLink RX5 143 yX5_seen ∈ bigT := tg_17.2.2.1
theorem tw_415 : Cond.instanceMethod yX5_seen ∈ bigT := tg_17.2.2.2.1
theorem tw_413 : Cond.code yX5_seen cX5_seen 11 (some .int) ∈ bigT := tg_17.2.2.2.2.1
theorem tw_407 : Cond.methodLink RX5 139 yX5_lotAt ∈ bigT := tg_17.2.2.2.2.2.1
theorem tw_408 : Cond.static yX5_lotAt ∈ bigT := tg_17.2.2.2.2.2.2.1
theorem tw_406 : Cond.code yX5_lotAt cX5_lotAt 5 (some .int) ∈ bigT := tg_17.2.2.2.2.2.2.2.1
theorem tw_405 : Cond.constantLong RX5 137 (4) ∈ bigT := tg_17.2.2.2.2.2.2.2.2.1
theorem tw_418 : Cond.methodLink RX5 156 yX5_ones ∈ bigT := tg_17.2.2.2.2.2.2.2.2.2.1
theorem tw_419 : Cond.static yX5_ones ∈ bigT := tg_17.2.2.2.2.2.2.2.2.2.2.1
theorem tw_417 : Cond.code yX5_ones cX5_ones 3 (some .int) ∈ bigT := tg_17.2.2.2.2.2.2.2.2.2.2.2.1
set_option maxRecDepth 100000 in
theorem tg_18 : Cond.methodLink RX5 166 yX5_gainOf ∈ bigT ∧ Cond.instanceMethod yX5_gainOf ∈ bigT ∧ Cond.code yX5_gainOf cX5_gainOf 3 (some .int) ∈ bigT ∧ Cond.methodLink RX5 163 yX5_findGains ∈ bigT ∧ Cond.instanceMethod yX5_findGains ∈ bigT ∧ Cond.code yX5_findGains cX5_findGains 3 (some .int) ∈ bigT ∧ Cond.methodLink RX5 169 yX5_brokenSet ∈ bigT ∧ Cond.instanceMethod yX5_brokenSet ∈ bigT ∧ Cond.code yX5_brokenSet cX5_brokenSet 3 (some .int) ∈ bigT ∧ Cond.constantLong RX5 175 (60) ∈ bigT ∧ Cond.methodLink RX5 177 yX5_isTooLate ∈ bigT ∧ Cond.instanceMethod yX5_isTooLate ∈ bigT ∧ Cond.code yX5_isTooLate cX5_isTooLate 2 (some .boolean) ∈ bigT ∧ Cond.methodLink RX5 180 yX5_monthsGo ∈ bigT ∧ Cond.instanceMethod yX5_monthsGo ∈ bigT ∧ Cond.code yX5_monthsGo cX5_monthsGo 4 (some .int) ∈ bigT ∧ Cond.methodLink RX5 172 yX5_month ∈ bigT ∧ Cond.instanceMethod yX5_month ∈ bigT ∧ Cond.code yX5_month cX5_month 4 (some .int) ∈ bigT ∧ Cond.constantLong RX5 183 (120) ∈ bigT ∧ Cond.methodLink RX5 185 yX5_puts ∈ bigT ∧ Cond.instanceMethod yX5_puts ∈ bigT ∧ Cond.code yX5_puts cX5_puts 2 (none) ∈ bigT ∧ Cond.methodLink RX5 188 yX5_allViews ∈ bigT ∧ True := by
  have h := tb_alls tables_1_5 tp_5 [5, 1, 0, 0, 1, 0, 4, 1, 0, 4, 0, 1, 0, 0, 1, 0, 0, 1, 0, 4, 0, 1, 0, 0] [Cond.methodLink RX5 166 yX5_gainOf, Cond.instanceMethod yX5_gainOf, Cond.code yX5_gainOf cX5_gainOf 3 (some .int), Cond.methodLink RX5 163 yX5_findGains, Cond.instanceMethod yX5_findGains, Cond.code yX5_findGains cX5_findGains 3 (some .int), Cond.methodLink RX5 169 yX5_brokenSet, Cond.instanceMethod yX5_brokenSet, Cond.code yX5_brokenSet cX5_brokenSet 3 (some .int), Cond.constantLong RX5 175 (60), Cond.methodLink RX5 177 yX5_isTooLate, Cond.instanceMethod yX5_isTooLate, Cond.code yX5_isTooLate cX5_isTooLate 2 (some .boolean), Cond.methodLink RX5 180 yX5_monthsGo, Cond.instanceMethod yX5_monthsGo, Cond.code yX5_monthsGo cX5_monthsGo 4 (some .int), Cond.methodLink RX5 172 yX5_month, Cond.instanceMethod yX5_month, Cond.code yX5_month cX5_month 4 (some .int), Cond.constantLong RX5 183 (120), Cond.methodLink RX5 185 yX5_puts, Cond.instanceMethod yX5_puts, Cond.code yX5_puts cX5_puts 2 (none), Cond.methodLink RX5 188 yX5_allViews] rfl (by decide +kernel)
  exact h
theorem tw_436 : Cond.methodLink RX5 166 yX5_gainOf ∈ bigT := tg_18.1
theorem tw_437 : Cond.instanceMethod yX5_gainOf ∈ bigT := tg_18.2.1
theorem tw_435 : Cond.code yX5_gainOf cX5_gainOf 3 (some .int) ∈ bigT := tg_18.2.2.1
theorem tw_432 : Cond.methodLink RX5 163 yX5_findGains ∈ bigT := tg_18.2.2.2.1
theorem tw_433 : Cond.instanceMethod yX5_findGains ∈ bigT := tg_18.2.2.2.2.1
theorem tw_431 : Cond.code yX5_findGains cX5_findGains 3 (some .int) ∈ bigT := tg_18.2.2.2.2.2.1
theorem tw_440 : Cond.methodLink RX5 169 yX5_brokenSet ∈ bigT := tg_18.2.2.2.2.2.2.1
theorem tw_441 : Cond.instanceMethod yX5_brokenSet ∈ bigT := tg_18.2.2.2.2.2.2.2.1
theorem tw_439 : Cond.code yX5_brokenSet cX5_brokenSet 3 (some .int) ∈ bigT := tg_18.2.2.2.2.2.2.2.2.1
theorem tw_447 : Cond.constantLong RX5 175 (60) ∈ bigT := tg_18.2.2.2.2.2.2.2.2.2.1
theorem tw_449 : Cond.methodLink RX5 177 yX5_isTooLate ∈ bigT := tg_18.2.2.2.2.2.2.2.2.2.2.1
theorem tw_450 : Cond.instanceMethod yX5_isTooLate ∈ bigT := tg_18.2.2.2.2.2.2.2.2.2.2.2.1
theorem tw_448 : Cond.code yX5_isTooLate cX5_isTooLate 2 (some .boolean) ∈ bigT := tg_18.2.2.2.2.2.2.2.2.2.2.2.2.1
theorem tw_453 : Cond.methodLink RX5 180 yX5_monthsGo ∈ bigT := tg_18.2.2.2.2.2.2.2.2.2.2.2.2.2.1
theorem tw_454 : Cond.instanceMethod yX5_monthsGo ∈ bigT := tg_18.2.2.2.2.2.2.2.2.2.2.2.2.2.2.1
theorem tw_452 : Cond.code yX5_monthsGo cX5_monthsGo 4 (some .int) ∈ bigT := tg_18.2.2.2.2.2.2.2.2.2.2.2.2.2.2.2.1
theorem tw_444 : Cond.methodLink RX5 172 yX5_month ∈ bigT := tg_18.2.2.2.2.2.2.2.2.2.2.2.2.2.2.2.2.1
theorem tw_445 : Cond.instanceMethod yX5_month ∈ bigT := tg_18.2.2.2.2.2.2.2.2.2.2.2.2.2.2.2.2.2.1
theorem tw_443 : Cond.code yX5_month cX5_month 4 (some .int) ∈ bigT := tg_18.2.2.2.2.2.2.2.2.2.2.2.2.2.2.2.2.2.2.1
theorem tw_456 : Cond.constantLong RX5 183 (120) ∈ bigT := tg_18.2.2.2.2.2.2.2.2.2.2.2.2.2.2.2.2.2.2.2.1
theorem tw_458 : Cond.methodLink RX5 185 yX5_puts ∈ bigT := tg_18.2.2.2.2.2.2.2.2.2.2.2.2.2.2.2.2.2.2.2.2.1
theorem tw_459 : Cond.instanceMethod yX5_puts ∈ bigT := tg_18.2.2.2.2.2.2.2.2.2.2.2.2.2.2.2.2.2.2.2.2.2.1
theorem tw_457 : Cond.code yX5_puts cX5_puts 2 (none) ∈ bigT := tg_18.2.2.2.2.2.2.2.2.2.2.2.2.2.2.2.2.2.2.2.2.2.2.1
theorem tw_466 : Cond.methodLink RX5 188 yX5_allViews ∈ bigT := tg_18.2.2.2.2.2.2.2.2.2.2.2.2.2.2.2.2.2.2.2.2.2.2.2.1
set_option maxRecDepth 100000 in
theorem tg_19 : Cond.instanceMethod yX5_allViews ∈ bigT ∧ Cond.code yX5_allViews cX5_allViews 3 (some .int) ∈ bigT ∧ Cond.methodLink RX5 191 yX5_putsBack ∈ bigT ∧ Cond.instanceMethod yX5_putsBack ∈ bigT ∧ Cond.code yX5_putsBack cX5_putsBack 2 (none) ∈ bigT ∧ Cond.methodLink RX5 194 yX5_isLate ∈ bigT ∧ Cond.instanceMethod yX5_isLate ∈ bigT ∧ Cond.code yX5_isLate cX5_isLate 2 (some .boolean) ∈ bigT ∧ Cond.methodLink RX5 197 yX5_breaks ∈ bigT ∧ Cond.instanceMethod yX5_breaks ∈ bigT ∧ Cond.code yX5_breaks cX5_breaks 4 (some .int) ∈ bigT ∧ Cond.methodLink RX5 200 yX5_bestPart ∈ bigT ∧ Cond.instanceMethod yX5_bestPart ∈ bigT ∧ Cond.code yX5_bestPart cX5_bestPart 9 (some .int) ∈ bigT ∧ Cond.methodLink RX5 203 yX5_viewOf ∈ bigT ∧ Cond.instanceMethod yX5_viewOf ∈ bigT ∧ Cond.code yX5_viewOf cX5_viewOf 2 (some .int) ∈ bigT ∧ Cond.methodLink RX5 206 yX5_isLowered ∈ bigT ∧ Cond.instanceMethod yX5_isLowered ∈ bigT ∧ Cond.code yX5_isLowered cX5_isLowered 3 (some .boolean) ∈ bigT ∧ Cond.constantLong RX5 210 (12) ∈ bigT ∧ Cond.methodLink RX5 212 yX5_draw ∈ bigT ∧ Cond.instanceMethod yX5_draw ∈ bigT ∧ Cond.code yX5_draw cX5_draw 1 (some .int) ∈ bigT ∧ True := by
  have h := tb_alls tables_1_5 tp_5 [49, 0, 0, 1, 0, 4, 1, 0, 0, 1, 0, 8, 1, 0, 16, 1, 0, 20, 1, 0, 8, 0, 1, 0] [Cond.instanceMethod yX5_allViews, Cond.code yX5_allViews cX5_allViews 3 (some .int), Cond.methodLink RX5 191 yX5_putsBack, Cond.instanceMethod yX5_putsBack, Cond.code yX5_putsBack cX5_putsBack 2 (none), Cond.methodLink RX5 194 yX5_isLate, Cond.instanceMethod yX5_isLate, Cond.code yX5_isLate cX5_isLate 2 (some .boolean), Cond.methodLink RX5 197 yX5_breaks, Cond.instanceMethod yX5_breaks, Cond.code yX5_breaks cX5_breaks 4 (some .int), Cond.methodLink RX5 200 yX5_bestPart, Cond.instanceMethod yX5_bestPart, Cond.code yX5_bestPart cX5_bestPart 9 (some .int), Cond.methodLink RX5 203 yX5_viewOf, Cond.instanceMethod yX5_viewOf, Cond.code yX5_viewOf cX5_viewOf 2 (some .int), Cond.methodLink RX5 206 yX5_isLowered, Cond.instanceMethod yX5_isLowered, Cond.code yX5_isLowered cX5_isLowered 3 (some .boolean), Cond.constantLong RX5 210 (12), Cond.methodLink RX5 212 yX5_draw, Cond.instanceMethod yX5_draw, Cond.code yX5_draw cX5_draw 1 (some .int)] rfl (by decide +kernel)
  exact h
theorem tw_467 : Cond.instanceMethod yX5_allViews ∈ bigT := tg_19.1
theorem tw_465 : Cond.code yX5_allViews cX5_allViews 3 (some .int) ∈ bigT := tg_19.2.1
theorem tw_462 : Cond.methodLink RX5 191 yX5_putsBack ∈ bigT := tg_19.2.2.1
theorem tw_463 : Cond.instanceMethod yX5_putsBack ∈ bigT := tg_19.2.2.2.1
theorem tw_461 : Cond.code yX5_putsBack cX5_putsBack 2 (none) ∈ bigT := tg_19.2.2.2.2.1
theorem tw_470 : Cond.methodLink RX5 194 yX5_isLate ∈ bigT := tg_19.2.2.2.2.2.1
theorem tw_471 : Cond.instanceMethod yX5_isLate ∈ bigT := tg_19.2.2.2.2.2.2.1
theorem tw_469 : Cond.code yX5_isLate cX5_isLate 2 (some .boolean) ∈ bigT := tg_19.2.2.2.2.2.2.2.1
theorem tw_474 : Cond.methodLink RX5 197 yX5_breaks ∈ bigT := tg_19.2.2.2.2.2.2.2.2.1
theorem tw_475 : Cond.instanceMethod yX5_breaks ∈ bigT := tg_19.2.2.2.2.2.2.2.2.2.1
theorem tw_473 : Cond.code yX5_breaks cX5_breaks 4 (some .int) ∈ bigT := tg_19.2.2.2.2.2.2.2.2.2.2.1
theorem tw_478 : Cond.methodLink RX5 200 yX5_bestPart ∈ bigT := tg_19.2.2.2.2.2.2.2.2.2.2.2.1
theorem tw_479 : Cond.instanceMethod yX5_bestPart ∈ bigT := tg_19.2.2.2.2.2.2.2.2.2.2.2.2.1
theorem tw_477 : Cond.code yX5_bestPart cX5_bestPart 9 (some .int) ∈ bigT := tg_19.2.2.2.2.2.2.2.2.2.2.2.2.2.1
theorem tw_482 : Cond.methodLink RX5 203 yX5_viewOf ∈ bigT := tg_19.2.2.2.2.2.2.2.2.2.2.2.2.2.2.1
theorem tw_483 : Cond.instanceMethod yX5_viewOf ∈ bigT := tg_19.2.2.2.2.2.2.2.2.2.2.2.2.2.2.2.1
theorem tw_481 : Cond.code yX5_viewOf cX5_viewOf 2 (some .int) ∈ bigT := tg_19.2.2.2.2.2.2.2.2.2.2.2.2.2.2.2.2.1
theorem tw_486 : Cond.methodLink RX5 206 yX5_isLowered ∈ bigT := tg_19.2.2.2.2.2.2.2.2.2.2.2.2.2.2.2.2.2.1
theorem tw_487 : Cond.instanceMethod yX5_isLowered ∈ bigT := tg_19.2.2.2.2.2.2.2.2.2.2.2.2.2.2.2.2.2.2.1
theorem tw_485 : Cond.code yX5_isLowered cX5_isLowered 3 (some .boolean) ∈ bigT := tg_19.2.2.2.2.2.2.2.2.2.2.2.2.2.2.2.2.2.2.2.1
theorem tw_490 : Cond.constantLong RX5 210 (12) ∈ bigT := tg_19.2.2.2.2.2.2.2.2.2.2.2.2.2.2.2.2.2.2.2.2.1
theorem tw_492 : Cond.methodLink RX5 212 yX5_draw ∈ bigT := tg_19.2.2.2.2.2.2.2.2.2.2.2.2.2.2.2.2.2.2.2.2.2.1
theorem tw_493 : Cond.instanceMethod yX5_draw ∈ bigT := tg_19.2.2.2.2.2.2.2.2.2.2.2.2.2.2.2.2.2.2.2.2.2.2.1
theorem tw_491 : Cond.code yX5_draw cX5_draw 1 (some .int) ∈ bigT := tg_19.2.2.2.2.2.2.2.2.2.2.2.2.2.2.2.2.2.2.2.2.2.2.2.1
set_option maxRecDepth 100000 in
theorem tg_20 : Cond.constant RX5 61 (1103515245) ∈ bigT ∧ Cond.methodLink RX5 245 yX5_token ∈ bigT ∧ Cond.instanceMethod yX5_token ∈ bigT ∧ Cond.code yX5_token cX5_token 3 (none) ∈ bigT ∧ Cond.methodLink RX5 232 yX5_byteAt ∈ bigT ∧ Cond.instanceMethod yX5_byteAt ∈ bigT ∧ Cond.code yX5_byteAt cX5_byteAt 2 (some .int) ∈ bigT ∧ Cond.methodLink RX5 235 yX5_isLetter ∈ bigT ∧ Cond.static yX5_isLetter ∈ bigT ∧ Cond.code yX5_isLetter cX5_isLetter 1 (some .boolean) ∈ bigT ∧ Cond.constantLong RX5 218 (97) ∈ bigT ∧ Cond.constantLong RX5 220 (122) ∈ bigT ∧ Cond.methodLink RX5 238 yX5_isDigit ∈ bigT ∧ Cond.static yX5_isDigit ∈ bigT ∧ Cond.code yX5_isDigit cX5_isDigit 1 (some .boolean) ∈ bigT ∧ Cond.constantLong RX5 222 (48) ∈ bigT ∧ Cond.constantLong RX5 224 (57) ∈ bigT ∧ Cond.methodLink RX5 319 yX5_item ∈ bigT ∧ Cond.instanceMethod yX5_item ∈ bigT ∧ Cond.code yX5_item cX5_item 2 (none) ∈ bigT ∧ Cond.methodLink RX5 301 yX5_kindHere ∈ bigT ∧ Cond.instanceMethod yX5_kindHere ∈ bigT ∧ Cond.code yX5_kindHere cX5_kindHere 3 (some .int) ∈ bigT ∧ Cond.methodLink RX5 259 yX5_word ∈ bigT ∧ True := by
  have h := tb_alls tables_1_5 tp_5 [136, 16, 1, 0, 0, 1, 0, 0, 0, 0, 0, 0, 0, 0, 0, 0, 0, 0, 1, 0, 0, 1, 0, 0] [Cond.constant RX5 61 (1103515245), Cond.methodLink RX5 245 yX5_token, Cond.instanceMethod yX5_token, Cond.code yX5_token cX5_token 3 (none), Cond.methodLink RX5 232 yX5_byteAt, Cond.instanceMethod yX5_byteAt, Cond.code yX5_byteAt cX5_byteAt 2 (some .int), Cond.methodLink RX5 235 yX5_isLetter, Cond.static yX5_isLetter, Cond.code yX5_isLetter cX5_isLetter 1 (some .boolean), Cond.constantLong RX5 218 (97), Cond.constantLong RX5 220 (122), Cond.methodLink RX5 238 yX5_isDigit, Cond.static yX5_isDigit, Cond.code yX5_isDigit cX5_isDigit 1 (some .boolean), Cond.constantLong RX5 222 (48), Cond.constantLong RX5 224 (57), Cond.methodLink RX5 319 yX5_item, Cond.instanceMethod yX5_item, Cond.code yX5_item cX5_item 2 (none), Cond.methodLink RX5 301 yX5_kindHere, Cond.instanceMethod yX5_kindHere, Cond.code yX5_kindHere cX5_kindHere 3 (some .int), Cond.methodLink RX5 259 yX5_word] rfl (by decide +kernel)
  exact h
theorem tw_329 : Cond.constant RX5 61 (1103515245) ∈ bigT := tg_20.1
theorem tw_515 : Cond.methodLink RX5 245 yX5_token ∈ bigT := tg_20.2.1
theorem tw_516 : Cond.instanceMethod yX5_token ∈ bigT := tg_20.2.2.1
theorem tw_514 : Cond.code yX5_token cX5_token 3 (none) ∈ bigT := tg_20.2.2.2.1
theorem tw_504 : Cond.methodLink RX5 232 yX5_byteAt ∈ bigT := tg_20.2.2.2.2.1
theorem tw_505 : Cond.instanceMethod yX5_byteAt ∈ bigT := tg_20.2.2.2.2.2.1
theorem tw_503 : Cond.code yX5_byteAt cX5_byteAt 2 (some .int) ∈ bigT := tg_20.2.2.2.2.2.2.1
theorem tw_508 : Cond.methodLink RX5 235 yX5_isLetter ∈ bigT := tg_20.2.2.2.2.2.2.2.1
theorem tw_509 : Cond.static yX5_isLetter ∈ bigT := tg_20.2.2.2.2.2.2.2.2.1
theorem tw_507 : Cond.code yX5_isLetter cX5_isLetter 1 (some .boolean) ∈ bigT := tg_20.2.2.2.2.2.2.2.2.2.1
theorem tw_497 : Cond.constantLong RX5 218 (97) ∈ bigT := tg_20.2.2.2.2.2.2.2.2.2.2.1
theorem tw_498 : Cond.constantLong RX5 220 (122) ∈ bigT := tg_20.2.2.2.2.2.2.2.2.2.2.2.1
theorem tw_511 : Cond.methodLink RX5 238 yX5_isDigit ∈ bigT := tg_20.2.2.2.2.2.2.2.2.2.2.2.2.1
theorem tw_512 : Cond.static yX5_isDigit ∈ bigT := tg_20.2.2.2.2.2.2.2.2.2.2.2.2.2.1
theorem tw_510 : Cond.code yX5_isDigit cX5_isDigit 1 (some .boolean) ∈ bigT := tg_20.2.2.2.2.2.2.2.2.2.2.2.2.2.2.1
theorem tw_499 : Cond.constantLong RX5 222 (48) ∈ bigT := tg_20.2.2.2.2.2.2.2.2.2.2.2.2.2.2.2.1
theorem tw_500 : Cond.constantLong RX5 224 (57) ∈ bigT := tg_20.2.2.2.2.2.2.2.2.2.2.2.2.2.2.2.2.1
theorem tw_575 : Cond.methodLink RX5 319 yX5_item ∈ bigT := tg_20.2.2.2.2.2.2.2.2.2.2.2.2.2.2.2.2.2.1
theorem tw_576 : Cond.instanceMethod yX5_item ∈ bigT := tg_20.2.2.2.2.2.2.2.2.2.2.2.2.2.2.2.2.2.2.1
theorem tw_574 : Cond.code yX5_item cX5_item 2 (none) ∈ bigT := tg_20.2.2.2.2.2.2.2.2.2.2.2.2.2.2.2.2.2.2.2.1
theorem tw_556 : Cond.methodLink RX5 301 yX5_kindHere ∈ bigT := tg_20.2.2.2.2.2.2.2.2.2.2.2.2.2.2.2.2.2.2.2.2.1
theorem tw_557 : Cond.instanceMethod yX5_kindHere ∈ bigT := tg_20.2.2.2.2.2.2.2.2.2.2.2.2.2.2.2.2.2.2.2.2.2.1
theorem tw_555 : Cond.code yX5_kindHere cX5_kindHere 3 (some .int) ∈ bigT := tg_20.2.2.2.2.2.2.2.2.2.2.2.2.2.2.2.2.2.2.2.2.2.2.1
theorem tw_526 : Cond.methodLink RX5 259 yX5_word ∈ bigT := tg_20.2.2.2.2.2.2.2.2.2.2.2.2.2.2.2.2.2.2.2.2.2.2.2.1
set_option maxRecDepth 100000 in
theorem tg_21 : Cond.instanceMethod yX5_word ∈ bigT ∧ Cond.code yX5_word cX5_word 4 (some .long) ∈ bigT ∧ Cond.constantLong RX5 248 (36028797018963967) ∈ bigT ∧ Cond.constantLong RX5 250 (32) ∈ bigT ∧ Cond.constantLong RX5 263 (2552) ∈ bigT ∧ Cond.constantLong RX5 265 (673957) ∈ bigT ∧ Cond.constantLong RX5 267 (630948) ∈ bigT ∧ Cond.constantLong RX5 269 (553136178) ∈ bigT ∧ Cond.constantLong RX5 271 (24749811143) ∈ bigT ∧ Cond.constantLong RX5 273 (8902245) ∈ bigT ∧ Cond.constantLong RX5 275 (21486770) ∈ bigT ∧ Cond.methodLink RX5 304 yX5_thingItem ∈ bigT ∧ Cond.instanceMethod yX5_thingItem ∈ bigT ∧ Cond.code yX5_thingItem cX5_thingItem 6 (none) ∈ bigT ∧ Cond.methodLink RX5 255 yX5_needs ∈ bigT ∧ Cond.instanceMethod yX5_needs ∈ bigT ∧ Cond.code yX5_needs cX5_needs 2 (none) ∈ bigT ∧ Cond.constantLong RX5 280 (52) ∈ bigT ∧ Cond.methodLink RX5 282 yX5_lotTold ∈ bigT ∧ Cond.instanceMethod yX5_lotTold ∈ bigT ∧ Cond.code yX5_lotTold cX5_lotTold 4 (none) ∈ bigT ∧ Cond.constantLong RX5 285 (486) ∈ bigT ∧ Cond.methodLink RX5 287 yX5_numberBehind ∈ bigT ∧ Cond.instanceMethod yX5_numberBehind ∈ bigT ∧ True := by
  have h := tb_alls tables_1_5 tp_5 [181, 0, 0, 0, 0, 0, 0, 0, 0, 0, 0, 0, 1, 0, 0, 1, 0, 0, 0, 1, 0, 0, 0, 1] [Cond.instanceMethod yX5_word, Cond.code yX5_word cX5_word 4 (some .long), Cond.constantLong RX5 248 (36028797018963967), Cond.constantLong RX5 250 (32), Cond.constantLong RX5 263 (2552), Cond.constantLong RX5 265 (673957), Cond.constantLong RX5 267 (630948), Cond.constantLong RX5 269 (553136178), Cond.constantLong RX5 271 (24749811143), Cond.constantLong RX5 273 (8902245), Cond.constantLong RX5 275 (21486770), Cond.methodLink RX5 304 yX5_thingItem, Cond.instanceMethod yX5_thingItem, Cond.code yX5_thingItem cX5_thingItem 6 (none), Cond.methodLink RX5 255 yX5_needs, Cond.instanceMethod yX5_needs, Cond.code yX5_needs cX5_needs 2 (none), Cond.constantLong RX5 280 (52), Cond.methodLink RX5 282 yX5_lotTold, Cond.instanceMethod yX5_lotTold, Cond.code yX5_lotTold cX5_lotTold 4 (none), Cond.constantLong RX5 285 (486), Cond.methodLink RX5 287 yX5_numberBehind, Cond.instanceMethod yX5_numberBehind] rfl (by decide +kernel)
  exact h
theorem tw_527 : Cond.instanceMethod yX5_word ∈ bigT := tg_21.1
theorem tw_525 : Cond.code yX5_word cX5_word 4 (some .long) ∈ bigT := tg_21.2.1
theorem tw_518 : Cond.constantLong RX5 248 (36028797018963967) ∈ bigT := tg_21.2.2.1
theorem tw_519 : Cond.constantLong RX5 250 (32) ∈ bigT := tg_21.2.2.2.1
theorem tw_529 : Cond.constantLong RX5 263 (2552) ∈ bigT := tg_21.2.2.2.2.1
theorem tw_530 : Cond.constantLong RX5 265 (673957) ∈ bigT := tg_21.2.2.2.2.2.1
theorem tw_531 : Cond.constantLong RX5 267 (630948) ∈ bigT := tg_21.2.2.2.2.2.2.1
theorem tw_532 : Cond.constantLong RX5 269 (553136178) ∈ bigT := tg_21.2.2.2.2.2.2.2.1
theorem tw_533 : Cond.constantLong RX5 271 (24749811143) ∈ bigT := tg_21.2.2.2.2.2.2.2.2.1
theorem tw_534 : Cond.constantLong RX5 273 (8902245) ∈ bigT := tg_21.2.2.2.2.2.2.2.2.2.1
theorem tw_535 : Cond.constantLong RX5 275 (21486770) ∈ bigT := tg_21.2.2.2.2.2.2.2.2.2.2.1
theorem tw_571 : Cond.methodLink RX5 304 yX5_thingItem ∈ bigT := tg_21.2.2.2.2.2.2.2.2.2.2.2.1
theorem tw_572 : Cond.instanceMethod yX5_thingItem ∈ bigT := tg_21.2.2.2.2.2.2.2.2.2.2.2.2.1
theorem tw_570 : Cond.code yX5_thingItem cX5_thingItem 6 (none) ∈ bigT := tg_21.2.2.2.2.2.2.2.2.2.2.2.2.2.1
theorem tw_522 : Cond.methodLink RX5 255 yX5_needs ∈ bigT := tg_21.2.2.2.2.2.2.2.2.2.2.2.2.2.2.1
theorem tw_523 : Cond.instanceMethod yX5_needs ∈ bigT := tg_21.2.2.2.2.2.2.2.2.2.2.2.2.2.2.2.1
theorem tw_521 : Cond.code yX5_needs cX5_needs 2 (none) ∈ bigT := tg_21.2.2.2.2.2.2.2.2.2.2.2.2.2.2.2.2.1
theorem tw_540 : Cond.constantLong RX5 280 (52) ∈ bigT := tg_21.2.2.2.2.2.2.2.2.2.2.2.2.2.2.2.2.2.1
theorem tw_549 : Cond.methodLink RX5 282 yX5_lotTold ∈ bigT := tg_21.2.2.2.2.2.2.2.2.2.2.2.2.2.2.2.2.2.2.1
theorem tw_550 : Cond.instanceMethod yX5_lotTold ∈ bigT := tg_21.2.2.2.2.2.2.2.2.2.2.2.2.2.2.2.2.2.2.2.1
theorem tw_548 : Cond.code yX5_lotTold cX5_lotTold 4 (none) ∈ bigT := tg_21.2.2.2.2.2.2.2.2.2.2.2.2.2.2.2.2.2.2.2.2.1
theorem tw_541 : Cond.constantLong RX5 285 (486) ∈ bigT := tg_21.2.2.2.2.2.2.2.2.2.2.2.2.2.2.2.2.2.2.2.2.2.1
theorem tw_543 : Cond.methodLink RX5 287 yX5_numberBehind ∈ bigT := tg_21.2.2.2.2.2.2.2.2.2.2.2.2.2.2.2.2.2.2.2.2.2.2.1
theorem tw_544 : Cond.instanceMethod yX5_numberBehind ∈ bigT := tg_21.2.2.2.2.2.2.2.2.2.2.2.2.2.2.2.2.2.2.2.2.2.2.2.1
set_option maxRecDepth 100000 in
theorem tg_22 : Cond.code yX5_numberBehind cX5_numberBehind 4 (some .int) ∈ bigT ∧ Cond.methodLink RX5 277 yX5_number ∈ bigT ∧ Cond.instanceMethod yX5_number ∈ bigT ∧ Cond.code yX5_number cX5_number 6 (none) ∈ bigT ∧ Cond.constantLong RX5 291 (271592) ∈ bigT ∧ Cond.constantLong RX5 293 (16819668) ∈ bigT ∧ Cond.constantLong RX5 307 (781652471) ∈ bigT ∧ Cond.methodLink RX5 309 yX5_windowItem ∈ bigT ∧ Cond.instanceMethod yX5_windowItem ∈ bigT ∧ Cond.code yX5_windowItem cX5_windowItem 6 (none) ∈ bigT ∧ Cond.constantLong RX5 295 (12769452) ∈ bigT ∧ Cond.constantLong RX5 297 (23609) ∈ bigT ∧ Cond.constantLong RX5 299 (6642) ∈ bigT ∧ Cond.constantLong RX5 312 (17376357) ∈ bigT ∧ Cond.methodLink RX5 314 yX5_priceItem ∈ bigT ∧ Cond.instanceMethod yX5_priceItem ∈ bigT ∧ Cond.code yX5_priceItem cX5_priceItem 2 (none) ∈ bigT ∧ Cond.constantLong RX5 317 (3544114) ∈ bigT ∧ Cond.constant RX5 322 (-1000006) ∈ bigT ∧ Cond.constant RX5 323 (-1000003) ∈ bigT ∧ True := by
  have h := tb_alls tables_1_5 tp_5 [209, 0, 1, 0, 0, 0, 0, 0, 1, 0, 0, 0, 0, 0, 0, 1, 0, 0, 8, 0] [Cond.code yX5_numberBehind cX5_numberBehind 4 (some .int), Cond.methodLink RX5 277 yX5_number, Cond.instanceMethod yX5_number, Cond.code yX5_number cX5_number 6 (none), Cond.constantLong RX5 291 (271592), Cond.constantLong RX5 293 (16819668), Cond.constantLong RX5 307 (781652471), Cond.methodLink RX5 309 yX5_windowItem, Cond.instanceMethod yX5_windowItem, Cond.code yX5_windowItem cX5_windowItem 6 (none), Cond.constantLong RX5 295 (12769452), Cond.constantLong RX5 297 (23609), Cond.constantLong RX5 299 (6642), Cond.constantLong RX5 312 (17376357), Cond.methodLink RX5 314 yX5_priceItem, Cond.instanceMethod yX5_priceItem, Cond.code yX5_priceItem cX5_priceItem 2 (none), Cond.constantLong RX5 317 (3544114), Cond.constant RX5 322 (-1000006), Cond.constant RX5 323 (-1000003)] rfl (by decide +kernel)
  exact h
theorem tw_542 : Cond.code yX5_numberBehind cX5_numberBehind 4 (some .int) ∈ bigT := tg_22.1
theorem tw_537 : Cond.methodLink RX5 277 yX5_number ∈ bigT := tg_22.2.1
theorem tw_538 : Cond.instanceMethod yX5_number ∈ bigT := tg_22.2.2.1
theorem tw_536 : Cond.code yX5_number cX5_number 6 (none) ∈ bigT := tg_22.2.2.2.1
theorem tw_546 : Cond.constantLong RX5 291 (271592) ∈ bigT := tg_22.2.2.2.2.1
theorem tw_547 : Cond.constantLong RX5 293 (16819668) ∈ bigT := tg_22.2.2.2.2.2.1
theorem tw_559 : Cond.constantLong RX5 307 (781652471) ∈ bigT := tg_22.2.2.2.2.2.2.1
theorem tw_567 : Cond.methodLink RX5 309 yX5_windowItem ∈ bigT := tg_22.2.2.2.2.2.2.2.1
theorem tw_568 : Cond.instanceMethod yX5_windowItem ∈ bigT := tg_22.2.2.2.2.2.2.2.2.1
theorem tw_566 : Cond.code yX5_windowItem cX5_windowItem 6 (none) ∈ bigT := tg_22.2.2.2.2.2.2.2.2.2.1
theorem tw_552 : Cond.constantLong RX5 295 (12769452) ∈ bigT := tg_22.2.2.2.2.2.2.2.2.2.2.1
theorem tw_553 : Cond.constantLong RX5 297 (23609) ∈ bigT := tg_22.2.2.2.2.2.2.2.2.2.2.2.1
theorem tw_554 : Cond.constantLong RX5 299 (6642) ∈ bigT := tg_22.2.2.2.2.2.2.2.2.2.2.2.2.1
theorem tw_560 : Cond.constantLong RX5 312 (17376357) ∈ bigT := tg_22.2.2.2.2.2.2.2.2.2.2.2.2.2.1
theorem tw_563 : Cond.methodLink RX5 314 yX5_priceItem ∈ bigT := tg_22.2.2.2.2.2.2.2.2.2.2.2.2.2.2.1
theorem tw_564 : Cond.instanceMethod yX5_priceItem ∈ bigT := tg_22.2.2.2.2.2.2.2.2.2.2.2.2.2.2.2.1
theorem tw_562 : Cond.code yX5_priceItem cX5_priceItem 2 (none) ∈ bigT := tg_22.2.2.2.2.2.2.2.2.2.2.2.2.2.2.2.2.1
theorem tw_561 : Cond.constantLong RX5 317 (3544114) ∈ bigT := tg_22.2.2.2.2.2.2.2.2.2.2.2.2.2.2.2.2.2.1
theorem tw_578 : Cond.constant RX5 322 (-1000006) ∈ bigT := tg_22.2.2.2.2.2.2.2.2.2.2.2.2.2.2.2.2.2.2.1
theorem tw_579 : Cond.constant RX5 323 (-1000003) ∈ bigT := tg_22.2.2.2.2.2.2.2.2.2.2.2.2.2.2.2.2.2.2.2.1
set_option maxRecDepth 100000 in
theorem tg_23 : Cond.methodLink RX5 324 yX5_isOne ∈ bigT ∧ Cond.static yX5_isOne ∈ bigT ∧ Cond.code yX5_isOne cX5_isOne 1 (some .boolean) ∈ bigT ∧ Cond.constant RX5 327 (-1000007) ∈ bigT ∧ Cond.methodLink RX5 328 yX5_wrong ∈ bigT ∧ Cond.instanceMethod yX5_wrong ∈ bigT ∧ Cond.code yX5_wrong cX5_wrong 2 (some .int) ∈ bigT ∧ Cond.methodLink RX5 331 yX5_narrowed ∈ bigT ∧ Cond.static yX5_narrowed ∈ bigT ∧ Cond.code yX5_narrowed cX5_narrowed 2 (some .int) ∈ bigT ∧ Cond.methodLink RX5 337 yX5_heights ∈ bigT ∧ Cond.instanceMethod yX5_heights ∈ bigT ∧ Cond.code yX5_heights cX5_heights 3 (some .int) ∈ bigT ∧ Cond.methodLink RX5 340 yX5_contracts ∈ bigT ∧ Cond.instanceMethod yX5_contracts ∈ bigT ∧ Cond.code yX5_contracts cX5_contracts 3 (some .int) ∈ bigT ∧ Cond.methodLink RX5 343 yX5_held ∈ bigT ∧ Cond.instanceMethod yX5_held ∈ bigT ∧ Cond.code yX5_held cX5_held 3 (some .int) ∈ bigT ∧ Cond.fieldLink RJ0 9 "java/lang/String" "value" "[B" ∈ bigT ∧ Cond.fieldLink RJ0 15 "java/lang/String" "coder" "B" ∈ bigT ∧ True := by
  have h := tb_alls tables_1_6 tp_6 [4, 0, 0, 0, 4, 1, 0, 0, 0, 0, 28, 1, 0, 0, 1, 0, 0, 1, 0, 4, 0] [Cond.methodLink RX5 324 yX5_isOne, Cond.static yX5_isOne, Cond.code yX5_isOne cX5_isOne 1 (some .boolean), Cond.constant RX5 327 (-1000007), Cond.methodLink RX5 328 yX5_wrong, Cond.instanceMethod yX5_wrong, Cond.code yX5_wrong cX5_wrong 2 (some .int), Cond.methodLink RX5 331 yX5_narrowed, Cond.static yX5_narrowed, Cond.code yX5_narrowed cX5_narrowed 2 (some .int), Cond.methodLink RX5 337 yX5_heights, Cond.instanceMethod yX5_heights, Cond.code yX5_heights cX5_heights 3 (some .int), Cond.methodLink RX5 340 yX5_contracts, Cond.instanceMethod yX5_contracts, Cond.code yX5_contracts cX5_contracts 3 (some .int), Cond.methodLink RX5 343 yX5_held, Cond.instanceMethod yX5_held, Cond.code yX5_held cX5_held 3 (some .int), Cond.fieldLink RJ0 9 "java/lang/String" "value" "[B", Cond.fieldLink RJ0 15 "java/lang/String" "coder" "B"] rfl (by decide +kernel)
  exact h
theorem tw_581 : Cond.methodLink RX5 324 yX5_isOne ∈ bigT := tg_23.1
theorem tw_582 : Cond.static yX5_isOne ∈ bigT := tg_23.2.1
theorem tw_580 : Cond.code yX5_isOne cX5_isOne 1 (some .boolean) ∈ bigT := tg_23.2.2.1
theorem tw_585 : Cond.constant RX5 327 (-1000007) ∈ bigT := tg_23.2.2.2.1
theorem tw_588 : Cond.methodLink RX5 328 yX5_wrong ∈ bigT := tg_23.2.2.2.2.1
theorem tw_589 : Cond.instanceMethod yX5_wrong ∈ bigT := tg_23.2.2.2.2.2.1
theorem tw_587 : Cond.code yX5_wrong cX5_wrong 2 (some .int) ∈ bigT := tg_23.2.2.2.2.2.2.1
theorem tw_592 : Cond.methodLink RX5 331 yX5_narrowed ∈ bigT := tg_23.2.2.2.2.2.2.2.1
theorem tw_593 : Cond.static yX5_narrowed ∈ bigT := tg_23.2.2.2.2.2.2.2.2.1
theorem tw_591 : Cond.code yX5_narrowed cX5_narrowed 2 (some .int) ∈ bigT := tg_23.2.2.2.2.2.2.2.2.2.1
theorem tw_598 : Cond.methodLink RX5 337 yX5_heights ∈ bigT := tg_23.2.2.2.2.2.2.2.2.2.2.1
theorem tw_599 : Cond.instanceMethod yX5_heights ∈ bigT := tg_23.2.2.2.2.2.2.2.2.2.2.2.1
theorem tw_597 : Cond.code yX5_heights cX5_heights 3 (some .int) ∈ bigT := tg_23.2.2.2.2.2.2.2.2.2.2.2.2.1
theorem tw_602 : Cond.methodLink RX5 340 yX5_contracts ∈ bigT := tg_23.2.2.2.2.2.2.2.2.2.2.2.2.2.1
theorem tw_603 : Cond.instanceMethod yX5_contracts ∈ bigT := tg_23.2.2.2.2.2.2.2.2.2.2.2.2.2.2.1
theorem tw_601 : Cond.code yX5_contracts cX5_contracts 3 (some .int) ∈ bigT := tg_23.2.2.2.2.2.2.2.2.2.2.2.2.2.2.2.1
theorem tw_606 : Cond.methodLink RX5 343 yX5_held ∈ bigT := tg_23.2.2.2.2.2.2.2.2.2.2.2.2.2.2.2.2.1
theorem tw_607 : Cond.instanceMethod yX5_held ∈ bigT := tg_23.2.2.2.2.2.2.2.2.2.2.2.2.2.2.2.2.2.1
theorem tw_605 : Cond.code yX5_held cX5_held 3 (some .int) ∈ bigT := tg_23.2.2.2.2.2.2.2.2.2.2.2.2.2.2.2.2.2.2.1
theorem tw_22 : Cond.fieldLink RJ0 9 "java/lang/String" "value" "[B" ∈ bigT := tg_23.2.2.2.2.2.2.2.2.2.2.2.2.2.2.2.2.2.2.2.1
theorem tw_23 : Cond.fieldLink RJ0 15 "java/lang/String" "coder" "B" ∈ bigT := tg_23.2.2.2.2.2.2.2.2.2.2.2.2.2.2.2.2.2.2.2.2.1
theorem tw_32 : Cond.selects RX3 yX3_isSummer yX3_isSummer ∈ bigT := bt_sel (q := (yX3_isSummer, 8)) 6 (by decide +kernel)
theorem tw_53 : Cond.selects RX3 yX3_isTaken yX3_isTaken ∈ bigT := bt_sel (q := (yX3_isTaken, 8)) 1 (by decide +kernel)
theorem tw_56 : Cond.selects RX3 yX3_standing yX3_standing ∈ bigT := bt_sel (q := (yX3_standing, 8)) 5 (by decide +kernel)
theorem tw_60 : Cond.selects RX0 yX0_lowestSeen yX0_lowestSeen ∈ bigT := bt_sel (q := (yX0_lowestSeen, 3)) 14 (by decide +kernel)
theorem tw_64 : Cond.selects RX0 yX0_squares yX0_squares ∈ bigT := bt_sel (q := (yX0_squares, 3)) 15 (by decide +kernel)
theorem tw_68 : Cond.selects RX0 yX0_look yX0_look ∈ bigT := bt_sel (q := (yX0_look, 3)) 13 (by decide +kernel)
theorem tw_72 : Cond.selects RX0 yX0_squaresInView yX0_squaresInView ∈ bigT := bt_sel (q := (yX0_squaresInView, 3)) 17 (by decide +kernel)
theorem tw_76 : Cond.selects RX3 yX3_squarePrice yX3_squarePrice ∈ bigT := bt_sel (q := (yX3_squarePrice, 8)) 7 (by decide +kernel)
theorem tw_80 : Cond.selects RX0 yX0_pay yX0_pay ∈ bigT := bt_sel (q := (yX0_pay, 3)) 19 (by decide +kernel)
theorem tw_84 : Cond.selects RX0 yX0_squaresOfOwner yX0_squaresOfOwner ∈ bigT := bt_sel (q := (yX0_squaresOfOwner, 3)) 12 (by decide +kernel)
theorem tw_88 : Cond.selects RX0 yX0_isBroken yX0_isBroken ∈ bigT := bt_sel (q := (yX0_isBroken, 3)) 11 (by decide +kernel)
theorem tw_99 : Cond.selects RX2 yX2_sortAt yX2_sortAt ∈ bigT := bt_sel (q := (yX2_sortAt, 7)) 39 (by decide +kernel)
theorem tw_115 : Cond.selects RX2 yX2_isWord yX2_isWord ∈ bigT := bt_sel (q := (yX2_isWord, 7)) 42 (by decide +kernel)
theorem tw_120 : Cond.selects RX2 yX2_failHere yX2_failHere ∈ bigT := bt_sel (q := (yX2_failHere, 7)) 45 (by decide +kernel)
theorem tw_124 : Cond.selects RX2 yX2_nextToken yX2_nextToken ∈ bigT := bt_sel (q := (yX2_nextToken, 7)) 38 (by decide +kernel)
theorem tw_128 : Cond.selects RX2 yX2_takeWord yX2_takeWord ∈ bigT := bt_sel (q := (yX2_takeWord, 7)) 44 (by decide +kernel)
theorem tw_132 : Cond.selects RX2 yX2_takeLot yX2_takeLot ∈ bigT := bt_sel (q := (yX2_takeLot, 7)) 46 (by decide +kernel)
theorem tw_136 : Cond.selects RX2 yX2_takeNumber yX2_takeNumber ∈ bigT := bt_sel (q := (yX2_takeNumber, 7)) 47 (by decide +kernel)
theorem tw_139 : Cond.selects RX3 yX3_put yX3_put ∈ bigT := bt_sel (q := (yX3_put, 8)) 2 (by decide +kernel)
theorem tw_144 : Cond.selects RX3 yX3_addWindow yX3_addWindow ∈ bigT := bt_sel (q := (yX3_addWindow, 8)) 9 (by decide +kernel)
theorem tw_147 : Cond.selects RX3 yX3_takeOff yX3_takeOff ∈ bigT := bt_sel (q := (yX3_takeOff, 8)) 4 (by decide +kernel)
theorem tw_151 : Cond.selects RX2 yX2_kindOfWord yX2_kindOfWord ∈ bigT := bt_sel (q := (yX2_kindOfWord, 7)) 41 (by decide +kernel)
theorem tw_155 : Cond.selects RX2 yX2_readClear yX2_readClear ∈ bigT := bt_sel (q := (yX2_readClear, 7)) 50 (by decide +kernel)
theorem tw_159 : Cond.selects RX2 yX2_readPrice yX2_readPrice ∈ bigT := bt_sel (q := (yX2_readPrice, 7)) 49 (by decide +kernel)
theorem tw_163 : Cond.selects RX2 yX2_readWindow yX2_readWindow ∈ bigT := bt_sel (q := (yX2_readWindow, 7)) 48 (by decide +kernel)
theorem tw_167 : Cond.selects RX2 yX2_readThing yX2_readThing ∈ bigT := bt_sel (q := (yX2_readThing, 7)) 43 (by decide +kernel)
theorem tw_171 : Cond.selects RX2 yX2_readItem yX2_readItem ∈ bigT := bt_sel (q := (yX2_readItem, 7)) 40 (by decide +kernel)
theorem tw_183 : Cond.selects RX3 yX3_growth yX3_growth ∈ bigT := bt_sel (q := (yX3_growth, 8)) 8 (by decide +kernel)
theorem tw_194 : Cond.selects RX4 yX4_finding yX4_finding ∈ bigT := bt_sel (q := (yX4_finding, 11)) 0 (by decide +kernel)
theorem tw_198 : Cond.selects RX3 yX3_thingCount yX3_thingCount ∈ bigT := bt_sel (q := (yX3_thingCount, 8)) 3 (by decide +kernel)
theorem tw_205 : Cond.selects RX4 yX4_isWindow yX4_isWindow ∈ bigT := bt_sel (q := (yX4_isWindow, 11)) 10 (by decide +kernel)
theorem tw_212 : Cond.selects RX0 yX0_squareSet yX0_squareSet ∈ bigT := bt_sel (q := (yX0_squareSet, 3)) 16 (by decide +kernel)
theorem tw_215 : Cond.selects RX0 yX0_lotSet yX0_lotSet ∈ bigT := bt_sel (q := (yX0_lotSet, 3)) 18 (by decide +kernel)
theorem tw_220 : Cond.selects RX0 yX0_gainsInto yX0_gainsInto ∈ bigT := bt_sel (q := (yX0_gainsInto, 3)) 20 (by decide +kernel)
theorem tw_223 : Cond.selects RX0 yX0_brokenSet yX0_brokenSet ∈ bigT := bt_sel (q := (yX0_brokenSet, 3)) 21 (by decide +kernel)
theorem tw_226 : Cond.selects RX0 yX0_payAll yX0_payAll ∈ bigT := bt_sel (q := (yX0_payAll, 3)) 23 (by decide +kernel)
theorem tw_229 : Cond.selects RX3 yX3_growAll yX3_growAll ∈ bigT := bt_sel (q := (yX3_growAll, 8)) 24 (by decide +kernel)
theorem tw_233 : Cond.selects RX4 yX4_passMonths yX4_passMonths ∈ bigT := bt_sel (q := (yX4_passMonths, 11)) 22 (by decide +kernel)
theorem tw_237 : Cond.selects RX3 yX3_become yX3_become ∈ bigT := bt_sel (q := (yX3_become, 8)) 25 (by decide +kernel)
theorem tw_240 : Cond.selects RX0 yX0_squaresInAllViews yX0_squaresInAllViews ∈ bigT := bt_sel (q := (yX0_squaresInAllViews, 3)) 26 (by decide +kernel)
theorem tw_244 : Cond.selects RX4 yX4_tryUntilBroken yX4_tryUntilBroken ∈ bigT := bt_sel (q := (yX4_tryUntilBroken, 11)) 27 (by decide +kernel)
theorem tw_248 : Cond.selects RX4 yX4_isBrokenWithout yX4_isBrokenWithout ∈ bigT := bt_sel (q := (yX4_isBrokenWithout, 11)) 28 (by decide +kernel)
theorem tw_252 : Cond.selects RX4 yX4_bestFor yX4_bestFor ∈ bigT := bt_sel (q := (yX4_bestFor, 11)) 29 (by decide +kernel)
theorem tw_260 : Cond.selects RX3 yX3_lower yX3_lower ∈ bigT := bt_sel (q := (yX3_lower, 8)) 32 (by decide +kernel)
theorem tw_263 : Cond.selects RX3 yX3_isOwnersLot yX3_isOwnersLot ∈ bigT := bt_sel (q := (yX3_isOwnersLot, 8)) 30 (by decide +kernel)
theorem tw_267 : Cond.selects RX4 yX4_bothGainIfLower yX4_bothGainIfLower ∈ bigT := bt_sel (q := (yX4_bothGainIfLower, 11)) 31 (by decide +kernel)
theorem tw_270 : Cond.selects RX3 yX3_exchange yX3_exchange ∈ bigT := bt_sel (q := (yX3_exchange, 8)) 33 (by decide +kernel)
theorem tw_276 : Cond.selects RX3 yX3_draw yX3_draw ∈ bigT := bt_sel (q := (yX3_draw, 8)) 34 (by decide +kernel)
theorem tw_279 : Cond.selects RX3 yX3_lotOfThing yX3_lotOfThing ∈ bigT := bt_sel (q := (yX3_lotOfThing, 8)) 35 (by decide +kernel)
theorem tw_283 : Cond.selects RX2 yX2_append yX2_append ∈ bigT := bt_sel (q := (yX2_append, 7)) 36 (by decide +kernel)
theorem tw_286 : Cond.selects RX2 yX2_readText yX2_readText ∈ bigT := bt_sel (q := (yX2_readText, 7)) 37 (by decide +kernel)
theorem tw_297 : Cond.selects RX1 yX1_begin yX1_begin ∈ bigT := bt_sel (q := (yX1_begin, 3)) 51 (by decide +kernel)
theorem tw_300 : Cond.selects RX1 yX1_isMissing yX1_isMissing ∈ bigT := bt_sel (q := (yX1_isMissing, 3)) 52 (by decide +kernel)
theorem tw_303 : Cond.selects RX1 yX1_store yX1_store ∈ bigT := bt_sel (q := (yX1_store, 3)) 53 (by decide +kernel)
theorem tw_306 : Cond.selects RX1 yX1_hasRange yX1_hasRange ∈ bigT := bt_sel (q := (yX1_hasRange, 3)) 54 (by decide +kernel)
theorem tw_312 : Cond.selects RX3 yX3_heightOfAll yX3_heightOfAll ∈ bigT := bt_sel (q := (yX3_heightOfAll, 8)) 55 (by decide +kernel)
theorem tw_315 : Cond.selects RX3 yX3_contractCount yX3_contractCount ∈ bigT := bt_sel (q := (yX3_contractCount, 8)) 56 (by decide +kernel)
theorem tw_318 : Cond.selects RX3 yX3_spotsInUse yX3_spotsInUse ∈ bigT := bt_sel (q := (yX3_spotsInUse, 8)) 57 (by decide +kernel)
theorem tw_337 : Cond.selects RX5 yX5_its yX5_its ∈ bigT := bt_sel (q := (yX5_its, 21)) 60 (by decide +kernel)
theorem tw_341 : Cond.selects RX5 yX5_isThing yX5_isThing ∈ bigT := bt_sel (q := (yX5_isThing, 21)) 59 (by decide +kernel)
theorem tw_346 : Cond.selects RX5 yX5_finds yX5_finds ∈ bigT := bt_sel (q := (yX5_finds, 21)) 58 (by decide +kernel)
theorem tw_359 : Cond.selects RX5 yX5_builds yX5_builds ∈ bigT := bt_sel (q := (yX5_builds, 21)) 61 (by decide +kernel)
theorem tw_363 : Cond.selects RX5 yX5_things yX5_things ∈ bigT := bt_sel (q := (yX5_things, 21)) 62 (by decide +kernel)
theorem tw_369 : Cond.selects RX5 yX5_lotWrong yX5_lotWrong ∈ bigT := bt_sel (q := (yX5_lotWrong, 21)) 63 (by decide +kernel)
theorem tw_374 : Cond.selects RX5 yX5_isSummer yX5_isSummer ∈ bigT := bt_sel (q := (yX5_isSummer, 21)) 65 (by decide +kernel)
theorem tw_378 : Cond.selects RX5 yX5_grows yX5_grows ∈ bigT := bt_sel (q := (yX5_grows, 21)) 67 (by decide +kernel)
theorem tw_382 : Cond.selects RX5 yX5_priceOf yX5_priceOf ∈ bigT := bt_sel (q := (yX5_priceOf, 21)) 66 (by decide +kernel)
theorem tw_386 : Cond.selects RX5 yX5_stands yX5_stands ∈ bigT := bt_sel (q := (yX5_stands, 21)) 64 (by decide +kernel)
theorem tw_394 : Cond.selects RX5 yX5_newWindow yX5_newWindow ∈ bigT := bt_sel (q := (yX5_newWindow, 21)) 68 (by decide +kernel)
theorem tw_399 : Cond.selects RX5 yX5_isWindow yX5_isWindow ∈ bigT := bt_sel (q := (yX5_isWindow, 21)) 69 (by decide +kernel)
theorem tw_404 : Cond.selects RX5 yX5_told yX5_told ∈ bigT := bt_sel (q := (yX5_told, 21)) 70 (by decide +kernel)
theorem tw_416 : Cond.selects RX5 yX5_seen yX5_seen ∈ bigT := bt_sel (q := (yX5_seen, 21)) 73 (by decide +kernel)
theorem tw_424 : Cond.selects RX5 yX5_looks yX5_looks ∈ bigT := bt_sel (q := (yX5_looks, 21)) 72 (by decide +kernel)
theorem tw_430 : Cond.selects RX5 yX5_isBroken yX5_isBroken ∈ bigT := bt_sel (q := (yX5_isBroken, 21)) 71 (by decide +kernel)
theorem tw_434 : Cond.selects RX5 yX5_findGains yX5_findGains ∈ bigT := bt_sel (q := (yX5_findGains, 21)) 75 (by decide +kernel)
theorem tw_438 : Cond.selects RX5 yX5_gainOf yX5_gainOf ∈ bigT := bt_sel (q := (yX5_gainOf, 21)) 74 (by decide +kernel)
theorem tw_442 : Cond.selects RX5 yX5_brokenSet yX5_brokenSet ∈ bigT := bt_sel (q := (yX5_brokenSet, 21)) 76 (by decide +kernel)
theorem tw_446 : Cond.selects RX5 yX5_month yX5_month ∈ bigT := bt_sel (q := (yX5_month, 21)) 79 (by decide +kernel)
theorem tw_451 : Cond.selects RX5 yX5_isTooLate yX5_isTooLate ∈ bigT := bt_sel (q := (yX5_isTooLate, 21)) 77 (by decide +kernel)
theorem tw_455 : Cond.selects RX5 yX5_monthsGo yX5_monthsGo ∈ bigT := bt_sel (q := (yX5_monthsGo, 21)) 78 (by decide +kernel)
theorem tw_460 : Cond.selects RX5 yX5_puts yX5_puts ∈ bigT := bt_sel (q := (yX5_puts, 21)) 80 (by decide +kernel)
theorem tw_464 : Cond.selects RX5 yX5_putsBack yX5_putsBack ∈ bigT := bt_sel (q := (yX5_putsBack, 21)) 82 (by decide +kernel)
theorem tw_468 : Cond.selects RX5 yX5_allViews yX5_allViews ∈ bigT := bt_sel (q := (yX5_allViews, 21)) 81 (by decide +kernel)
theorem tw_472 : Cond.selects RX5 yX5_isLate yX5_isLate ∈ bigT := bt_sel (q := (yX5_isLate, 21)) 83 (by decide +kernel)
theorem tw_476 : Cond.selects RX5 yX5_breaks yX5_breaks ∈ bigT := bt_sel (q := (yX5_breaks, 21)) 84 (by decide +kernel)
theorem tw_480 : Cond.selects RX5 yX5_bestPart yX5_bestPart ∈ bigT := bt_sel (q := (yX5_bestPart, 21)) 85 (by decide +kernel)
theorem tw_484 : Cond.selects RX5 yX5_viewOf yX5_viewOf ∈ bigT := bt_sel (q := (yX5_viewOf, 21)) 86 (by decide +kernel)
theorem tw_488 : Cond.selects RX5 yX5_isLowered yX5_isLowered ∈ bigT := bt_sel (q := (yX5_isLowered, 21)) 87 (by decide +kernel)
theorem tw_494 : Cond.selects RX5 yX5_draw yX5_draw ∈ bigT := bt_sel (q := (yX5_draw, 21)) 88 (by decide +kernel)
theorem tw_506 : Cond.selects RX5 yX5_byteAt yX5_byteAt ∈ bigT := bt_sel (q := (yX5_byteAt, 21)) 90 (by decide +kernel)
theorem tw_517 : Cond.selects RX5 yX5_token yX5_token ∈ bigT := bt_sel (q := (yX5_token, 21)) 89 (by decide +kernel)
theorem tw_524 : Cond.selects RX5 yX5_needs yX5_needs ∈ bigT := bt_sel (q := (yX5_needs, 21)) 95 (by decide +kernel)
theorem tw_528 : Cond.selects RX5 yX5_word yX5_word ∈ bigT := bt_sel (q := (yX5_word, 21)) 93 (by decide +kernel)
theorem tw_539 : Cond.selects RX5 yX5_number yX5_number ∈ bigT := bt_sel (q := (yX5_number, 21)) 98 (by decide +kernel)
theorem tw_545 : Cond.selects RX5 yX5_numberBehind yX5_numberBehind ∈ bigT := bt_sel (q := (yX5_numberBehind, 21)) 97 (by decide +kernel)
theorem tw_551 : Cond.selects RX5 yX5_lotTold yX5_lotTold ∈ bigT := bt_sel (q := (yX5_lotTold, 21)) 96 (by decide +kernel)
theorem tw_558 : Cond.selects RX5 yX5_kindHere yX5_kindHere ∈ bigT := bt_sel (q := (yX5_kindHere, 21)) 92 (by decide +kernel)
theorem tw_565 : Cond.selects RX5 yX5_priceItem yX5_priceItem ∈ bigT := bt_sel (q := (yX5_priceItem, 21)) 100 (by decide +kernel)
theorem tw_569 : Cond.selects RX5 yX5_windowItem yX5_windowItem ∈ bigT := bt_sel (q := (yX5_windowItem, 21)) 99 (by decide +kernel)
theorem tw_573 : Cond.selects RX5 yX5_thingItem yX5_thingItem ∈ bigT := bt_sel (q := (yX5_thingItem, 21)) 94 (by decide +kernel)
theorem tw_577 : Cond.selects RX5 yX5_item yX5_item ∈ bigT := bt_sel (q := (yX5_item, 21)) 91 (by decide +kernel)
theorem tw_590 : Cond.selects RX5 yX5_wrong yX5_wrong ∈ bigT := bt_sel (q := (yX5_wrong, 21)) 101 (by decide +kernel)
theorem tw_600 : Cond.selects RX5 yX5_heights yX5_heights ∈ bigT := bt_sel (q := (yX5_heights, 21)) 102 (by decide +kernel)
theorem tw_604 : Cond.selects RX5 yX5_contracts yX5_contracts ∈ bigT := bt_sel (q := (yX5_contracts, 21)) 103 (by decide +kernel)
theorem tw_608 : Cond.selects RX5 yX5_held yX5_held ∈ bigT := bt_sel (q := (yX5_held, 21)) 104 (by decide +kernel)
