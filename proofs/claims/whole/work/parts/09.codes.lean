/-! the words of the methods' codes -/
theorem tb_in_1 {w : Cond} (h : w ∈ tables_1_1) (hg : goodWord w = true) : w ∈ Gl := List.mem_filter.mpr ⟨List.mem_append_right _ (List.mem_append_left _ h), hg⟩
theorem tb_in_2 {w : Cond} (h : w ∈ tables_1_2) (hg : goodWord w = true) : w ∈ Gl := List.mem_filter.mpr ⟨List.mem_append_right _ (List.mem_append_right _ (List.mem_append_left _ h)), hg⟩
theorem tb_in_3 {w : Cond} (h : w ∈ tables_1_3) (hg : goodWord w = true) : w ∈ Gl := List.mem_filter.mpr ⟨List.mem_append_right _ (List.mem_append_right _ (List.mem_append_right _ (List.mem_append_left _ h))), hg⟩
theorem tb_in_4 {w : Cond} (h : w ∈ tables_1_4) (hg : goodWord w = true) : w ∈ Gl := List.mem_filter.mpr ⟨List.mem_append_right _ (List.mem_append_right _ (List.mem_append_right _ (List.mem_append_right _ (List.mem_append_left _ h)))), hg⟩
theorem tb_in_5 {w : Cond} (h : w ∈ tables_1_5) (hg : goodWord w = true) : w ∈ Gl := List.mem_filter.mpr ⟨List.mem_append_right _ (List.mem_append_right _ (List.mem_append_right _ (List.mem_append_right _ (List.mem_append_right _ (List.mem_append_left _ h))))), hg⟩
theorem tb_in_6 {w : Cond} (h : w ∈ tables_1_6) (hg : goodWord w = true) : w ∈ Gl := List.mem_filter.mpr ⟨List.mem_append_right _ (List.mem_append_right _ (List.mem_append_right _ (List.mem_append_right _ (List.mem_append_right _ (List.mem_append_right _ (List.mem_append_left _ h)))))), hg⟩
theorem tb_in_7 {w : Cond} (h : w ∈ tables_1_7) (hg : goodWord w = true) : w ∈ Gl := List.mem_filter.mpr ⟨List.mem_append_right _ (List.mem_append_right _ (List.mem_append_right _ (List.mem_append_right _ (List.mem_append_right _ (List.mem_append_right _ (List.mem_append_right _ (List.mem_append_left _ h))))))), hg⟩
theorem tb_in_8 {w : Cond} (h : w ∈ tables_1_8) (hg : goodWord w = true) : w ∈ Gl := List.mem_filter.mpr ⟨List.mem_append_right _ (List.mem_append_right _ (List.mem_append_right _ (List.mem_append_right _ (List.mem_append_right _ (List.mem_append_right _ (List.mem_append_right _ (List.mem_append_right _ (h)))))))), hg⟩
set_option maxRecDepth 100000 in
theorem cd_0 : Cond.code yX0_init cX0_init 1 (none) ∈ Gl := tb_in_1 (List.mem_of_getElem? (i := 110) rfl) rfl
set_option maxRecDepth 100000 in
theorem cd_1 : Cond.code yX0_add cX0_add 2 (some .boolean) ∈ Gl := tb_in_3 (List.mem_of_getElem? (i := 148) rfl) rfl
set_option maxRecDepth 100000 in
theorem cd_2 : Cond.code yX1_init cX1_init 1 (none) ∈ Gl := tb_in_1 (List.mem_of_getElem? (i := 40) rfl) rfl
set_option maxRecDepth 100000 in
theorem cd_3 : Cond.code yX1_readQuestion cX1_readQuestion 6 (some .int) ∈ Gl := tb_in_5 (List.mem_of_getElem? (i := 26) rfl) rfl
set_option maxRecDepth 100000 in
theorem cd_4 : Cond.code yX1_test cX1_test 5 (some .boolean) ∈ Gl := tb_in_3 (List.mem_of_getElem? (i := 129) rfl) rfl
set_option maxRecDepth 100000 in
theorem cd_5 : Cond.code yX1_both cX1_both 5 (some .boolean) ∈ Gl := tb_in_3 (List.mem_of_getElem? (i := 133) rfl) rfl
set_option maxRecDepth 100000 in
theorem cd_6 : Cond.code yX1_fact cX1_fact 4 (some .boolean) ∈ Gl := tb_in_3 (List.mem_of_getElem? (i := 137) rfl) rfl
set_option maxRecDepth 100000 in
theorem cd_7 : Cond.code yX1_sum cX1_sum 6 (some .boolean) ∈ Gl := tb_in_3 (List.mem_of_getElem? (i := 162) rfl) rfl
set_option maxRecDepth 100000 in
theorem cd_8 : Cond.code yX1_product cX1_product 6 (some .boolean) ∈ Gl := tb_in_3 (List.mem_of_getElem? (i := 166) rfl) rfl
set_option maxRecDepth 100000 in
theorem cd_9 : Cond.code yX1_part cX1_part 4 (some .boolean) ∈ Gl := tb_in_3 (List.mem_of_getElem? (i := 170) rfl) rfl
set_option maxRecDepth 100000 in
theorem cd_10 : Cond.code yX1_pair cX1_pair 3 (some .boolean) ∈ Gl := tb_in_3 (List.mem_of_getElem? (i := 175) rfl) rfl
set_option maxRecDepth 100000 in
theorem cd_11 : Cond.code yX1_mayOpen cX1_mayOpen 2 (some .boolean) ∈ Gl := tb_in_3 (List.mem_of_getElem? (i := 142) rfl) rfl
set_option maxRecDepth 100000 in
theorem cd_12 : Cond.code yX1_isAskedOfNumber cX1_isAskedOfNumber 2 (some .boolean) ∈ Gl := tb_in_3 (List.mem_of_getElem? (i := 179) rfl) rfl
set_option maxRecDepth 100000 in
theorem cd_13 : Cond.code yX1_isAlone cX1_isAlone 2 (some .boolean) ∈ Gl := tb_in_3 (List.mem_of_getElem? (i := 183) rfl) rfl
set_option maxRecDepth 100000 in
theorem cd_14 : Cond.code yX2_init cX2_init 1 (none) ∈ Gl := tb_in_2 (List.mem_of_getElem? (i := 89) rfl) rfl
set_option maxRecDepth 100000 in
theorem cd_15 : Cond.code yX2_readRows cX2_readRows 5 (some .boolean) ∈ Gl := tb_in_4 (List.mem_of_getElem? (i := 213) rfl) rfl
set_option maxRecDepth 100000 in
theorem cd_16 : Cond.code yX2_findSets cX2_findSets 7 (none) ∈ Gl := tb_in_4 (List.mem_of_getElem? (i := 222) rfl) rfl
set_option maxRecDepth 100000 in
theorem cd_17 : Cond.code yX2_lastSeen cX2_lastSeen 3 (some .int) ∈ Gl := tb_in_4 (List.mem_of_getElem? (i := 226) rfl) rfl
set_option maxRecDepth 100000 in
theorem cd_18 : Cond.code yX2_isAsSeen cX2_isAsSeen 6 (some .boolean) ∈ Gl := tb_in_4 (List.mem_of_getElem? (i := 233) rfl) rfl
set_option maxRecDepth 100000 in
theorem cd_19 : Cond.code yX2_inAll cX2_inAll 3 (some .int) ∈ Gl := tb_in_4 (List.mem_of_getElem? (i := 238) rfl) rfl
set_option maxRecDepth 100000 in
theorem cd_20 : Cond.code yX2_inSome cX2_inSome 3 (some .int) ∈ Gl := tb_in_5 (List.mem_of_getElem? (i := 2) rfl) rfl
set_option maxRecDepth 100000 in
theorem cd_21 : Cond.code yX2_foresee cX2_foresee 6 (none) ∈ Gl := tb_in_5 (List.mem_of_getElem? (i := 10) rfl) rfl
set_option maxRecDepth 100000 in
theorem cd_22 : Cond.code yX2_mostAlike cX2_mostAlike 5 (some .int) ∈ Gl := tb_in_5 (List.mem_of_getElem? (i := 15) rfl) rfl
set_option maxRecDepth 100000 in
theorem cd_23 : Cond.code yX3_init cX3_init 2 (none) ∈ Gl := tb_in_2 (List.mem_of_getElem? (i := 70) rfl) rfl
set_option maxRecDepth 100000 in
theorem cd_24 : Cond.code yX3_keep cX3_keep 2 (none) ∈ Gl := tb_in_4 (List.mem_of_getElem? (i := 161) rfl) rfl
set_option maxRecDepth 100000 in
theorem cd_25 : Cond.code yX3_takeBack cX3_takeBack 2 (some .boolean) ∈ Gl := tb_in_4 (List.mem_of_getElem? (i := 201) rfl) rfl
set_option maxRecDepth 100000 in
theorem cd_26 : Cond.code yX4_init cX4_init 1 (none) ∈ Gl := tb_in_2 (List.mem_of_getElem? (i := 127) rfl) rfl
set_option maxRecDepth 100000 in
theorem cd_27 : Cond.code yX4_write cX4_write 5 (none) ∈ Gl := tb_in_5 (List.mem_of_getElem? (i := 47) rfl) rfl
set_option maxRecDepth 100000 in
theorem cd_28 : Cond.code yX4_put cX4_put 2 (none) ∈ Gl := tb_in_5 (List.mem_of_getElem? (i := 51) rfl) rfl
set_option maxRecDepth 100000 in
theorem cd_29 : Cond.code yX4_check cX4_check 4 (some .int) ∈ Gl := tb_in_5 (List.mem_of_getElem? (i := 54) rfl) rfl
set_option maxRecDepth 100000 in
theorem cd_30 : Cond.code yX4_isOne cX4_isOne 9 (some .boolean) ∈ Gl := tb_in_5 (List.mem_of_getElem? (i := 65) rfl) rfl
set_option maxRecDepth 100000 in
theorem cd_31 : Cond.code yX4_read cX4_read 6 (none) ∈ Gl := tb_in_5 (List.mem_of_getElem? (i := 69) rfl) rfl
set_option maxRecDepth 100000 in
theorem cd_32 : Cond.code yX5_init cX5_init 1 (none) ∈ Gl := tb_in_1 (List.mem_of_getElem? (i := 229) rfl) rfl
set_option maxRecDepth 100000 in
theorem cd_33 : Cond.code yX5_goThrough cX5_goThrough 5 (none) ∈ Gl := tb_in_4 (List.mem_of_getElem? (i := 79) rfl) rfl
set_option maxRecDepth 100000 in
theorem cd_34 : Cond.code yX5_hourComes cX5_hourComes 5 (none) ∈ Gl := tb_in_4 (List.mem_of_getElem? (i := 83) rfl) rfl
set_option maxRecDepth 100000 in
theorem cd_35 : Cond.code yX5_bakeLoaf cX5_bakeLoaf 9 (none) ∈ Gl := tb_in_4 (List.mem_of_getElem? (i := 86) rfl) rfl
set_option maxRecDepth 100000 in
theorem cd_36 : Cond.code yX5_eat cX5_eat 9 (none) ∈ Gl := tb_in_4 (List.mem_of_getElem? (i := 91) rfl) rfl
set_option maxRecDepth 100000 in
theorem cd_37 : Cond.code yX5_sleep cX5_sleep 8 (none) ∈ Gl := tb_in_4 (List.mem_of_getElem? (i := 101) rfl) rfl
set_option maxRecDepth 100000 in
theorem cd_38 : Cond.code yX5_deedsDone cX5_deedsDone 6 (some .int) ∈ Gl := tb_in_3 (List.mem_of_getElem? (i := 230) rfl) rfl
set_option maxRecDepth 100000 in
theorem cd_39 : Cond.code yX5_valueAsked cX5_valueAsked 5 (some .int) ∈ Gl := tb_in_5 (List.mem_of_getElem? (i := 36) rfl) rfl
set_option maxRecDepth 100000 in
theorem cd_40 : Cond.code yX6_init cX6_init 1 (none) ∈ Gl := tb_in_1 (List.mem_of_getElem? (i := 46) rfl) rfl
set_option maxRecDepth 100000 in
theorem cd_41 : Cond.code yX6_start cX6_start 2 (none) ∈ Gl := tb_in_2 (List.mem_of_getElem? (i := 218) rfl) rfl
set_option maxRecDepth 100000 in
theorem cd_42 : Cond.code yX6_next cX6_next 3 (none) ∈ Gl := tb_in_2 (List.mem_of_getElem? (i := 228) rfl) rfl
set_option maxRecDepth 100000 in
theorem cd_43 : Cond.code yX6_letters cX6_letters 3 (some .int) ∈ Gl := tb_in_3 (List.mem_of_getElem? (i := 53) rfl) rfl
set_option maxRecDepth 100000 in
theorem cd_44 : Cond.code yX6_digits cX6_digits 3 (some .int) ∈ Gl := tb_in_3 (List.mem_of_getElem? (i := 57) rfl) rfl
set_option maxRecDepth 100000 in
theorem cd_45 : Cond.code yX6_wordNumber cX6_wordNumber 6 (some .int) ∈ Gl := tb_in_2 (List.mem_of_getElem? (i := 238) rfl) rfl
set_option maxRecDepth 100000 in
theorem cd_46 : Cond.code yX6_isBlank cX6_isBlank 1 (some .boolean) ∈ Gl := tb_in_2 (List.mem_of_getElem? (i := 231) rfl) rfl
set_option maxRecDepth 100000 in
theorem cd_47 : Cond.code yX6_sortOf cX6_sortOf 1 (some .int) ∈ Gl := tb_in_2 (List.mem_of_getElem? (i := 234) rfl) rfl
set_option maxRecDepth 100000 in
theorem cd_48 : Cond.code yX6_size cX6_size 1 (some .int) ∈ Gl := tb_in_3 (List.mem_of_getElem? (i := 80) rfl) rfl
set_option maxRecDepth 100000 in
theorem cd_49 : Cond.code yX6_isWord cX6_isWord 2 (some .boolean) ∈ Gl := tb_in_3 (List.mem_of_getElem? (i := 100) rfl) rfl
set_option maxRecDepth 100000 in
theorem cd_50 : Cond.code yX6_isSign cX6_isSign 2 (some .boolean) ∈ Gl := tb_in_3 (List.mem_of_getElem? (i := 152) rfl) rfl
set_option maxRecDepth 100000 in
theorem cd_51 : Cond.code yX6_wrong cX6_wrong 3 (some .boolean) ∈ Gl := tb_in_3 (List.mem_of_getElem? (i := 61) rfl) rfl
set_option maxRecDepth 100000 in
theorem cd_52 : Cond.code yX6_takeWord cX6_takeWord 2 (some .boolean) ∈ Gl := tb_in_3 (List.mem_of_getElem? (i := 96) rfl) rfl
set_option maxRecDepth 100000 in
theorem cd_53 : Cond.code yX6_takeSign cX6_takeSign 2 (some .boolean) ∈ Gl := tb_in_3 (List.mem_of_getElem? (i := 157) rfl) rfl
set_option maxRecDepth 100000 in
theorem cd_54 : Cond.code yX6_checkNumber cX6_checkNumber 1 (some .boolean) ∈ Gl := tb_in_3 (List.mem_of_getElem? (i := 108) rfl) rfl
set_option maxRecDepth 100000 in
theorem cd_55 : Cond.code yX6_takeNumber cX6_takeNumber 3 (some .int) ∈ Gl := tb_in_3 (List.mem_of_getElem? (i := 104) rfl) rfl
set_option maxRecDepth 100000 in
theorem cd_56 : Cond.code yX6_checkName cX6_checkName 1 (some .boolean) ∈ Gl := tb_in_3 (List.mem_of_getElem? (i := 75) rfl) rfl
set_option maxRecDepth 100000 in
theorem cd_57 : Cond.code yX7_init cX7_init 1 (none) ∈ Gl := tb_in_2 (List.mem_of_getElem? (i := 25) rfl) rfl
set_option maxRecDepth 100000 in
theorem cd_58 : Cond.code yX7_begin cX7_begin 2 (none) ∈ Gl := tb_in_3 (List.mem_of_getElem? (i := 205) rfl) rfl
set_option maxRecDepth 100000 in
theorem cd_59 : Cond.code yX7_takeOver cX7_takeOver 2 (none) ∈ Gl := tb_in_4 (List.mem_of_getElem? (i := 75) rfl) rfl
set_option maxRecDepth 100000 in
theorem cd_60 : Cond.code yX7_isLike cX7_isLike 2 (some .boolean) ∈ Gl := tb_in_4 (List.mem_of_getElem? (i := 122) rfl) rfl
set_option maxRecDepth 100000 in
theorem cd_61 : Cond.code yX7_copy cX7_copy 2 (none) ∈ Gl := tb_in_3 (List.mem_of_getElem? (i := 208) rfl) rfl
set_option maxRecDepth 100000 in
theorem cd_62 : Cond.code yX7_areLike cX7_areLike 3 (some .boolean) ∈ Gl := tb_in_4 (List.mem_of_getElem? (i := 125) rfl) rfl
set_option maxRecDepth 100000 in
theorem cd_63 : Cond.code yX8_init cX8_init 1 (none) ∈ Gl := tb_in_1 (List.mem_of_getElem? (i := 235) rfl) rfl
set_option maxRecDepth 100000 in
theorem cd_64 : Cond.code yX8_value cX8_value 10 (some .int) ∈ Gl := tb_in_3 (List.mem_of_getElem? (i := 234) rfl) rfl
set_option maxRecDepth 100000 in
theorem cd_65 : Cond.code yX8_needed cX8_needed 1 (some .int) ∈ Gl := tb_in_3 (List.mem_of_getElem? (i := 238) rfl) rfl
set_option maxRecDepth 100000 in
theorem cd_66 : Cond.code yX8_joined cX8_joined 3 (some .int) ∈ Gl := tb_in_4 (List.mem_of_getElem? (i := 1) rfl) rfl
set_option maxRecDepth 100000 in
theorem cd_67 : Cond.code yX8_held cX8_held 2 (some .int) ∈ Gl := tb_in_4 (List.mem_of_getElem? (i := 5) rfl) rfl
set_option maxRecDepth 100000 in
theorem cd_68 : Cond.code yX8_askedOf cX8_askedOf 6 (some .int) ∈ Gl := tb_in_4 (List.mem_of_getElem? (i := 20) rfl) rfl
set_option maxRecDepth 100000 in
theorem cd_69 : Cond.code yX8_alone cX8_alone 4 (some .int) ∈ Gl := tb_in_4 (List.mem_of_getElem? (i := 25) rfl) rfl
set_option maxRecDepth 100000 in
theorem cd_70 : Cond.code yX9_init cX9_init 1 (none) ∈ Gl := tb_in_1 (List.mem_of_getElem? (i := 128) rfl) rfl
set_option maxRecDepth 100000 in
theorem cd_71 : Cond.code yX9_clear cX9_clear 1 (none) ∈ Gl := tb_in_1 (List.mem_of_getElem? (i := 137) rfl) rfl
set_option maxRecDepth 100000 in
theorem cd_72 : Cond.code yX9_findBusyClocks cX9_findBusyClocks 2 (none) ∈ Gl := tb_in_3 (List.mem_of_getElem? (i := 201) rfl) rfl
set_option maxRecDepth 100000 in
theorem cd_73 : Cond.code yX9_isTold cX9_isTold 2 (some .boolean) ∈ Gl := tb_in_3 (List.mem_of_getElem? (i := 191) rfl) rfl
set_option maxRecDepth 100000 in
theorem cd_74 : Cond.code yX9_mealsOf cX9_mealsOf 4 (some .int) ∈ Gl := tb_in_4 (List.mem_of_getElem? (i := 59) rfl) rfl
set_option maxRecDepth 100000 in
theorem cd_75 : Cond.code yX9_canKnead cX9_canKnead 2 (some .boolean) ∈ Gl := tb_in_4 (List.mem_of_getElem? (i := 171) rfl) rfl
set_option maxRecDepth 100000 in
theorem cd_76 : Cond.code yX9_isNamed cX9_isNamed 3 (some .boolean) ∈ Gl := tb_in_3 (List.mem_of_getElem? (i := 84) rfl) rfl
set_option maxRecDepth 100000 in
theorem cd_77 : Cond.code yX9_numberOf cX9_numberOf 4 (some .int) ∈ Gl := tb_in_3 (List.mem_of_getElem? (i := 88) rfl) rfl
set_option maxRecDepth 100000 in
theorem cd_78 : Cond.code yX10_init cX10_init 1 (none) ∈ Gl := tb_in_1 (List.mem_of_getElem? (i := 34) rfl) rfl
set_option maxRecDepth 100000 in
theorem cd_79 : Cond.code yX10_readTown cX10_readTown 5 (some .boolean) ∈ Gl := tb_in_2 (List.mem_of_getElem? (i := 213) rfl) rfl
set_option maxRecDepth 100000 in
theorem cd_80 : Cond.code yX10_readMood cX10_readMood 2 (some .boolean) ∈ Gl := tb_in_3 (List.mem_of_getElem? (i := 65) rfl) rfl
set_option maxRecDepth 100000 in
theorem cd_81 : Cond.code yX10_readPerson cX10_readPerson 5 (some .boolean) ∈ Gl := tb_in_3 (List.mem_of_getElem? (i := 92) rfl) rfl
set_option maxRecDepth 100000 in
theorem cd_82 : Cond.code yX10_readLoaf cX10_readLoaf 7 (some .boolean) ∈ Gl := tb_in_3 (List.mem_of_getElem? (i := 112) rfl) rfl
set_option maxRecDepth 100000 in
theorem cd_83 : Cond.code yX10_readMeal cX10_readMeal 6 (some .boolean) ∈ Gl := tb_in_3 (List.mem_of_getElem? (i := 121) rfl) rfl
set_option maxRecDepth 100000 in
theorem cd_84 : Cond.code yX10_readDeed cX10_readDeed 4 (some .boolean) ∈ Gl := tb_in_3 (List.mem_of_getElem? (i := 125) rfl) rfl
set_option maxRecDepth 100000 in
theorem cd_85 : Cond.code yX10_readOnce cX10_readOnce 4 (some .boolean) ∈ Gl := tb_in_3 (List.mem_of_getElem? (i := 187) rfl) rfl
set_option maxRecDepth 100000 in
theorem cd_86 : Cond.code yX10_readSetting cX10_readSetting 4 (some .boolean) ∈ Gl := tb_in_3 (List.mem_of_getElem? (i := 196) rfl) rfl
set_option maxRecDepth 100000 in
theorem cd_87 : Cond.code yX10_readNew cX10_readNew 3 (some .boolean) ∈ Gl := tb_in_3 (List.mem_of_getElem? (i := 69) rfl) rfl
set_option maxRecDepth 100000 in
theorem cd_88 : Cond.code yX10_findNamed cX10_findNamed 4 (some .int) ∈ Gl := tb_in_3 (List.mem_of_getElem? (i := 116) rfl) rfl
set_option maxRecDepth 100000 in
theorem cd_89 : Cond.code yX11_init cX11_init 2 (none) ∈ Gl := tb_in_1 (List.mem_of_getElem? (i := 26) rfl) rfl
set_option maxRecDepth 100000 in
theorem cd_90 : Cond.code yX11_feed cX11_feed 6 (some .int) ∈ Gl := tb_in_2 (List.mem_of_getElem? (i := 193) rfl) rfl
set_option maxRecDepth 100000 in
theorem cd_91 : Cond.code yX11_end cX11_end 2 (some .boolean) ∈ Gl := tb_in_2 (List.mem_of_getElem? (i := 205) rfl) rfl
set_option maxRecDepth 100000 in
theorem cd_92 : Cond.code yX11_town cX11_town 3 (some .int) ∈ Gl := tb_in_2 (List.mem_of_getElem? (i := 209) rfl) rfl
set_option maxRecDepth 100000 in
theorem cd_93 : Cond.code yX11_fault cX11_fault 2 (some .int) ∈ Gl := tb_in_3 (List.mem_of_getElem? (i := 218) rfl) rfl
set_option maxRecDepth 100000 in
theorem cd_94 : Cond.code yX11_has cX11_has 2 (some .int) ∈ Gl := tb_in_3 (List.mem_of_getElem? (i := 222) rfl) rfl
set_option maxRecDepth 100000 in
theorem cd_95 : Cond.code yX11_letter cX11_letter 5 (some .int) ∈ Gl := tb_in_4 (List.mem_of_getElem? (i := 35) rfl) rfl
set_option maxRecDepth 100000 in
theorem cd_96 : Cond.code yX11_feels cX11_feels 4 (some .int) ∈ Gl := tb_in_4 (List.mem_of_getElem? (i := 43) rfl) rfl
set_option maxRecDepth 100000 in
theorem cd_97 : Cond.code yX11_bread cX11_bread 3 (some .int) ∈ Gl := tb_in_4 (List.mem_of_getElem? (i := 51) rfl) rfl
set_option maxRecDepth 100000 in
theorem cd_98 : Cond.code yX11_loaf cX11_loaf 3 (some .int) ∈ Gl := tb_in_4 (List.mem_of_getElem? (i := 55) rfl) rfl
set_option maxRecDepth 100000 in
theorem cd_99 : Cond.code yX11_does cX11_does 3 (some .int) ∈ Gl := tb_in_4 (List.mem_of_getElem? (i := 63) rfl) rfl
set_option maxRecDepth 100000 in
theorem cd_100 : Cond.code yX11_later cX11_later 4 (some .int) ∈ Gl := tb_in_4 (List.mem_of_getElem? (i := 67) rfl) rfl
set_option maxRecDepth 100000 in
theorem cd_101 : Cond.code yX11_first cX11_first 5 (some .int) ∈ Gl := tb_in_4 (List.mem_of_getElem? (i := 105) rfl) rfl
set_option maxRecDepth 100000 in
theorem cd_102 : Cond.code yX11_often cX11_often 6 (some .int) ∈ Gl := tb_in_4 (List.mem_of_getElem? (i := 114) rfl) rfl
set_option maxRecDepth 100000 in
theorem cd_103 : Cond.code yX11_again cX11_again 4 (some .int) ∈ Gl := tb_in_4 (List.mem_of_getElem? (i := 118) rfl) rfl
set_option maxRecDepth 100000 in
theorem cd_104 : Cond.code yX11_hands cX11_hands 13 (some .int) ∈ Gl := tb_in_4 (List.mem_of_getElem? (i := 129) rfl) rfl
set_option maxRecDepth 100000 in
theorem cd_105 : Cond.code yX11_blend cX11_blend 14 (some .int) ∈ Gl := tb_in_4 (List.mem_of_getElem? (i := 139) rfl) rfl
set_option maxRecDepth 100000 in
theorem cd_106 : Cond.code yX11_left cX11_left 11 (some .int) ∈ Gl := tb_in_4 (List.mem_of_getElem? (i := 143) rfl) rfl
set_option maxRecDepth 100000 in
theorem cd_107 : Cond.code yX11_votes cX11_votes 9 (some .int) ∈ Gl := tb_in_4 (List.mem_of_getElem? (i := 149) rfl) rfl
set_option maxRecDepth 100000 in
theorem cd_108 : Cond.code yX11_go cX11_go 2 (some .int) ∈ Gl := tb_in_4 (List.mem_of_getElem? (i := 157) rfl) rfl
set_option maxRecDepth 100000 in
theorem cd_109 : Cond.code yX11_knead cX11_knead 4 (some .int) ∈ Gl := tb_in_4 (List.mem_of_getElem? (i := 167) rfl) rfl
set_option maxRecDepth 100000 in
theorem cd_110 : Cond.code yX11_calm cX11_calm 5 (some .int) ∈ Gl := tb_in_4 (List.mem_of_getElem? (i := 176) rfl) rfl
set_option maxRecDepth 100000 in
theorem cd_111 : Cond.code yX11_days cX11_days 3 (some .int) ∈ Gl := tb_in_4 (List.mem_of_getElem? (i := 180) rfl) rfl
set_option maxRecDepth 100000 in
theorem cd_112 : Cond.code yX11_undo cX11_undo 1 (some .boolean) ∈ Gl := tb_in_4 (List.mem_of_getElem? (i := 197) rfl) rfl
set_option maxRecDepth 100000 in
theorem cd_113 : Cond.code yX11_seed cX11_seed 2 (some .boolean) ∈ Gl := tb_in_4 (List.mem_of_getElem? (i := 205) rfl) rfl
set_option maxRecDepth 100000 in
theorem cd_114 : Cond.code yX11_see cX11_see 2 (some .int) ∈ Gl := tb_in_4 (List.mem_of_getElem? (i := 209) rfl) rfl
set_option maxRecDepth 100000 in
theorem cd_115 : Cond.code yX11_kneaders cX11_kneaders 3 (some .int) ∈ Gl := tb_in_4 (List.mem_of_getElem? (i := 218) rfl) rfl
set_option maxRecDepth 100000 in
theorem cd_116 : Cond.code yX11_look cX11_look 10 (some .int) ∈ Gl := tb_in_5 (List.mem_of_getElem? (i := 6) rfl) rfl
set_option maxRecDepth 100000 in
theorem cd_117 : Cond.code yX11_ask cX11_ask 4 (some .long) ∈ Gl := tb_in_5 (List.mem_of_getElem? (i := 21) rfl) rfl
set_option maxRecDepth 100000 in
theorem cd_118 : Cond.code yX11_image cX11_image 1 (some .int) ∈ Gl := tb_in_5 (List.mem_of_getElem? (i := 43) rfl) rfl
set_option maxRecDepth 100000 in
theorem cd_119 : Cond.code yX11_octet cX11_octet 2 (some .int) ∈ Gl := tb_in_5 (List.mem_of_getElem? (i := 58) rfl) rfl
set_option maxRecDepth 100000 in
theorem cd_120 : Cond.code yX11_on cX11_on 2 (some .boolean) ∈ Gl := tb_in_5 (List.mem_of_getElem? (i := 62) rfl) rfl
set_option maxRecDepth 100000 in
theorem cd_121 : Cond.code yX11_status cX11_status 2 (some .int) ∈ Gl := tb_in_5 (List.mem_of_getElem? (i := 73) rfl) rfl
set_option maxRecDepth 100000 in
theorem cd_122 : Cond.code yX11_refuse cX11_refuse 2 (some .int) ∈ Gl := tb_in_2 (List.mem_of_getElem? (i := 197) rfl) rfl
set_option maxRecDepth 100000 in
theorem cd_123 : Cond.code yX11_putBytes cX11_putBytes 3 (none) ∈ Gl := tb_in_2 (List.mem_of_getElem? (i := 201) rfl) rfl
set_option maxRecDepth 100000 in
theorem cd_124 : Cond.code yX11_isThere cX11_isThere 3 (some .boolean) ∈ Gl := tb_in_4 (List.mem_of_getElem? (i := 39) rfl) rfl
set_option maxRecDepth 100000 in
theorem cd_125 : Cond.code yX11_areThere cX11_areThere 4 (some .boolean) ∈ Gl := tb_in_4 (List.mem_of_getElem? (i := 47) rfl) rfl
set_option maxRecDepth 100000 in
theorem cd_126 : Cond.code yX11_isAhead cX11_isAhead 2 (some .boolean) ∈ Gl := tb_in_4 (List.mem_of_getElem? (i := 71) rfl) rfl
set_option maxRecDepth 100000 in
theorem cd_127 : Cond.code yX11_isFelt cX11_isFelt 1 (some .boolean) ∈ Gl := tb_in_4 (List.mem_of_getElem? (i := 132) rfl) rfl
set_option maxRecDepth 100000 in
theorem cd_128 : Cond.code yX11_asFelt cX11_asFelt 1 (some .int) ∈ Gl := tb_in_4 (List.mem_of_getElem? (i := 95) rfl) rfl
set_option maxRecDepth 100000 in
theorem cd_129 : Cond.code yX11_deedsDoneNow cX11_deedsDoneNow 3 (some .int) ∈ Gl := tb_in_3 (List.mem_of_getElem? (i := 226) rfl) rfl
set_option maxRecDepth 100000 in
theorem cd_130 : Cond.code yX11_lowestOf cX11_lowestOf 2 (some .int) ∈ Gl := tb_in_4 (List.mem_of_getElem? (i := 109) rfl) rfl
set_option maxRecDepth 100000 in
theorem cd_131 : Cond.code yX11_unlikeness cX11_unlikeness 5 (some .int) ∈ Gl := tb_in_4 (List.mem_of_getElem? (i := 153) rfl) rfl
set_option maxRecDepth 100000 in
theorem cd_132 : Cond.code yX11_followWhim cX11_followWhim 7 (none) ∈ Gl := tb_in_4 (List.mem_of_getElem? (i := 184) rfl) rfl
set_option maxRecDepth 100000 in
theorem cd_133 : Cond.code yX11_draw cX11_draw 2 (some .int) ∈ Gl := tb_in_4 (List.mem_of_getElem? (i := 188) rfl) rfl
set_option maxRecDepth 100000 in
theorem cd_134 : Cond.code yX11_answer cX11_answer 7 (some .long) ∈ Gl := tb_in_5 (List.mem_of_getElem? (i := 31) rfl) rfl
set_option maxRecDepth 100000 in
theorem cd_135 : Cond.code yX12_init cX12_init 1 (none) ∈ Gl := tb_in_5 (List.mem_of_getElem? (i := 78) rfl) rfl
set_option maxRecDepth 100000 in
theorem cd_136 : Cond.code yX12_isIn cX12_isIn 6 (some .boolean) ∈ Gl := tb_in_6 (List.mem_of_getElem? (i := 234) rfl) rfl
set_option maxRecDepth 100000 in
theorem cd_137 : Cond.code yX12_feed cX12_feed 8 (some .int) ∈ Gl := tb_in_6 (List.mem_of_getElem? (i := 155) rfl) rfl
set_option maxRecDepth 100000 in
theorem cd_138 : Cond.code yX12_end cX12_end 2 (some .boolean) ∈ Gl := tb_in_6 (List.mem_of_getElem? (i := 159) rfl) rfl
set_option maxRecDepth 100000 in
theorem cd_139 : Cond.code yX12_fail cX12_fail 3 (none) ∈ Gl := tb_in_6 (List.mem_of_getElem? (i := 175) rfl) rfl
set_option maxRecDepth 100000 in
theorem cd_140 : Cond.code yX12_isLetter cX12_isLetter 1 (some .boolean) ∈ Gl := tb_in_6 (List.mem_of_getElem? (i := 186) rfl) rfl
set_option maxRecDepth 100000 in
theorem cd_141 : Cond.code yX12_isDigit cX12_isDigit 1 (some .boolean) ∈ Gl := tb_in_6 (List.mem_of_getElem? (i := 231) rfl) rfl
set_option maxRecDepth 100000 in
theorem cd_142 : Cond.code yX12_peeks cX12_peeks 1 (some .int) ∈ Gl := tb_in_6 (List.mem_of_getElem? (i := 167) rfl) rfl
set_option maxRecDepth 100000 in
theorem cd_143 : Cond.code yX12_isHere cX12_isHere 4 (some .boolean) ∈ Gl := tb_in_6 (List.mem_of_getElem? (i := 183) rfl) rfl
set_option maxRecDepth 100000 in
theorem cd_144 : Cond.code yX12_takes cX12_takes 2 (some .boolean) ∈ Gl := tb_in_6 (List.mem_of_getElem? (i := 179) rfl) rfl
set_option maxRecDepth 100000 in
theorem cd_145 : Cond.code yX12_asks cX12_asks 2 (none) ∈ Gl := tb_in_6 (List.mem_of_getElem? (i := 224) rfl) rfl
set_option maxRecDepth 100000 in
theorem cd_146 : Cond.code yX12_takesSign cX12_takesSign 2 (some .boolean) ∈ Gl := tb_in_7 (List.mem_of_getElem? (i := 65) rfl) rfl
set_option maxRecDepth 100000 in
theorem cd_147 : Cond.code yX12_asksSign cX12_asksSign 2 (none) ∈ Gl := tb_in_7 (List.mem_of_getElem? (i := 61) rfl) rfl
set_option maxRecDepth 100000 in
theorem cd_148 : Cond.code yX12_number cX12_number 5 (some .int) ∈ Gl := tb_in_6 (List.mem_of_getElem? (i := 228) rfl) rfl
set_option maxRecDepth 100000 in
theorem cd_149 : Cond.code yX12_isOwnHere cX12_isOwnHere 2 (some .boolean) ∈ Gl := tb_in_6 (List.mem_of_getElem? (i := 206) rfl) rfl
set_option maxRecDepth 100000 in
theorem cd_150 : Cond.code yX12_name cX12_name 3 (some .long) ∈ Gl := tb_in_6 (List.mem_of_getElem? (i := 202) rfl) rfl
set_option maxRecDepth 100000 in
theorem cd_151 : Cond.code yX12_isAllowed cX12_isAllowed 2 (some .boolean) ∈ Gl := tb_in_7 (List.mem_of_getElem? (i := 57) rfl) rfl
set_option maxRecDepth 100000 in
theorem cd_152 : Cond.code yX12_isFull cX12_isFull 4 (some .boolean) ∈ Gl := tb_in_6 (List.mem_of_getElem? (i := 194) rfl) rfl
set_option maxRecDepth 100000 in
theorem cd_153 : Cond.code yX12_nameOf cX12_nameOf 5 (some .int) ∈ Gl := tb_in_6 (List.mem_of_getElem? (i := 212) rfl) rfl
set_option maxRecDepth 100000 in
theorem cd_154 : Cond.code yX12_newName cX12_newName 4 (some .long) ∈ Gl := tb_in_6 (List.mem_of_getElem? (i := 198) rfl) rfl
set_option maxRecDepth 100000 in
theorem cd_155 : Cond.code yX12_oneOf cX12_oneOf 5 (some .int) ∈ Gl := tb_in_7 (List.mem_of_getElem? (i := 9) rfl) rfl
set_option maxRecDepth 100000 in
theorem cd_156 : Cond.code yX12_isNamed cX12_isNamed 4 (none) ∈ Gl := tb_in_6 (List.mem_of_getElem? (i := 216) rfl) rfl
set_option maxRecDepth 100000 in
theorem cd_157 : Cond.code yX12_moodTold cX12_moodTold 2 (none) ∈ Gl := tb_in_6 (List.mem_of_getElem? (i := 190) rfl) rfl
set_option maxRecDepth 100000 in
theorem cd_158 : Cond.code yX12_personTold cX12_personTold 5 (none) ∈ Gl := tb_in_6 (List.mem_of_getElem? (i := 220) rfl) rfl
set_option maxRecDepth 100000 in
theorem cd_159 : Cond.code yX12_kneaderTold cX12_kneaderTold 3 (none) ∈ Gl := tb_in_7 (List.mem_of_getElem? (i := 2) rfl) rfl
set_option maxRecDepth 100000 in
theorem cd_160 : Cond.code yX12_loafTold cX12_loafTold 5 (none) ∈ Gl := tb_in_6 (List.mem_of_getElem? (i := 238) rfl) rfl
set_option maxRecDepth 100000 in
theorem cd_161 : Cond.code yX12_mealTold cX12_mealTold 6 (none) ∈ Gl := tb_in_7 (List.mem_of_getElem? (i := 13) rfl) rfl
set_option maxRecDepth 100000 in
theorem cd_162 : Cond.code yX12_keepsCodes cX12_keepsCodes 3 (none) ∈ Gl := tb_in_7 (List.mem_of_getElem? (i := 112) rfl) rfl
set_option maxRecDepth 100000 in
theorem cd_163 : Cond.code yX12_begins cX12_begins 2 (none) ∈ Gl := tb_in_7 (List.mem_of_getElem? (i := 21) rfl) rfl
set_option maxRecDepth 100000 in
theorem cd_164 : Cond.code yX12_sumIsTold cX12_sumIsTold 3 (none) ∈ Gl := tb_in_7 (List.mem_of_getElem? (i := 116) rfl) rfl
set_option maxRecDepth 100000 in
theorem cd_165 : Cond.code yX12_deedTold cX12_deedTold 4 (none) ∈ Gl := tb_in_7 (List.mem_of_getElem? (i := 17) rfl) rfl
set_option maxRecDepth 100000 in
theorem cd_166 : Cond.code yX12_statementTold cX12_statementTold 2 (none) ∈ Gl := tb_in_6 (List.mem_of_getElem? (i := 171) rfl) rfl
set_option maxRecDepth 100000 in
theorem cd_167 : Cond.code yX12_town cX12_town 2 (some .int) ∈ Gl := tb_in_6 (List.mem_of_getElem? (i := 163) rfl) rfl
set_option maxRecDepth 100000 in
theorem cd_168 : Cond.code yX12_stands cX12_stands 3 (none) ∈ Gl := tb_in_7 (List.mem_of_getElem? (i := 120) rfl) rfl
set_option maxRecDepth 100000 in
theorem cd_169 : Cond.code yX12_fault cX12_fault 2 (some .int) ∈ Gl := tb_in_7 (List.mem_of_getElem? (i := 124) rfl) rfl
set_option maxRecDepth 100000 in
theorem cd_170 : Cond.code yX12_hourNow cX12_hourNow 1 (some .int) ∈ Gl := tb_in_7 (List.mem_of_getElem? (i := 148) rfl) rfl
set_option maxRecDepth 100000 in
theorem cd_171 : Cond.code yX12_moodMany cX12_moodMany 1 (some .int) ∈ Gl := tb_in_7 (List.mem_of_getElem? (i := 132) rfl) rfl
set_option maxRecDepth 100000 in
theorem cd_172 : Cond.code yX12_peopleMany cX12_peopleMany 1 (some .int) ∈ Gl := tb_in_7 (List.mem_of_getElem? (i := 136) rfl) rfl
set_option maxRecDepth 100000 in
theorem cd_173 : Cond.code yX12_loafMany cX12_loafMany 1 (some .int) ∈ Gl := tb_in_7 (List.mem_of_getElem? (i := 140) rfl) rfl
set_option maxRecDepth 100000 in
theorem cd_174 : Cond.code yX12_deedMany cX12_deedMany 1 (some .int) ∈ Gl := tb_in_7 (List.mem_of_getElem? (i := 144) rfl) rfl
set_option maxRecDepth 100000 in
theorem cd_175 : Cond.code yX12_isMood cX12_isMood 2 (some .boolean) ∈ Gl := tb_in_7 (List.mem_of_getElem? (i := 214) rfl) rfl
set_option maxRecDepth 100000 in
theorem cd_176 : Cond.code yX12_isPerson cX12_isPerson 2 (some .boolean) ∈ Gl := tb_in_7 (List.mem_of_getElem? (i := 210) rfl) rfl
set_option maxRecDepth 100000 in
theorem cd_177 : Cond.code yX12_isLoaf cX12_isLoaf 2 (some .boolean) ∈ Gl := tb_in_7 (List.mem_of_getElem? (i := 222) rfl) rfl
set_option maxRecDepth 100000 in
theorem cd_178 : Cond.code yX12_isDeed cX12_isDeed 2 (some .boolean) ∈ Gl := tb_in_8 (List.mem_of_getElem? (i := 10) rfl) rfl
set_option maxRecDepth 100000 in
theorem cd_179 : Cond.code yX12_natureOf cX12_natureOf 3 (some .int) ∈ Gl := tb_in_7 (List.mem_of_getElem? (i := 180) rfl) rfl
set_option maxRecDepth 100000 in
theorem cd_180 : Cond.code yX12_nowOf cX12_nowOf 3 (some .int) ∈ Gl := tb_in_7 (List.mem_of_getElem? (i := 176) rfl) rfl
set_option maxRecDepth 100000 in
theorem cd_181 : Cond.code yX12_whoKnead cX12_whoKnead 2 (some .int) ∈ Gl := tb_in_7 (List.mem_of_getElem? (i := 238) rfl) rfl
set_option maxRecDepth 100000 in
theorem cd_182 : Cond.code yX12_loafIs cX12_loafIs 3 (some .int) ∈ Gl := tb_in_7 (List.mem_of_getElem? (i := 226) rfl) rfl
set_option maxRecDepth 100000 in
theorem cd_183 : Cond.code yX12_leavenOf cX12_leavenOf 2 (some .int) ∈ Gl := tb_in_7 (List.mem_of_getElem? (i := 234) rfl) rfl
set_option maxRecDepth 100000 in
theorem cd_184 : Cond.code yX12_putsAside cX12_putsAside 2 (none) ∈ Gl := tb_in_8 (List.mem_of_getElem? (i := 23) rfl) rfl
set_option maxRecDepth 100000 in
theorem cd_185 : Cond.code yX12_takesBack cX12_takesBack 2 (none) ∈ Gl := tb_in_8 (List.mem_of_getElem? (i := 52) rfl) rfl
set_option maxRecDepth 100000 in
theorem cd_186 : Cond.code yX12_bits cX12_bits 3 (some .int) ∈ Gl := tb_in_7 (List.mem_of_getElem? (i := 5) rfl) rfl
set_option maxRecDepth 100000 in
theorem cd_187 : Cond.code yX12_codesTell cX12_codesTell 4 (some .long) ∈ Gl := tb_in_7 (List.mem_of_getElem? (i := 164) rfl) rfl
set_option maxRecDepth 100000 in
theorem cd_188 : Cond.code yX12_made cX12_made 8 (some .int) ∈ Gl := tb_in_8 (List.mem_of_getElem? (i := 43) rfl) rfl
set_option maxRecDepth 100000 in
theorem cd_189 : Cond.code yX12_isDone cX12_isDone 3 (some .boolean) ∈ Gl := tb_in_7 (List.mem_of_getElem? (i := 160) rfl) rfl
set_option maxRecDepth 100000 in
theorem cd_190 : Cond.code yX12_doneBy cX12_doneBy 4 (some .int) ∈ Gl := tb_in_7 (List.mem_of_getElem? (i := 156) rfl) rfl
set_option maxRecDepth 100000 in
theorem cd_191 : Cond.code yX12_bakes cX12_bakes 7 (none) ∈ Gl := tb_in_8 (List.mem_of_getElem? (i := 35) rfl) rfl
set_option maxRecDepth 100000 in
theorem cd_192 : Cond.code yX12_eats cX12_eats 4 (none) ∈ Gl := tb_in_8 (List.mem_of_getElem? (i := 39) rfl) rfl
set_option maxRecDepth 100000 in
theorem cd_193 : Cond.code yX12_sleeps cX12_sleeps 3 (none) ∈ Gl := tb_in_8 (List.mem_of_getElem? (i := 48) rfl) rfl
set_option maxRecDepth 100000 in
theorem cd_194 : Cond.code yX12_hourComes cX12_hourComes 3 (none) ∈ Gl := tb_in_8 (List.mem_of_getElem? (i := 31) rfl) rfl
set_option maxRecDepth 100000 in
theorem cd_195 : Cond.code yX12_hoursCome cX12_hoursCome 3 (none) ∈ Gl := tb_in_8 (List.mem_of_getElem? (i := 27) rfl) rfl
set_option maxRecDepth 100000 in
theorem cd_196 : Cond.code yX12_deedsNow cX12_deedsNow 3 (some .int) ∈ Gl := tb_in_7 (List.mem_of_getElem? (i := 152) rfl) rfl
set_option maxRecDepth 100000 in
theorem cd_197 : Cond.code yX12_has cX12_has 2 (some .int) ∈ Gl := tb_in_7 (List.mem_of_getElem? (i := 128) rfl) rfl
set_option maxRecDepth 100000 in
theorem cd_198 : Cond.code yX12_letter cX12_letter 9 (some .int) ∈ Gl := tb_in_7 (List.mem_of_getElem? (i := 200) rfl) rfl
set_option maxRecDepth 100000 in
theorem cd_199 : Cond.code yX12_feels cX12_feels 4 (some .int) ∈ Gl := tb_in_7 (List.mem_of_getElem? (i := 206) rfl) rfl
set_option maxRecDepth 100000 in
theorem cd_200 : Cond.code yX12_bread cX12_bread 3 (some .int) ∈ Gl := tb_in_7 (List.mem_of_getElem? (i := 218) rfl) rfl
set_option maxRecDepth 100000 in
theorem cd_201 : Cond.code yX12_mealsOf cX12_mealsOf 4 (some .int) ∈ Gl := tb_in_8 (List.mem_of_getElem? (i := 2) rfl) rfl
set_option maxRecDepth 100000 in
theorem cd_202 : Cond.code yX12_loaf cX12_loaf 3 (some .int) ∈ Gl := tb_in_7 (List.mem_of_getElem? (i := 230) rfl) rfl
set_option maxRecDepth 100000 in
theorem cd_203 : Cond.code yX12_does cX12_does 3 (some .int) ∈ Gl := tb_in_8 (List.mem_of_getElem? (i := 6) rfl) rfl
set_option maxRecDepth 100000 in
theorem cd_204 : Cond.code yX12_isAhead cX12_isAhead 2 (some .boolean) ∈ Gl := tb_in_8 (List.mem_of_getElem? (i := 18) rfl) rfl
set_option maxRecDepth 100000 in
theorem cd_205 : Cond.code yX12_later cX12_later 5 (some .int) ∈ Gl := tb_in_8 (List.mem_of_getElem? (i := 14) rfl) rfl
set_option maxRecDepth 100000 in
theorem cd_206 : Cond.code yX12_firstDoer cX12_firstDoer 3 (some .int) ∈ Gl := tb_in_8 (List.mem_of_getElem? (i := 61) rfl) rfl
set_option maxRecDepth 100000 in
theorem cd_207 : Cond.code yX12_first cX12_first 4 (some .int) ∈ Gl := tb_in_8 (List.mem_of_getElem? (i := 56) rfl) rfl
set_option maxRecDepth 100000 in
theorem cd_208 : Cond.code yX12_often cX12_often 6 (some .int) ∈ Gl := tb_in_8 (List.mem_of_getElem? (i := 65) rfl) rfl
set_option maxRecDepth 100000 in
theorem cd_209 : Cond.code yX12_areAlike cX12_areAlike 4 (some .boolean) ∈ Gl := tb_in_8 (List.mem_of_getElem? (i := 73) rfl) rfl
set_option maxRecDepth 100000 in
theorem cd_210 : Cond.code yX12_again cX12_again 6 (some .int) ∈ Gl := tb_in_8 (List.mem_of_getElem? (i := 69) rfl) rfl
set_option maxRecDepth 100000 in
theorem cd_211 : Cond.code yX12_isHands cX12_isHands 2 (some .boolean) ∈ Gl := tb_in_8 (List.mem_of_getElem? (i := 81) rfl) rfl
set_option maxRecDepth 100000 in
theorem cd_212 : Cond.code yX12_size cX12_size 1 (some .int) ∈ Gl := tb_in_8 (List.mem_of_getElem? (i := 88) rfl) rfl
set_option maxRecDepth 100000 in
theorem cd_213 : Cond.code yX12_least cX12_least 2 (some .int) ∈ Gl := tb_in_8 (List.mem_of_getElem? (i := 156) rfl) rfl
set_option maxRecDepth 100000 in
theorem cd_214 : Cond.code yX12_laterBy cX12_laterBy 7 (some .int) ∈ Gl := tb_in_8 (List.mem_of_getElem? (i := 85) rfl) rfl
set_option maxRecDepth 100000 in
theorem cd_215 : Cond.code yX12_hands cX12_hands 12 (some .int) ∈ Gl := tb_in_8 (List.mem_of_getElem? (i := 77) rfl) rfl
set_option maxRecDepth 100000 in
theorem cd_216 : Cond.code yX12_blend cX12_blend 14 (some .int) ∈ Gl := tb_in_8 (List.mem_of_getElem? (i := 92) rfl) rfl
set_option maxRecDepth 100000 in
theorem cd_217 : Cond.code yX12_left cX12_left 9 (some .int) ∈ Gl := tb_in_8 (List.mem_of_getElem? (i := 96) rfl) rfl
set_option maxRecDepth 100000 in
theorem cd_218 : Cond.code yX12_farFrom cX12_farFrom 5 (some .int) ∈ Gl := tb_in_8 (List.mem_of_getElem? (i := 107) rfl) rfl
set_option maxRecDepth 100000 in
theorem cd_219 : Cond.code yX12_votes cX12_votes 7 (some .int) ∈ Gl := tb_in_8 (List.mem_of_getElem? (i := 103) rfl) rfl
set_option maxRecDepth 100000 in
theorem cd_220 : Cond.code yX12_keeps cX12_keeps 2 (none) ∈ Gl := tb_in_8 (List.mem_of_getElem? (i := 124) rfl) rfl
set_option maxRecDepth 100000 in
theorem cd_221 : Cond.code yX12_undo cX12_undo 2 (some .boolean) ∈ Gl := tb_in_8 (List.mem_of_getElem? (i := 111) rfl) rfl
set_option maxRecDepth 100000 in
theorem cd_222 : Cond.code yX12_refuses cX12_refuses 1 (some .int) ∈ Gl := tb_in_8 (List.mem_of_getElem? (i := 120) rfl) rfl
set_option maxRecDepth 100000 in
theorem cd_223 : Cond.code yX12_go cX12_go 2 (some .int) ∈ Gl := tb_in_8 (List.mem_of_getElem? (i := 115) rfl) rfl
set_option maxRecDepth 100000 in
theorem cd_224 : Cond.code yX12_knead cX12_knead 4 (some .int) ∈ Gl := tb_in_8 (List.mem_of_getElem? (i := 128) rfl) rfl
set_option maxRecDepth 100000 in
theorem cd_225 : Cond.code yX12_calm cX12_calm 5 (some .int) ∈ Gl := tb_in_8 (List.mem_of_getElem? (i := 132) rfl) rfl
set_option maxRecDepth 100000 in
theorem cd_226 : Cond.code yX12_seed cX12_seed 2 (some .boolean) ∈ Gl := tb_in_8 (List.mem_of_getElem? (i := 136) rfl) rfl
set_option maxRecDepth 100000 in
theorem cd_227 : Cond.code yX12_drawOf cX12_drawOf 2 (some .int) ∈ Gl := tb_in_8 (List.mem_of_getElem? (i := 149) rfl) rfl
set_option maxRecDepth 100000 in
theorem cd_228 : Cond.code yX12_whim cX12_whim 4 (none) ∈ Gl := tb_in_8 (List.mem_of_getElem? (i := 145) rfl) rfl
set_option maxRecDepth 100000 in
theorem cd_229 : Cond.code yX12_days cX12_days 3 (some .int) ∈ Gl := tb_in_8 (List.mem_of_getElem? (i := 140) rfl) rfl
set_option maxRecDepth 100000 in
theorem cd_230 : Cond.code yX12_see cX12_see 4 (some .int) ∈ Gl := tb_in_8 (List.mem_of_getElem? (i := 160) rfl) rfl
set_option maxRecDepth 100000 in
theorem cd_231 : Cond.code yX12_isSeenAt cX12_isSeenAt 3 (some .boolean) ∈ Gl := tb_in_8 (List.mem_of_getElem? (i := 176) rfl) rfl
set_option maxRecDepth 100000 in
theorem cd_232 : Cond.code yX12_lastSeen cX12_lastSeen 3 (some .int) ∈ Gl := tb_in_8 (List.mem_of_getElem? (i := 172) rfl) rfl
set_option maxRecDepth 100000 in
theorem cd_233 : Cond.code yX12_isKneader cX12_isKneader 5 (some .boolean) ∈ Gl := tb_in_8 (List.mem_of_getElem? (i := 168) rfl) rfl
set_option maxRecDepth 100000 in
theorem cd_234 : Cond.code yX12_kneaders cX12_kneaders 8 (some .int) ∈ Gl := tb_in_8 (List.mem_of_getElem? (i := 164) rfl) rfl
set_option maxRecDepth 100000 in
theorem cd_235 : Cond.code yX12_crowd cX12_crowd 5 (some .int) ∈ Gl := tb_in_8 (List.mem_of_getElem? (i := 188) rfl) rfl
set_option maxRecDepth 100000 in
theorem cd_236 : Cond.code yX12_notes cX12_notes 6 (none) ∈ Gl := tb_in_8 (List.mem_of_getElem? (i := 184) rfl) rfl
set_option maxRecDepth 100000 in
theorem cd_237 : Cond.code yX12_look cX12_look 7 (some .int) ∈ Gl := tb_in_8 (List.mem_of_getElem? (i := 180) rfl) rfl
set_option maxRecDepth 100000 in
theorem cd_238 : Cond.code yX12_qCode cX12_qCode 2 (none) ∈ Gl := tb_in_7 (List.mem_of_getElem? (i := 37) rfl) rfl
set_option maxRecDepth 100000 in
theorem cd_239 : Cond.code yX12_qOpens cX12_qOpens 3 (none) ∈ Gl := tb_in_7 (List.mem_of_getElem? (i := 29) rfl) rfl
set_option maxRecDepth 100000 in
theorem cd_240 : Cond.code yX12_qIsOn cX12_qIsOn 2 (some .boolean) ∈ Gl := tb_in_7 (List.mem_of_getElem? (i := 96) rfl) rfl
set_option maxRecDepth 100000 in
theorem cd_241 : Cond.code yX12_qDrops cX12_qDrops 1 (none) ∈ Gl := tb_in_7 (List.mem_of_getElem? (i := 77) rfl) rfl
set_option maxRecDepth 100000 in
theorem cd_242 : Cond.code yX12_qIsBracket cX12_qIsBracket 1 (some .boolean) ∈ Gl := tb_in_7 (List.mem_of_getElem? (i := 88) rfl) rfl
set_option maxRecDepth 100000 in
theorem cd_243 : Cond.code yX12_qBracket cX12_qBracket 2 (some .int) ∈ Gl := tb_in_7 (List.mem_of_getElem? (i := 85) rfl) rfl
set_option maxRecDepth 100000 in
theorem cd_244 : Cond.code yX12_qDropsToBracket cX12_qDropsToBracket 1 (none) ∈ Gl := tb_in_7 (List.mem_of_getElem? (i := 92) rfl) rfl
set_option maxRecDepth 100000 in
theorem cd_245 : Cond.code yX12_qWordHere cX12_qWordHere 1 (some .int) ∈ Gl := tb_in_7 (List.mem_of_getElem? (i := 53) rfl) rfl
set_option maxRecDepth 100000 in
theorem cd_246 : Cond.code yX12_qWordOf cX12_qWordOf 4 (some .int) ∈ Gl := tb_in_7 (List.mem_of_getElem? (i := 49) rfl) rfl
set_option maxRecDepth 100000 in
theorem cd_247 : Cond.code yX12_qAsksWord cX12_qAsksWord 2 (none) ∈ Gl := tb_in_7 (List.mem_of_getElem? (i := 69) rfl) rfl
set_option maxRecDepth 100000 in
theorem cd_248 : Cond.code yX12_qEndsPart cX12_qEndsPart 1 (none) ∈ Gl := tb_in_7 (List.mem_of_getElem? (i := 73) rfl) rfl
set_option maxRecDepth 100000 in
theorem cd_249 : Cond.code yX12_qPartTold cX12_qPartTold 6 (none) ∈ Gl := tb_in_7 (List.mem_of_getElem? (i := 45) rfl) rfl
set_option maxRecDepth 100000 in
theorem cd_250 : Cond.code yX12_qGoesOn cX12_qGoesOn 2 (some .boolean) ∈ Gl := tb_in_7 (List.mem_of_getElem? (i := 81) rfl) rfl
set_option maxRecDepth 100000 in
theorem cd_251 : Cond.code yX12_qSums cX12_qSums 3 (none) ∈ Gl := tb_in_7 (List.mem_of_getElem? (i := 41) rfl) rfl
set_option maxRecDepth 100000 in
theorem cd_252 : Cond.code yX12_qFact cX12_qFact 2 (none) ∈ Gl := tb_in_7 (List.mem_of_getElem? (i := 33) rfl) rfl
set_option maxRecDepth 100000 in
theorem cd_253 : Cond.code yX12_qHasSquare cX12_qHasSquare 2 (some .boolean) ∈ Gl := tb_in_7 (List.mem_of_getElem? (i := 108) rfl) rfl
set_option maxRecDepth 100000 in
theorem cd_254 : Cond.code yX12_qDropsNots cX12_qDropsNots 1 (none) ∈ Gl := tb_in_7 (List.mem_of_getElem? (i := 100) rfl) rfl
set_option maxRecDepth 100000 in
theorem cd_255 : Cond.code yX12_qTest cX12_qTest 3 (none) ∈ Gl := tb_in_7 (List.mem_of_getElem? (i := 25) rfl) rfl
set_option maxRecDepth 100000 in
theorem cd_256 : Cond.code yX12_qGoesOnTest cX12_qGoesOnTest 1 (some .boolean) ∈ Gl := tb_in_7 (List.mem_of_getElem? (i := 104) rfl) rfl
set_option maxRecDepth 100000 in
theorem cd_257 : Cond.code yX12_qClip cX12_qClip 2 (some .long) ∈ Gl := tb_in_7 (List.mem_of_getElem? (i := 191) rfl) rfl
set_option maxRecDepth 100000 in
theorem cd_258 : Cond.code yX12_qFloor cX12_qFloor 6 (some .long) ∈ Gl := tb_in_7 (List.mem_of_getElem? (i := 196) rfl) rfl
set_option maxRecDepth 100000 in
theorem cd_259 : Cond.code yX12_qPuts cX12_qPuts 3 (none) ∈ Gl := tb_in_7 (List.mem_of_getElem? (i := 168) rfl) rfl
set_option maxRecDepth 100000 in
theorem cd_260 : Cond.code yX12_qJoins cX12_qJoins 6 (none) ∈ Gl := tb_in_7 (List.mem_of_getElem? (i := 188) rfl) rfl
set_option maxRecDepth 100000 in
theorem cd_261 : Cond.code yX12_qPartOf cX12_qPartOf 3 (some .long) ∈ Gl := tb_in_7 (List.mem_of_getElem? (i := 184) rfl) rfl
set_option maxRecDepth 100000 in
theorem cd_262 : Cond.code yX12_qOf cX12_qOf 5 (some .long) ∈ Gl := tb_in_7 (List.mem_of_getElem? (i := 172) rfl) rfl
set_option maxRecDepth 100000 in
theorem cd_263 : Cond.code yX12_qTold cX12_qTold 4 (some .long) ∈ Gl := tb_in_8 (List.mem_of_getElem? (i := 202) rfl) rfl
set_option maxRecDepth 100000 in
theorem cd_264 : Cond.code yX12_qKind cX12_qKind 2 (some .int) ∈ Gl := tb_in_8 (List.mem_of_getElem? (i := 197) rfl) rfl
set_option maxRecDepth 100000 in
theorem cd_265 : Cond.code yX12_qTakes cX12_qTakes 6 (none) ∈ Gl := tb_in_8 (List.mem_of_getElem? (i := 206) rfl) rfl
set_option maxRecDepth 100000 in
theorem cd_266 : Cond.code yX12_ask cX12_ask 4 (some .long) ∈ Gl := tb_in_8 (List.mem_of_getElem? (i := 192) rfl) rfl
set_option maxRecDepth 100000 in
theorem cd_267 : Cond.code yX12_checked cX12_checked 4 (some .int) ∈ Gl := tb_in_8 (List.mem_of_getElem? (i := 217) rfl) rfl
set_option maxRecDepth 100000 in
theorem cd_268 : Cond.code yX12_writes cX12_writes 2 (none) ∈ Gl := tb_in_8 (List.mem_of_getElem? (i := 214) rfl) rfl
set_option maxRecDepth 100000 in
theorem cd_269 : Cond.code yX12_image cX12_image 3 (some .int) ∈ Gl := tb_in_8 (List.mem_of_getElem? (i := 210) rfl) rfl
set_option maxRecDepth 100000 in
theorem cd_270 : Cond.code yX12_octet cX12_octet 2 (some .int) ∈ Gl := tb_in_8 (List.mem_of_getElem? (i := 221) rfl) rfl
set_option maxRecDepth 100000 in
theorem cd_271 : Cond.code yX12_loavesFrom cX12_loavesFrom 1 (some .int) ∈ Gl := tb_in_8 (List.mem_of_getElem? (i := 233) rfl) rfl
set_option maxRecDepth 100000 in
theorem cd_272 : Cond.code yX12_isTold cX12_isTold 6 (some .boolean) ∈ Gl := tb_in_8 (List.mem_of_getElem? (i := 229) rfl) rfl
set_option maxRecDepth 100000 in
theorem cd_273 : Cond.code yX12_on cX12_on 5 (some .boolean) ∈ Gl := tb_in_8 (List.mem_of_getElem? (i := 225) rfl) rfl
set_option maxRecDepth 100000 in
theorem cd_274 : Cond.code yX12_status cX12_status 2 (some .int) ∈ Gl := tb_in_8 (List.mem_of_getElem? (i := 237) rfl) rfl
set_option maxRecDepth 100000 in
theorem cd_275 : Cond.code yJ6_bitCount_0f7a4 cJ6_bitCount_0f7a4 1 (some .int) ∈ Gl := tb_in_4 (List.mem_of_getElem? (i := 28) rfl) rfl
set_option maxRecDepth 100000 in
theorem cd_276 : Cond.code yJ9_floorDiv_7cf53 cJ9_floorDiv_7cf53 3 (some .int) ∈ Gl := tb_in_4 (List.mem_of_getElem? (i := 16) rfl) rfl
set_option maxRecDepth 100000 in
theorem cd_277 : Cond.code yJ9_abs_0f7a4 cJ9_abs_0f7a4 1 (some .int) ∈ Gl := tb_in_4 (List.mem_of_getElem? (i := 135) rfl) rfl
set_option maxRecDepth 100000 in
theorem cd_278 : Cond.code yJ9_max_7cf53 cJ9_max_7cf53 2 (some .int) ∈ Gl := tb_in_2 (List.mem_of_getElem? (i := 224) rfl) rfl
set_option maxRecDepth 100000 in
theorem cd_279 : Cond.code yJ9_max_f86c9 cJ9_max_f86c9 4 (some .long) ∈ Gl := tb_in_4 (List.mem_of_getElem? (i := 13) rfl) rfl
set_option maxRecDepth 100000 in
theorem cd_280 : Cond.code yJ9_min_7cf53 cJ9_min_7cf53 2 (some .int) ∈ Gl := tb_in_2 (List.mem_of_getElem? (i := 221) rfl) rfl
set_option maxRecDepth 100000 in
theorem cd_281 : Cond.code yJ9_min_f86c9 cJ9_min_f86c9 4 (some .long) ∈ Gl := tb_in_4 (List.mem_of_getElem? (i := 10) rfl) rfl
set_option maxRecDepth 100000 in
theorem cd_282 : Cond.code yJ0_length_8abf5 cJ0_length_8abf5 1 (some .int) ∈ Gl := tb_in_3 (List.mem_of_getElem? (i := 5) rfl) rfl
set_option maxRecDepth 100000 in
theorem cd_283 : Cond.code yJ0_charAt_5068e cJ0_charAt_5068e 2 (some .char) ∈ Gl := tb_in_3 (List.mem_of_getElem? (i := 15) rfl) rfl
set_option maxRecDepth 100000 in
theorem cd_284 : Cond.code yJ0_coder_7d493 cJ0_coder_7d493 1 (some .byte) ∈ Gl := tb_in_3 (List.mem_of_getElem? (i := 9) rfl) rfl
set_option maxRecDepth 100000 in
theorem cd_285 : Cond.code yJ0_isLatin1_aae02 cJ0_isLatin1_aae02 1 (some .boolean) ∈ Gl := tb_in_3 (List.mem_of_getElem? (i := 19) rfl) rfl
set_option maxRecDepth 100000 in
theorem cd_286 : Cond.code yJ1_charAt_3b067 cJ1_charAt_3b067 2 (some .char) ∈ Gl := tb_in_3 (List.mem_of_getElem? (i := 22) rfl) rfl
set_option maxRecDepth 100000 in
theorem cd_287 : Cond.code yJ7_fill_53178 cJ7_fill_53178 4 (none) ∈ Gl := tb_in_1 (List.mem_of_getElem? (i := 140) rfl) rfl
set_option maxRecDepth 100000 in
theorem cd_288 : Cond.code yJ0_checkIndex_df160 cJ0_checkIndex_df160 2 (none) ∈ Gl := tb_in_3 (List.mem_of_getElem? (i := 25) rfl) rfl
set_option maxRecDepth 100000 in
theorem cd_289 : Cond.code yJ3_checkIndex_8e157 cJ3_checkIndex_8e157 3 (some .int) ∈ Gl := tb_in_3 (List.mem_of_getElem? (i := 30) rfl) rfl
set_option maxRecDepth 100000 in
theorem cds_0 : ∀ e ∈ MT_0, Cond.code e.1 e.2.2.1 e.2.2.2.1 e.2.2.2.2.1 ∈ Gl := List.forall_mem_cons.mpr ⟨cd_0, List.forall_mem_cons.mpr ⟨cd_1, List.forall_mem_cons.mpr ⟨cd_2, List.forall_mem_cons.mpr ⟨cd_3, List.forall_mem_cons.mpr ⟨cd_4, List.forall_mem_cons.mpr ⟨cd_5, List.forall_mem_cons.mpr ⟨cd_6, List.forall_mem_cons.mpr ⟨cd_7, List.forall_mem_cons.mpr ⟨cd_8, List.forall_mem_cons.mpr ⟨cd_9, List.forall_mem_cons.mpr ⟨cd_10, List.forall_mem_cons.mpr ⟨cd_11, List.forall_mem_cons.mpr ⟨cd_12, List.forall_mem_cons.mpr ⟨cd_13, List.forall_mem_cons.mpr ⟨cd_14, List.forall_mem_cons.mpr ⟨cd_15, List.forall_mem_cons.mpr ⟨cd_16, List.forall_mem_cons.mpr ⟨cd_17, List.forall_mem_cons.mpr ⟨cd_18, List.forall_mem_cons.mpr ⟨cd_19, List.forall_mem_cons.mpr ⟨cd_20, List.forall_mem_cons.mpr ⟨cd_21, List.forall_mem_cons.mpr ⟨cd_22, List.forall_mem_cons.mpr ⟨cd_23, List.forall_mem_cons.mpr ⟨cd_24, List.forall_mem_cons.mpr ⟨cd_25, List.forall_mem_cons.mpr ⟨cd_26, List.forall_mem_cons.mpr ⟨cd_27, List.forall_mem_cons.mpr ⟨cd_28, List.forall_mem_cons.mpr ⟨cd_29, fun _ h => absurd h List.not_mem_nil⟩⟩⟩⟩⟩⟩⟩⟩⟩⟩⟩⟩⟩⟩⟩⟩⟩⟩⟩⟩⟩⟩⟩⟩⟩⟩⟩⟩⟩⟩
set_option maxRecDepth 100000 in
theorem cds_1 : ∀ e ∈ MT_1, Cond.code e.1 e.2.2.1 e.2.2.2.1 e.2.2.2.2.1 ∈ Gl := List.forall_mem_cons.mpr ⟨cd_30, List.forall_mem_cons.mpr ⟨cd_31, List.forall_mem_cons.mpr ⟨cd_32, List.forall_mem_cons.mpr ⟨cd_33, List.forall_mem_cons.mpr ⟨cd_34, List.forall_mem_cons.mpr ⟨cd_35, List.forall_mem_cons.mpr ⟨cd_36, List.forall_mem_cons.mpr ⟨cd_37, List.forall_mem_cons.mpr ⟨cd_38, List.forall_mem_cons.mpr ⟨cd_39, List.forall_mem_cons.mpr ⟨cd_40, List.forall_mem_cons.mpr ⟨cd_41, List.forall_mem_cons.mpr ⟨cd_42, List.forall_mem_cons.mpr ⟨cd_43, List.forall_mem_cons.mpr ⟨cd_44, List.forall_mem_cons.mpr ⟨cd_45, List.forall_mem_cons.mpr ⟨cd_46, List.forall_mem_cons.mpr ⟨cd_47, List.forall_mem_cons.mpr ⟨cd_48, List.forall_mem_cons.mpr ⟨cd_49, List.forall_mem_cons.mpr ⟨cd_50, List.forall_mem_cons.mpr ⟨cd_51, List.forall_mem_cons.mpr ⟨cd_52, List.forall_mem_cons.mpr ⟨cd_53, List.forall_mem_cons.mpr ⟨cd_54, List.forall_mem_cons.mpr ⟨cd_55, List.forall_mem_cons.mpr ⟨cd_56, List.forall_mem_cons.mpr ⟨cd_57, List.forall_mem_cons.mpr ⟨cd_58, List.forall_mem_cons.mpr ⟨cd_59, fun _ h => absurd h List.not_mem_nil⟩⟩⟩⟩⟩⟩⟩⟩⟩⟩⟩⟩⟩⟩⟩⟩⟩⟩⟩⟩⟩⟩⟩⟩⟩⟩⟩⟩⟩⟩
set_option maxRecDepth 100000 in
theorem cds_2 : ∀ e ∈ MT_2, Cond.code e.1 e.2.2.1 e.2.2.2.1 e.2.2.2.2.1 ∈ Gl := List.forall_mem_cons.mpr ⟨cd_60, List.forall_mem_cons.mpr ⟨cd_61, List.forall_mem_cons.mpr ⟨cd_62, List.forall_mem_cons.mpr ⟨cd_63, List.forall_mem_cons.mpr ⟨cd_64, List.forall_mem_cons.mpr ⟨cd_65, List.forall_mem_cons.mpr ⟨cd_66, List.forall_mem_cons.mpr ⟨cd_67, List.forall_mem_cons.mpr ⟨cd_68, List.forall_mem_cons.mpr ⟨cd_69, List.forall_mem_cons.mpr ⟨cd_70, List.forall_mem_cons.mpr ⟨cd_71, List.forall_mem_cons.mpr ⟨cd_72, List.forall_mem_cons.mpr ⟨cd_73, List.forall_mem_cons.mpr ⟨cd_74, List.forall_mem_cons.mpr ⟨cd_75, List.forall_mem_cons.mpr ⟨cd_76, List.forall_mem_cons.mpr ⟨cd_77, List.forall_mem_cons.mpr ⟨cd_78, List.forall_mem_cons.mpr ⟨cd_79, List.forall_mem_cons.mpr ⟨cd_80, List.forall_mem_cons.mpr ⟨cd_81, List.forall_mem_cons.mpr ⟨cd_82, List.forall_mem_cons.mpr ⟨cd_83, List.forall_mem_cons.mpr ⟨cd_84, List.forall_mem_cons.mpr ⟨cd_85, List.forall_mem_cons.mpr ⟨cd_86, List.forall_mem_cons.mpr ⟨cd_87, List.forall_mem_cons.mpr ⟨cd_88, List.forall_mem_cons.mpr ⟨cd_89, fun _ h => absurd h List.not_mem_nil⟩⟩⟩⟩⟩⟩⟩⟩⟩⟩⟩⟩⟩⟩⟩⟩⟩⟩⟩⟩⟩⟩⟩⟩⟩⟩⟩⟩⟩⟩
set_option maxRecDepth 100000 in
theorem cds_3 : ∀ e ∈ MT_3, Cond.code e.1 e.2.2.1 e.2.2.2.1 e.2.2.2.2.1 ∈ Gl := List.forall_mem_cons.mpr ⟨cd_90, List.forall_mem_cons.mpr ⟨cd_91, List.forall_mem_cons.mpr ⟨cd_92, List.forall_mem_cons.mpr ⟨cd_93, List.forall_mem_cons.mpr ⟨cd_94, List.forall_mem_cons.mpr ⟨cd_95, List.forall_mem_cons.mpr ⟨cd_96, List.forall_mem_cons.mpr ⟨cd_97, List.forall_mem_cons.mpr ⟨cd_98, List.forall_mem_cons.mpr ⟨cd_99, List.forall_mem_cons.mpr ⟨cd_100, List.forall_mem_cons.mpr ⟨cd_101, List.forall_mem_cons.mpr ⟨cd_102, List.forall_mem_cons.mpr ⟨cd_103, List.forall_mem_cons.mpr ⟨cd_104, List.forall_mem_cons.mpr ⟨cd_105, List.forall_mem_cons.mpr ⟨cd_106, List.forall_mem_cons.mpr ⟨cd_107, List.forall_mem_cons.mpr ⟨cd_108, List.forall_mem_cons.mpr ⟨cd_109, List.forall_mem_cons.mpr ⟨cd_110, List.forall_mem_cons.mpr ⟨cd_111, List.forall_mem_cons.mpr ⟨cd_112, List.forall_mem_cons.mpr ⟨cd_113, List.forall_mem_cons.mpr ⟨cd_114, List.forall_mem_cons.mpr ⟨cd_115, List.forall_mem_cons.mpr ⟨cd_116, List.forall_mem_cons.mpr ⟨cd_117, List.forall_mem_cons.mpr ⟨cd_118, List.forall_mem_cons.mpr ⟨cd_119, fun _ h => absurd h List.not_mem_nil⟩⟩⟩⟩⟩⟩⟩⟩⟩⟩⟩⟩⟩⟩⟩⟩⟩⟩⟩⟩⟩⟩⟩⟩⟩⟩⟩⟩⟩⟩
set_option maxRecDepth 100000 in
theorem cds_4 : ∀ e ∈ MT_4, Cond.code e.1 e.2.2.1 e.2.2.2.1 e.2.2.2.2.1 ∈ Gl := List.forall_mem_cons.mpr ⟨cd_120, List.forall_mem_cons.mpr ⟨cd_121, List.forall_mem_cons.mpr ⟨cd_122, List.forall_mem_cons.mpr ⟨cd_123, List.forall_mem_cons.mpr ⟨cd_124, List.forall_mem_cons.mpr ⟨cd_125, List.forall_mem_cons.mpr ⟨cd_126, List.forall_mem_cons.mpr ⟨cd_127, List.forall_mem_cons.mpr ⟨cd_128, List.forall_mem_cons.mpr ⟨cd_129, List.forall_mem_cons.mpr ⟨cd_130, List.forall_mem_cons.mpr ⟨cd_131, List.forall_mem_cons.mpr ⟨cd_132, List.forall_mem_cons.mpr ⟨cd_133, List.forall_mem_cons.mpr ⟨cd_134, List.forall_mem_cons.mpr ⟨cd_135, List.forall_mem_cons.mpr ⟨cd_136, List.forall_mem_cons.mpr ⟨cd_137, List.forall_mem_cons.mpr ⟨cd_138, List.forall_mem_cons.mpr ⟨cd_139, List.forall_mem_cons.mpr ⟨cd_140, List.forall_mem_cons.mpr ⟨cd_141, List.forall_mem_cons.mpr ⟨cd_142, List.forall_mem_cons.mpr ⟨cd_143, List.forall_mem_cons.mpr ⟨cd_144, List.forall_mem_cons.mpr ⟨cd_145, List.forall_mem_cons.mpr ⟨cd_146, List.forall_mem_cons.mpr ⟨cd_147, List.forall_mem_cons.mpr ⟨cd_148, List.forall_mem_cons.mpr ⟨cd_149, fun _ h => absurd h List.not_mem_nil⟩⟩⟩⟩⟩⟩⟩⟩⟩⟩⟩⟩⟩⟩⟩⟩⟩⟩⟩⟩⟩⟩⟩⟩⟩⟩⟩⟩⟩⟩
set_option maxRecDepth 100000 in
theorem cds_5 : ∀ e ∈ MT_5, Cond.code e.1 e.2.2.1 e.2.2.2.1 e.2.2.2.2.1 ∈ Gl := List.forall_mem_cons.mpr ⟨cd_150, List.forall_mem_cons.mpr ⟨cd_151, List.forall_mem_cons.mpr ⟨cd_152, List.forall_mem_cons.mpr ⟨cd_153, List.forall_mem_cons.mpr ⟨cd_154, List.forall_mem_cons.mpr ⟨cd_155, List.forall_mem_cons.mpr ⟨cd_156, List.forall_mem_cons.mpr ⟨cd_157, List.forall_mem_cons.mpr ⟨cd_158, List.forall_mem_cons.mpr ⟨cd_159, List.forall_mem_cons.mpr ⟨cd_160, List.forall_mem_cons.mpr ⟨cd_161, List.forall_mem_cons.mpr ⟨cd_162, List.forall_mem_cons.mpr ⟨cd_163, List.forall_mem_cons.mpr ⟨cd_164, List.forall_mem_cons.mpr ⟨cd_165, List.forall_mem_cons.mpr ⟨cd_166, List.forall_mem_cons.mpr ⟨cd_167, List.forall_mem_cons.mpr ⟨cd_168, List.forall_mem_cons.mpr ⟨cd_169, List.forall_mem_cons.mpr ⟨cd_170, List.forall_mem_cons.mpr ⟨cd_171, List.forall_mem_cons.mpr ⟨cd_172, List.forall_mem_cons.mpr ⟨cd_173, List.forall_mem_cons.mpr ⟨cd_174, List.forall_mem_cons.mpr ⟨cd_175, List.forall_mem_cons.mpr ⟨cd_176, List.forall_mem_cons.mpr ⟨cd_177, List.forall_mem_cons.mpr ⟨cd_178, List.forall_mem_cons.mpr ⟨cd_179, fun _ h => absurd h List.not_mem_nil⟩⟩⟩⟩⟩⟩⟩⟩⟩⟩⟩⟩⟩⟩⟩⟩⟩⟩⟩⟩⟩⟩⟩⟩⟩⟩⟩⟩⟩⟩
set_option maxRecDepth 100000 in
theorem cds_6 : ∀ e ∈ MT_6, Cond.code e.1 e.2.2.1 e.2.2.2.1 e.2.2.2.2.1 ∈ Gl := List.forall_mem_cons.mpr ⟨cd_180, List.forall_mem_cons.mpr ⟨cd_181, List.forall_mem_cons.mpr ⟨cd_182, List.forall_mem_cons.mpr ⟨cd_183, List.forall_mem_cons.mpr ⟨cd_184, List.forall_mem_cons.mpr ⟨cd_185, List.forall_mem_cons.mpr ⟨cd_186, List.forall_mem_cons.mpr ⟨cd_187, List.forall_mem_cons.mpr ⟨cd_188, List.forall_mem_cons.mpr ⟨cd_189, List.forall_mem_cons.mpr ⟨cd_190, List.forall_mem_cons.mpr ⟨cd_191, List.forall_mem_cons.mpr ⟨cd_192, List.forall_mem_cons.mpr ⟨cd_193, List.forall_mem_cons.mpr ⟨cd_194, List.forall_mem_cons.mpr ⟨cd_195, List.forall_mem_cons.mpr ⟨cd_196, List.forall_mem_cons.mpr ⟨cd_197, List.forall_mem_cons.mpr ⟨cd_198, List.forall_mem_cons.mpr ⟨cd_199, List.forall_mem_cons.mpr ⟨cd_200, List.forall_mem_cons.mpr ⟨cd_201, List.forall_mem_cons.mpr ⟨cd_202, List.forall_mem_cons.mpr ⟨cd_203, List.forall_mem_cons.mpr ⟨cd_204, List.forall_mem_cons.mpr ⟨cd_205, List.forall_mem_cons.mpr ⟨cd_206, List.forall_mem_cons.mpr ⟨cd_207, List.forall_mem_cons.mpr ⟨cd_208, List.forall_mem_cons.mpr ⟨cd_209, fun _ h => absurd h List.not_mem_nil⟩⟩⟩⟩⟩⟩⟩⟩⟩⟩⟩⟩⟩⟩⟩⟩⟩⟩⟩⟩⟩⟩⟩⟩⟩⟩⟩⟩⟩⟩
set_option maxRecDepth 100000 in
theorem cds_7 : ∀ e ∈ MT_7, Cond.code e.1 e.2.2.1 e.2.2.2.1 e.2.2.2.2.1 ∈ Gl := List.forall_mem_cons.mpr ⟨cd_210, List.forall_mem_cons.mpr ⟨cd_211, List.forall_mem_cons.mpr ⟨cd_212, List.forall_mem_cons.mpr ⟨cd_213, List.forall_mem_cons.mpr ⟨cd_214, List.forall_mem_cons.mpr ⟨cd_215, List.forall_mem_cons.mpr ⟨cd_216, List.forall_mem_cons.mpr ⟨cd_217, List.forall_mem_cons.mpr ⟨cd_218, List.forall_mem_cons.mpr ⟨cd_219, List.forall_mem_cons.mpr ⟨cd_220, List.forall_mem_cons.mpr ⟨cd_221, List.forall_mem_cons.mpr ⟨cd_222, List.forall_mem_cons.mpr ⟨cd_223, List.forall_mem_cons.mpr ⟨cd_224, List.forall_mem_cons.mpr ⟨cd_225, List.forall_mem_cons.mpr ⟨cd_226, List.forall_mem_cons.mpr ⟨cd_227, List.forall_mem_cons.mpr ⟨cd_228, List.forall_mem_cons.mpr ⟨cd_229, List.forall_mem_cons.mpr ⟨cd_230, List.forall_mem_cons.mpr ⟨cd_231, List.forall_mem_cons.mpr ⟨cd_232, List.forall_mem_cons.mpr ⟨cd_233, List.forall_mem_cons.mpr ⟨cd_234, List.forall_mem_cons.mpr ⟨cd_235, List.forall_mem_cons.mpr ⟨cd_236, List.forall_mem_cons.mpr ⟨cd_237, List.forall_mem_cons.mpr ⟨cd_238, List.forall_mem_cons.mpr ⟨cd_239, fun _ h => absurd h List.not_mem_nil⟩⟩⟩⟩⟩⟩⟩⟩⟩⟩⟩⟩⟩⟩⟩⟩⟩⟩⟩⟩⟩⟩⟩⟩⟩⟩⟩⟩⟩⟩
set_option maxRecDepth 100000 in
theorem cds_8 : ∀ e ∈ MT_8, Cond.code e.1 e.2.2.1 e.2.2.2.1 e.2.2.2.2.1 ∈ Gl := List.forall_mem_cons.mpr ⟨cd_240, List.forall_mem_cons.mpr ⟨cd_241, List.forall_mem_cons.mpr ⟨cd_242, List.forall_mem_cons.mpr ⟨cd_243, List.forall_mem_cons.mpr ⟨cd_244, List.forall_mem_cons.mpr ⟨cd_245, List.forall_mem_cons.mpr ⟨cd_246, List.forall_mem_cons.mpr ⟨cd_247, List.forall_mem_cons.mpr ⟨cd_248, List.forall_mem_cons.mpr ⟨cd_249, List.forall_mem_cons.mpr ⟨cd_250, List.forall_mem_cons.mpr ⟨cd_251, List.forall_mem_cons.mpr ⟨cd_252, List.forall_mem_cons.mpr ⟨cd_253, List.forall_mem_cons.mpr ⟨cd_254, List.forall_mem_cons.mpr ⟨cd_255, List.forall_mem_cons.mpr ⟨cd_256, List.forall_mem_cons.mpr ⟨cd_257, List.forall_mem_cons.mpr ⟨cd_258, List.forall_mem_cons.mpr ⟨cd_259, List.forall_mem_cons.mpr ⟨cd_260, List.forall_mem_cons.mpr ⟨cd_261, List.forall_mem_cons.mpr ⟨cd_262, List.forall_mem_cons.mpr ⟨cd_263, List.forall_mem_cons.mpr ⟨cd_264, List.forall_mem_cons.mpr ⟨cd_265, List.forall_mem_cons.mpr ⟨cd_266, List.forall_mem_cons.mpr ⟨cd_267, List.forall_mem_cons.mpr ⟨cd_268, List.forall_mem_cons.mpr ⟨cd_269, fun _ h => absurd h List.not_mem_nil⟩⟩⟩⟩⟩⟩⟩⟩⟩⟩⟩⟩⟩⟩⟩⟩⟩⟩⟩⟩⟩⟩⟩⟩⟩⟩⟩⟩⟩⟩
set_option maxRecDepth 100000 in
theorem cds_9 : ∀ e ∈ MT_9.take 20, Cond.code e.1 e.2.2.1 e.2.2.2.1 e.2.2.2.2.1 ∈ Gl := List.forall_mem_cons.mpr ⟨cd_270, List.forall_mem_cons.mpr ⟨cd_271, List.forall_mem_cons.mpr ⟨cd_272, List.forall_mem_cons.mpr ⟨cd_273, List.forall_mem_cons.mpr ⟨cd_274, List.forall_mem_cons.mpr ⟨cd_275, List.forall_mem_cons.mpr ⟨cd_276, List.forall_mem_cons.mpr ⟨cd_277, List.forall_mem_cons.mpr ⟨cd_278, List.forall_mem_cons.mpr ⟨cd_279, List.forall_mem_cons.mpr ⟨cd_280, List.forall_mem_cons.mpr ⟨cd_281, List.forall_mem_cons.mpr ⟨cd_282, List.forall_mem_cons.mpr ⟨cd_283, List.forall_mem_cons.mpr ⟨cd_284, List.forall_mem_cons.mpr ⟨cd_285, List.forall_mem_cons.mpr ⟨cd_286, List.forall_mem_cons.mpr ⟨cd_287, List.forall_mem_cons.mpr ⟨cd_288, List.forall_mem_cons.mpr ⟨cd_289, fun _ h => absurd h List.not_mem_nil⟩⟩⟩⟩⟩⟩⟩⟩⟩⟩⟩⟩⟩⟩⟩⟩⟩⟩⟩⟩
