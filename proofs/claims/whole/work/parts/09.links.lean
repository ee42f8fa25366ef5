theorem j_tm1 {w : Cond} (i : Nat) (h : tables_1_1[i]? = some w) : w ∈ tables_1 := List.mem_append_left _ (List.mem_of_getElem? h)
theorem j_me1 {w : Cond} (i : Nat) (h : tables_1_1[i]? = some w) (hg : goodWord w = true) : w ∈ j_wg := List.mem_filter.mpr ⟨List.mem_append_right _ (j_tm1 i h), hg⟩
theorem j_mn1 {w : Cond} (i : Nat) (h : tables_1_1[i]? = some w) (hg : j_isN w = true) : w ∈ j_wn := List.mem_filter.mpr ⟨List.mem_append_right _ (j_tm1 i h), hg⟩
theorem j_tm2 {w : Cond} (i : Nat) (h : tables_1_2[i]? = some w) : w ∈ tables_1 := List.mem_append_right _ (List.mem_append_left _ (List.mem_of_getElem? h))
theorem j_me2 {w : Cond} (i : Nat) (h : tables_1_2[i]? = some w) (hg : goodWord w = true) : w ∈ j_wg := List.mem_filter.mpr ⟨List.mem_append_right _ (j_tm2 i h), hg⟩
theorem j_mn2 {w : Cond} (i : Nat) (h : tables_1_2[i]? = some w) (hg : j_isN w = true) : w ∈ j_wn := List.mem_filter.mpr ⟨List.mem_append_right _ (j_tm2 i h), hg⟩
theorem j_tm3 {w : Cond} (i : Nat) (h : tables_1_3[i]? = some w) : w ∈ tables_1 := List.mem_append_right _ (List.mem_append_right _ (List.mem_append_left _ (List.mem_of_getElem? h)))
theorem j_me3 {w : Cond} (i : Nat) (h : tables_1_3[i]? = some w) (hg : goodWord w = true) : w ∈ j_wg := List.mem_filter.mpr ⟨List.mem_append_right _ (j_tm3 i h), hg⟩
theorem j_mn3 {w : Cond} (i : Nat) (h : tables_1_3[i]? = some w) (hg : j_isN w = true) : w ∈ j_wn := List.mem_filter.mpr ⟨List.mem_append_right _ (j_tm3 i h), hg⟩
theorem j_tm4 {w : Cond} (i : Nat) (h : tables_1_4[i]? = some w) : w ∈ tables_1 := List.mem_append_right _ (List.mem_append_right _ (List.mem_append_right _ (List.mem_append_left _ (List.mem_of_getElem? h))))
theorem j_me4 {w : Cond} (i : Nat) (h : tables_1_4[i]? = some w) (hg : goodWord w = true) : w ∈ j_wg := List.mem_filter.mpr ⟨List.mem_append_right _ (j_tm4 i h), hg⟩
theorem j_mn4 {w : Cond} (i : Nat) (h : tables_1_4[i]? = some w) (hg : j_isN w = true) : w ∈ j_wn := List.mem_filter.mpr ⟨List.mem_append_right _ (j_tm4 i h), hg⟩
theorem j_tm5 {w : Cond} (i : Nat) (h : tables_1_5[i]? = some w) : w ∈ tables_1 := List.mem_append_right _ (List.mem_append_right _ (List.mem_append_right _ (List.mem_append_right _ (List.mem_append_left _ (List.mem_of_getElem? h)))))
theorem j_me5 {w : Cond} (i : Nat) (h : tables_1_5[i]? = some w) (hg : goodWord w = true) : w ∈ j_wg := List.mem_filter.mpr ⟨List.mem_append_right _ (j_tm5 i h), hg⟩
theorem j_mn5 {w : Cond} (i : Nat) (h : tables_1_5[i]? = some w) (hg : j_isN w = true) : w ∈ j_wn := List.mem_filter.mpr ⟨List.mem_append_right _ (j_tm5 i h), hg⟩
theorem j_tm6 {w : Cond} (i : Nat) (h : tables_1_6[i]? = some w) : w ∈ tables_1 := List.mem_append_right _ (List.mem_append_right _ (List.mem_append_right _ (List.mem_append_right _ (List.mem_append_right _ (List.mem_append_left _ (List.mem_of_getElem? h))))))
theorem j_me6 {w : Cond} (i : Nat) (h : tables_1_6[i]? = some w) (hg : goodWord w = true) : w ∈ j_wg := List.mem_filter.mpr ⟨List.mem_append_right _ (j_tm6 i h), hg⟩
theorem j_mn6 {w : Cond} (i : Nat) (h : tables_1_6[i]? = some w) (hg : j_isN w = true) : w ∈ j_wn := List.mem_filter.mpr ⟨List.mem_append_right _ (j_tm6 i h), hg⟩
theorem j_tm7 {w : Cond} (i : Nat) (h : tables_1_7[i]? = some w) : w ∈ tables_1 := List.mem_append_right _ (List.mem_append_right _ (List.mem_append_right _ (List.mem_append_right _ (List.mem_append_right _ (List.mem_append_right _ (List.mem_append_left _ (List.mem_of_getElem? h)))))))
theorem j_me7 {w : Cond} (i : Nat) (h : tables_1_7[i]? = some w) (hg : goodWord w = true) : w ∈ j_wg := List.mem_filter.mpr ⟨List.mem_append_right _ (j_tm7 i h), hg⟩
theorem j_mn7 {w : Cond} (i : Nat) (h : tables_1_7[i]? = some w) (hg : j_isN w = true) : w ∈ j_wn := List.mem_filter.mpr ⟨List.mem_append_right _ (j_tm7 i h), hg⟩
theorem j_tm8 {w : Cond} (i : Nat) (h : tables_1_8[i]? = some w) : w ∈ tables_1 := List.mem_append_right _ (List.mem_append_right _ (List.mem_append_right _ (List.mem_append_right _ (List.mem_append_right _ (List.mem_append_right _ (List.mem_append_right _ (List.mem_of_getElem? h)))))))
theorem j_me8 {w : Cond} (i : Nat) (h : tables_1_8[i]? = some w) (hg : goodWord w = true) : w ∈ j_wg := List.mem_filter.mpr ⟨List.mem_append_right _ (j_tm8 i h), hg⟩
theorem j_mn8 {w : Cond} (i : Nat) (h : tables_1_8[i]? = some w) (hg : j_isN w = true) : w ∈ j_wn := List.mem_filter.mpr ⟨List.mem_append_right _ (j_tm8 i h), hg⟩
theorem j_sel {y : MethodName} {n : Nat} (h : (y, n) ∈ lw_privs) : Cond.selects y.cls y y ∈ j_wg := List.mem_filter.mpr ⟨List.mem_append_left _ (List.mem_map.mpr ⟨(y, n), h, rfl⟩), rfl⟩
theorem ciX0 : j_CI 0 RX0 TX0 3 tyX0 := ⟨rfl, inX0, tyX0_ok, nmX0, by decide +kernel⟩
theorem ciX1 : j_CI 1 RX1 TX1 3 tyX1 := ⟨rfl, inX1, tyX1_ok, nmX1, by decide +kernel⟩
theorem ciX2 : j_CI 2 RX2 TX2 4 tyX2 := ⟨rfl, inX2, tyX2_ok, nmX2, by decide +kernel⟩
theorem ciX3 : j_CI 3 RX3 TX3 11 tyX3 := ⟨rfl, inX3, tyX3_ok, nmX3, by decide +kernel⟩
theorem ciX4 : j_CI 4 RX4 TX4 4 tyX4 := ⟨rfl, inX4, tyX4_ok, nmX4, by decide +kernel⟩
theorem ciX5 : j_CI 5 RX5 TX5 4 tyX5 := ⟨rfl, inX5, tyX5_ok, nmX5, by decide +kernel⟩
theorem ciX6 : j_CI 6 RX6 TX6 14 tyX6 := ⟨rfl, inX6, tyX6_ok, nmX6, by decide +kernel⟩
theorem ciX7 : j_CI 7 RX7 TX7 6 tyX7 := ⟨rfl, inX7, tyX7_ok, nmX7, by decide +kernel⟩
theorem ciX8 : j_CI 8 RX8 TX8 7 tyX8 := ⟨rfl, inX8, tyX8_ok, nmX8, by decide +kernel⟩
theorem ciX9 : j_CI 9 RX9 TX9 2 tyX9 := ⟨rfl, inX9, tyX9_ok, nmX9, by decide +kernel⟩
theorem ciX10 : j_CI 10 RX10 TX10 3 tyX10 := ⟨rfl, inX10, tyX10_ok, nmX10, by decide +kernel⟩
theorem ciX11 : j_CI 11 RX11 TX11 15 tyX11 := ⟨rfl, inX11, tyX11_ok, nmX11, by decide +kernel⟩
theorem ciX12 : j_CI 12 RX12 TX12 54 tyX12 := ⟨rfl, inX12, tyX12_ok, nmX12, by decide +kernel⟩
def mJI_compare : j_M := (⟨"java/lang/Integer", "compare", "(II)I"⟩, prog_15_method_40_code, 2, (Option.some FieldType.int), 0, 0)
def mJL_compare : j_M := (⟨"java/lang/Long", "compare", "(JJ)I"⟩, prog_16_method_42_code, 4, (Option.some FieldType.int), 0, 0)
def mJM_max : j_M := (⟨"java/lang/Math", "max", "(II)I"⟩, prog_17_method_65_code, 2, (Option.some FieldType.int), 0, 0)
def mJM_min : j_M := (⟨"java/lang/Math", "min", "(II)I"⟩, prog_17_method_69_code, 2, (Option.some FieldType.int), 0, 0)
def mL_law : j_M := (⟨"BackIndexLaw", "law", "([I)Z"⟩, code, 4, (Option.some FieldType.boolean : Option FieldType), 10, 398)
def mX0_init : j_M := (⟨"BackIndex$Acts", "<init>", "()V"⟩, prog_2_method_1_code, 1, (Option.none : Option FieldType), 1, 14)
def mX0_restore : j_M := (⟨"BackIndex$Acts", "restore", "(LBackIndex$Kept;)Z"⟩, prog_2_method_3_code, 4, (Option.some FieldType.boolean), 4, 85)
def mX0_save : j_M := (⟨"BackIndex$Acts", "save", "(LBackIndex$Kept;)V"⟩, prog_2_method_2_code, 3, (Option.none : Option FieldType), 4, 85)
def mX10_add : j_M := (⟨"BackIndex$Runs", "add", "(II)V"⟩, prog_12_method_2_code, 4, (Option.none : Option FieldType), 1, 23)
def mX10_init : j_M := (⟨"BackIndex$Runs", "<init>", "()V"⟩, prog_12_method_1_code, 1, (Option.none : Option FieldType), 1, 14)
def mX10_isAhead : j_M := (⟨"BackIndex$Runs", "isAhead", "(III)Z"⟩, prog_12_method_3_code, 4, (Option.some FieldType.boolean), 0, 0)
def mX10_keep : j_M := (⟨"BackIndex$Runs", "keep", "(II)V"⟩, prog_12_method_7_code, 3, (Option.none : Option FieldType), 0, 0)
def mX10_leaveOutInner : j_M := (⟨"BackIndex$Runs", "leaveOutInner", "()V"⟩, prog_12_method_4_code, 4, (Option.none : Option FieldType), 1, 22)
def mX10_leaveOutPage : j_M := (⟨"BackIndex$Runs", "leaveOutPage", "(I)V"⟩, prog_12_method_5_code, 4, (Option.none : Option FieldType), 1, 22)
def mX10_melt : j_M := (⟨"BackIndex$Runs", "melt", "(I)V"⟩, prog_12_method_6_code, 4, (Option.none : Option FieldType), 1, 22)
def mX11_about : j_M := (⟨"BackIndex", "about", "(II)I"⟩, prog_1_method_16_code, 3, (Option.some FieldType.int), 2, 43)
def mX11_around : j_M := (⟨"BackIndex", "around", "(I)I"⟩, prog_1_method_73_code, 2, (Option.some FieldType.int), 2, 43)
def mX11_build : j_M := (⟨"BackIndex", "build", "(III)I"⟩, prog_1_method_27_code, 5, (Option.some FieldType.int), 7, 163)
def mX11_byteOf : j_M := (⟨"BackIndex", "byteOf", "(JI)I"⟩, prog_1_method_62_code, 3, (Option.some FieldType.int), 0, 0)
def mX11_changed : j_M := (⟨"BackIndex", "changed", "()I"⟩, prog_1_method_36_code, 4, (Option.some FieldType.int), 4, 94)
def mX11_compare : j_M := (⟨"BackIndex", "compare", "(III)I"⟩, prog_1_method_18_code, 4, (Option.some FieldType.int), 4, 98)
def mX11_digitsOf : j_M := (⟨"BackIndex", "digitsOf", "(I)I"⟩, prog_1_method_63_code, 3, (Option.some FieldType.int), 0, 0)
def mX11_drop : j_M := (⟨"BackIndex", "drop", "(I)I"⟩, prog_1_method_23_code, 2, (Option.some FieldType.int), 5, 107)
def mX11_entry : j_M := (⟨"BackIndex", "entry", "(II)I"⟩, prog_1_method_28_code, 3, (Option.some FieldType.int), 4, 87)
def mX11_failed : j_M := (⟨"BackIndex", "failed", "(I)I"⟩, prog_1_method_47_code, 2, (Option.some FieldType.int), 0, 0)
def mX11_fault : j_M := (⟨"BackIndex", "fault", "()I"⟩, prog_1_method_44_code, 1, (Option.some FieldType.int), 0, 0)
def mX11_find : j_M := (⟨"BackIndex", "find", "(III)I"⟩, prog_1_method_31_code, 4, (Option.some FieldType.int), 2, 44)
def mX11_first : j_M := (⟨"BackIndex", "first", "()I"⟩, prog_1_method_32_code, 3, (Option.some FieldType.int), 2, 47)
def mX11_flow : j_M := (⟨"BackIndex", "flow", "(I)I"⟩, prog_1_method_6_code, 3, (Option.some FieldType.int), 0, 0)
def mX11_folded : j_M := (⟨"BackIndex", "folded", "(I)I"⟩, prog_1_method_68_code, 1, (Option.some FieldType.int), 0, 0)
def mX11_hasHeads : j_M := (⟨"BackIndex", "hasHeads", "(III)Z"⟩, prog_1_method_50_code, 4, (Option.some FieldType.boolean), 1, 21)
def mX11_hasPage : j_M := (⟨"BackIndex", "hasPage", "(I)Z"⟩, prog_1_method_49_code, 2, (Option.some FieldType.boolean), 2, 41)
def mX11_head : j_M := (⟨"BackIndex", "head", "()I"⟩, prog_1_method_13_code, 1, (Option.some FieldType.int), 5, 107)
def mX11_headOf : j_M := (⟨"BackIndex", "headOf", "(II)I"⟩, prog_1_method_71_code, 4, (Option.some FieldType.int), 0, 0)
def mX11_headsIn : j_M := (⟨"BackIndex", "headsIn", "(I)I"⟩, prog_1_method_72_code, 1, (Option.some FieldType.int), 1, 23)
def mX11_init : j_M := (⟨"BackIndex", "<init>", "()V"⟩, prog_1_method_1_code, 1, (Option.none : Option FieldType), 4, 83)
def mX11_isDigit : j_M := (⟨"BackIndex", "isDigit", "(I)Z"⟩, prog_1_method_66_code, 1, (Option.some FieldType.boolean), 0, 0)
def mX11_isLetter : j_M := (⟨"BackIndex", "isLetter", "(I)Z"⟩, prog_1_method_67_code, 1, (Option.some FieldType.boolean), 1, 20)
def mX11_isNewHead : j_M := (⟨"BackIndex", "isNewHead", "()Z"⟩, prog_1_method_51_code, 1, (Option.some FieldType.boolean), 3, 70)
def mX11_isWithin : j_M := (⟨"BackIndex", "isWithin", "(III)Z"⟩, prog_1_method_60_code, 3, (Option.some FieldType.boolean), 0, 0)
def mX11_label : j_M := (⟨"BackIndex", "label", "(I)I"⟩, prog_1_method_8_code, 2, (Option.some FieldType.int), 3, 67)
def mX11_labelSign : j_M := (⟨"BackIndex", "labelSign", "(II)I"⟩, prog_1_method_9_code, 4, (Option.some FieldType.int), 3, 67)
def mX11_labelled : j_M := (⟨"BackIndex", "labelled", "(III)I"⟩, prog_1_method_10_code, 6, (Option.some FieldType.int), 2, 48)
def mX11_lastDigits : j_M := (⟨"BackIndex", "lastDigits", "(II)I"⟩, prog_1_method_65_code, 4, (Option.some FieldType.int), 0, 0)
def mX11_leave : j_M := (⟨"BackIndex", "leave", "(I)V"⟩, prog_1_method_52_code, 2, (Option.none : Option FieldType), 0, 0)
def mX11_led : j_M := (⟨"BackIndex", "led", "(I)I"⟩, prog_1_method_35_code, 2, (Option.some FieldType.int), 1, 23)
def mX11_longer : j_M := (⟨"BackIndex", "longer", "(II)I"⟩, prog_1_method_70_code, 2, (Option.some FieldType.int), 0, 0)
def mX11_mark : j_M := (⟨"BackIndex", "mark", "(IIIIII)I"⟩, prog_1_method_21_code, 7, (Option.some FieldType.int), 5, 107)
def mX11_marked : j_M := (⟨"BackIndex", "marked", "(II)I"⟩, prog_1_method_24_code, 3, (Option.some FieldType.int), 2, 45)
def mX11_match : j_M := (⟨"BackIndex", "match", "(IIIII)I"⟩, prog_1_method_42_code, 7, (Option.some FieldType.int), 1, 23)
def mX11_meld : j_M := (⟨"BackIndex", "meld", "(II)I"⟩, prog_1_method_20_code, 3, (Option.some FieldType.int), 5, 107)
def mX11_move : j_M := (⟨"BackIndex", "move", "(III)I"⟩, prog_1_method_4_code, 4, (Option.some FieldType.int), 5, 107)
def mX11_name : j_M := (⟨"BackIndex", "name", "(JI)I"⟩, prog_1_method_11_code, 5, (Option.some FieldType.int), 1, 22)
def mX11_pageCount : j_M := (⟨"BackIndex", "pageCount", "()I"⟩, prog_1_method_48_code, 1, (Option.some FieldType.int), 1, 21)
def mX11_pageOfGap : j_M := (⟨"BackIndex", "pageOfGap", "(II)I"⟩, prog_1_method_61_code, 2, (Option.some FieldType.int), 0, 0)
def mX11_part : j_M := (⟨"BackIndex", "part", "(IIII)I"⟩, prog_1_method_7_code, 5, (Option.some FieldType.int), 2, 48)
def mX11_pass : j_M := (⟨"BackIndex", "pass", "()I"⟩, prog_1_method_15_code, 1, (Option.some FieldType.int), 3, 69)
def mX11_pathOf : j_M := (⟨"BackIndex", "pathOf", "(III)I"⟩, prog_1_method_69_code, 3, (Option.some FieldType.int), 1, 21)
def mX11_place : j_M := (⟨"BackIndex", "place", "(III)I"⟩, prog_1_method_29_code, 4, (Option.some FieldType.int), 2, 42)
def mX11_put : j_M := (⟨"BackIndex", "put", "(II)I"⟩, prog_1_method_2_code, 3, (Option.some FieldType.int), 5, 107)
def mX11_refused : j_M := (⟨"BackIndex", "refused", "(I)I"⟩, prog_1_method_46_code, 2, (Option.some FieldType.int), 0, 0)
def mX11_rename : j_M := (⟨"BackIndex", "rename", "(I)I"⟩, prog_1_method_19_code, 2, (Option.some FieldType.int), 5, 107)
def mX11_see : j_M := (⟨"BackIndex", "see", "(IIIZ)I"⟩, prog_1_method_22_code, 5, (Option.some FieldType.int), 5, 107)
def mX11_sees : j_M := (⟨"BackIndex", "sees", "(III)I"⟩, prog_1_method_30_code, 4, (Option.some FieldType.int), 2, 42)
def mX11_shorten : j_M := (⟨"BackIndex", "shorten", "(III)I"⟩, prog_1_method_37_code, 5, (Option.some FieldType.int), 2, 46)
def mX11_show : j_M := (⟨"BackIndex", "show", "(I)I"⟩, prog_1_method_26_code, 2, (Option.some FieldType.int), 2, 42)
def mX11_showLent : j_M := (⟨"BackIndex", "showLent", "(I)I"⟩, prog_1_method_58_code, 2, (Option.some FieldType.int), 1, 21)
def mX11_showMain : j_M := (⟨"BackIndex", "showMain", "(I)I"⟩, prog_1_method_59_code, 2, (Option.some FieldType.int), 1, 21)
def mX11_sign : j_M := (⟨"BackIndex", "sign", "(III)I"⟩, prog_1_method_17_code, 4, (Option.some FieldType.int), 2, 43)
def mX11_sortAs : j_M := (⟨"BackIndex", "sortAs", "(I)I"⟩, prog_1_method_14_code, 2, (Option.some FieldType.int), 5, 107)
def mX11_take : j_M := (⟨"BackIndex", "take", "(I)I"⟩, prog_1_method_3_code, 2, (Option.some FieldType.int), 5, 107)
def mX11_taken : j_M := (⟨"BackIndex", "taken", "(I)I"⟩, prog_1_method_41_code, 2, (Option.some FieldType.int), 1, 21)
def mX11_tell : j_M := (⟨"BackIndex", "tell", "(I)I"⟩, prog_1_method_25_code, 2, (Option.some FieldType.int), 3, 62)
def mX11_tellAlso : j_M := (⟨"BackIndex", "tellAlso", "()I"⟩, prog_1_method_57_code, 1, (Option.some FieldType.int), 2, 41)
def mX11_tellMain : j_M := (⟨"BackIndex", "tellMain", "()I"⟩, prog_1_method_54_code, 1, (Option.some FieldType.int), 2, 41)
def mX11_tellNote : j_M := (⟨"BackIndex", "tellNote", "(I)I"⟩, prog_1_method_55_code, 2, (Option.some FieldType.int), 2, 41)
def mX11_tellPoint : j_M := (⟨"BackIndex", "tellPoint", "()I"⟩, prog_1_method_53_code, 1, (Option.some FieldType.int), 1, 21)
def mX11_tellSee : j_M := (⟨"BackIndex", "tellSee", "()I"⟩, prog_1_method_56_code, 1, (Option.some FieldType.int), 1, 21)
def mX11_told : j_M := (⟨"BackIndex", "told", "(I)I"⟩, prog_1_method_45_code, 2, (Option.some FieldType.int), 2, 41)
def mX11_trace : j_M := (⟨"BackIndex", "trace", "()I"⟩, prog_1_method_43_code, 1, (Option.some FieldType.int), 0, 0)
def mX11_tray : j_M := (⟨"BackIndex", "tray", "(II)I"⟩, prog_1_method_40_code, 4, (Option.some FieldType.int), 3, 62)
def mX11_undo : j_M := (⟨"BackIndex", "undo", "()I"⟩, prog_1_method_39_code, 1, (Option.some FieldType.int), 5, 108)
def mX11_unfold : j_M := (⟨"BackIndex", "unfold", "(III)I"⟩, prog_1_method_38_code, 5, (Option.some FieldType.int), 1, 23)
def mX11_unlikeDigits : j_M := (⟨"BackIndex", "unlikeDigits", "(II)I"⟩, prog_1_method_64_code, 4, (Option.some FieldType.int), 1, 23)
def mX11_unmatched : j_M := (⟨"BackIndex", "unmatched", "()I"⟩, prog_1_method_33_code, 1, (Option.some FieldType.int), 0, 0)
def mX11_unmatchedAt : j_M := (⟨"BackIndex", "unmatchedAt", "(I)I"⟩, prog_1_method_34_code, 2, (Option.some FieldType.int), 0, 0)
def mX11_unname : j_M := (⟨"BackIndex", "unname", "()I"⟩, prog_1_method_12_code, 2, (Option.some FieldType.int), 1, 21)
def mX11_word : j_M := (⟨"BackIndex", "word", "(I)I"⟩, prog_1_method_5_code, 2, (Option.some FieldType.int), 1, 21)
def mX12_about : j_M := (⟨"BackIndexModel", "about", "(II)I"⟩, prog_14_method_42_code, 3, (Option.some FieldType.int), 3, 63)
def mX12_addPath : j_M := (⟨"BackIndexModel", "addPath", "(III)V"⟩, prog_14_method_68_code, 4, (Option.none : Option FieldType), 2, 49)
def mX12_addPlace : j_M := (⟨"BackIndexModel", "addPlace", "(IIIIII)V"⟩, prog_14_method_81_code, 10, (Option.none : Option FieldType), 2, 45)
def mX12_addRun : j_M := (⟨"BackIndexModel", "addRun", "(II)V"⟩, prog_14_method_71_code, 5, (Option.none : Option FieldType), 0, 0)
def mX12_addSee : j_M := (⟨"BackIndexModel", "addSee", "(IIII)V"⟩, prog_14_method_84_code, 7, (Option.none : Option FieldType), 5, 120)
def mX12_begins : j_M := (⟨"BackIndexModel", "begins", "(I)V"⟩, prog_14_method_63_code, 2, (Option.none : Option FieldType), 0, 0)
def mX12_bit : j_M := (⟨"BackIndexModel", "bit", "(III)V"⟩, prog_14_method_45_code, 6, (Option.none : Option FieldType), 3, 65)
def mX12_build : j_M := (⟨"BackIndexModel", "build", "(III)I"⟩, prog_14_method_93_code, 7, (Option.some FieldType.int), 7, 171)
def mX12_changed : j_M := (⟨"BackIndexModel", "changed", "()I"⟩, prog_14_method_103_code, 1, (Option.some FieldType.int), 0, 0)
def mX12_childrenOf : j_M := (⟨"BackIndexModel", "childrenOf", "(I)I"⟩, prog_14_method_85_code, 7, (Option.some FieldType.int), 1, 21)
def mX12_comes : j_M := (⟨"BackIndexModel", "comes", "(IIIIII)I"⟩, prog_14_method_58_code, 8, (Option.some FieldType.int), 2, 42)
def mX12_compare : j_M := (⟨"BackIndexModel", "compare", "(III)I"⟩, prog_14_method_47_code, 5, (Option.some FieldType.int), 5, 120)
def mX12_comparePaths : j_M := (⟨"BackIndexModel", "comparePaths", "(III)I"⟩, prog_14_method_69_code, 7, (Option.some FieldType.int), 5, 120)
def mX12_compared : j_M := (⟨"BackIndexModel", "compared", "(III)I"⟩, prog_14_method_46_code, 10, (Option.some FieldType.int), 4, 91)
def mX12_countChanged : j_M := (⟨"BackIndexModel", "countChanged", "()I"⟩, prog_14_method_92_code, 6, (Option.some FieldType.int), 1, 26)
def mX12_deepOf : j_M := (⟨"BackIndexModel", "deepOf", "(I)I"⟩, prog_14_method_86_code, 2, (Option.some FieldType.int), 0, 0)
def mX12_digitsOf : j_M := (⟨"BackIndexModel", "digitsOf", "(I)I"⟩, prog_14_method_104_code, 3, (Option.some FieldType.int), 0, 0)
def mX12_drop : j_M := (⟨"BackIndexModel", "drop", "(I)I"⟩, prog_14_method_61_code, 2, (Option.some FieldType.int), 2, 43)
def mX12_entry : j_M := (⟨"BackIndexModel", "entry", "(II)I"⟩, prog_14_method_95_code, 3, (Option.some FieldType.int), 2, 47)
def mX12_entryOf : j_M := (⟨"BackIndexModel", "entryOf", "(III)I"⟩, prog_14_method_67_code, 6, (Option.some FieldType.int), 1, 24)
def mX12_fails : j_M := (⟨"BackIndexModel", "fails", "(I)I"⟩, prog_14_method_3_code, 2, (Option.some FieldType.int), 0, 0)
def mX12_fault : j_M := (⟨"BackIndexModel", "fault", "()I"⟩, prog_14_method_113_code, 1, (Option.some FieldType.int), 0, 0)
def mX12_find : j_M := (⟨"BackIndexModel", "find", "(III)I"⟩, prog_14_method_98_code, 4, (Option.some FieldType.int), 2, 49)
def mX12_findPlaces : j_M := (⟨"BackIndexModel", "findPlaces", "(III)V"⟩, prog_14_method_83_code, 5, (Option.none : Option FieldType), 6, 132)
def mX12_findRuns : j_M := (⟨"BackIndexModel", "findRuns", "(I)V"⟩, prog_14_method_77_code, 4, (Option.none : Option FieldType), 5, 109)
def mX12_findSees : j_M := (⟨"BackIndexModel", "findSees", "(II)V"⟩, prog_14_method_88_code, 5, (Option.none : Option FieldType), 6, 146)
def mX12_first : j_M := (⟨"BackIndexModel", "first", "()I"⟩, prog_14_method_99_code, 5, (Option.some FieldType.int), 1, 21)
def mX12_flow : j_M := (⟨"BackIndexModel", "flow", "(I)I"⟩, prog_14_method_13_code, 3, (Option.some FieldType.int), 1, 22)
def mX12_formOf : j_M := (⟨"BackIndexModel", "formOf", "(I)I"⟩, prog_14_method_19_code, 3, (Option.some FieldType.int), 1, 23)
def mX12_gapAt : j_M := (⟨"BackIndexModel", "gapAt", "(I)I"⟩, prog_14_method_51_code, 2, (Option.some FieldType.int), 1, 21)
def mX12_gapOf : j_M := (⟨"BackIndexModel", "gapOf", "(I)I"⟩, prog_14_method_54_code, 2, (Option.some FieldType.int), 2, 42)
def mX12_hasMain : j_M := (⟨"BackIndexModel", "hasMain", "(II)Z"⟩, prog_14_method_78_code, 5, (Option.some FieldType.boolean), 3, 65)
def mX12_hasMore : j_M := (⟨"BackIndexModel", "hasMore", "(I)Z"⟩, prog_14_method_87_code, 2, (Option.some FieldType.boolean), 2, 47)
def mX12_head : j_M := (⟨"BackIndexModel", "head", "()I"⟩, prog_14_method_37_code, 2, (Option.some FieldType.int), 3, 67)
def mX12_headAt : j_M := (⟨"BackIndexModel", "headAt", "(I)I"⟩, prog_14_method_25_code, 2, (Option.some FieldType.int), 0, 0)
def mX12_headOf : j_M := (⟨"BackIndexModel", "headOf", "(II)I"⟩, prog_14_method_55_code, 3, (Option.some FieldType.int), 1, 21)
def mX12_headsEver : j_M := (⟨"BackIndexModel", "headsEver", "()I"⟩, prog_14_method_26_code, 1, (Option.some FieldType.int), 0, 0)
def mX12_init : j_M := (⟨"BackIndexModel", "<init>", "()V"⟩, prog_14_method_1_code, 1, (Option.none : Option FieldType), 1, 14)
def mX12_isAsBefore : j_M := (⟨"BackIndexModel", "isAsBefore", "(II)Z"⟩, prog_14_method_91_code, 7, (Option.some FieldType.boolean), 0, 0)
def mX12_isBehind : j_M := (⟨"BackIndexModel", "isBehind", "(II)Z"⟩, prog_14_method_76_code, 3, (Option.some FieldType.boolean), 3, 63)
def mX12_isEntry : j_M := (⟨"BackIndexModel", "isEntry", "(I)Z"⟩, prog_14_method_94_code, 2, (Option.some FieldType.boolean), 0, 0)
def mX12_isFreeName : j_M := (⟨"BackIndexModel", "isFreeName", "()Z"⟩, prog_14_method_35_code, 5, (Option.some FieldType.boolean), 2, 43)
def mX12_isHead : j_M := (⟨"BackIndexModel", "isHead", "(I)Z"⟩, prog_14_method_27_code, 2, (Option.some FieldType.boolean), 1, 22)
def mX12_isLetter : j_M := (⟨"BackIndexModel", "isLetter", "(I)Z"⟩, prog_14_method_39_code, 1, (Option.some FieldType.boolean), 0, 0)
def mX12_isMark : j_M := (⟨"BackIndexModel", "isMark", "(I)Z"⟩, prog_14_method_52_code, 2, (Option.some FieldType.boolean), 1, 22)
def mX12_isOf : j_M := (⟨"BackIndexModel", "isOf", "(II)Z"⟩, prog_14_method_73_code, 3, (Option.some FieldType.boolean), 2, 43)
def mX12_isPath : j_M := (⟨"BackIndexModel", "isPath", "(IIII)Z"⟩, prog_14_method_66_code, 5, (Option.some FieldType.boolean), 0, 0)
def mX12_isPlaceBehind : j_M := (⟨"BackIndexModel", "isPlaceBehind", "(IIIII)Z"⟩, prog_14_method_82_code, 6, (Option.some FieldType.boolean), 1, 20)
def mX12_isTidy : j_M := (⟨"BackIndexModel", "isTidy", "()Z"⟩, prog_14_method_34_code, 4, (Option.some FieldType.boolean), 0, 0)
def mX12_keep : j_M := (⟨"BackIndexModel", "keep", "()V"⟩, prog_14_method_5_code, 3, (Option.none : Option FieldType), 0, 0)
def mX12_keepOld : j_M := (⟨"BackIndexModel", "keepOld", "()V"⟩, prog_14_method_90_code, 2, (Option.none : Option FieldType), 0, 0)
def mX12_keyFrom : j_M := (⟨"BackIndexModel", "keyFrom", "(I)I"⟩, prog_14_method_44_code, 7, (Option.some FieldType.int), 3, 65)
def mX12_kindOf : j_M := (⟨"BackIndexModel", "kindOf", "(I)I"⟩, prog_14_method_53_code, 2, (Option.some FieldType.int), 1, 21)
def mX12_label : j_M := (⟨"BackIndexModel", "label", "(I)I"⟩, prog_14_method_22_code, 2, (Option.some FieldType.int), 3, 67)
def mX12_labelSign : j_M := (⟨"BackIndexModel", "labelSign", "(II)I"⟩, prog_14_method_23_code, 3, (Option.some FieldType.int), 3, 67)
def mX12_labelled : j_M := (⟨"BackIndexModel", "labelled", "(III)I"⟩, prog_14_method_24_code, 5, (Option.some FieldType.int), 2, 45)
def mX12_led : j_M := (⟨"BackIndexModel", "led", "(I)I"⟩, prog_14_method_102_code, 4, (Option.some FieldType.int), 1, 22)
def mX12_ledTo : j_M := (⟨"BackIndexModel", "ledTo", "(I)I"⟩, prog_14_method_89_code, 4, (Option.some FieldType.int), 3, 68)
def mX12_makeLabel : j_M := (⟨"BackIndexModel", "makeLabel", "(I)V"⟩, prog_14_method_21_code, 3, (Option.none : Option FieldType), 2, 45)
def mX12_mark : j_M := (⟨"BackIndexModel", "mark", "(IIIIII)I"⟩, prog_14_method_59_code, 7, (Option.some FieldType.int), 3, 69)
def mX12_markAt : j_M := (⟨"BackIndexModel", "markAt", "(I)I"⟩, prog_14_method_49_code, 2, (Option.some FieldType.int), 0, 0)
def mX12_marked : j_M := (⟨"BackIndexModel", "marked", "(II)I"⟩, prog_14_method_62_code, 3, (Option.some FieldType.int), 3, 63)
def mX12_marksEver : j_M := (⟨"BackIndexModel", "marksEver", "()I"⟩, prog_14_method_50_code, 1, (Option.some FieldType.int), 0, 0)
def mX12_match : j_M := (⟨"BackIndexModel", "match", "(IIIII)I"⟩, prog_14_method_111_code, 8, (Option.some FieldType.int), 2, 43)
def mX12_meld : j_M := (⟨"BackIndexModel", "meld", "(II)I"⟩, prog_14_method_57_code, 8, (Option.some FieldType.int), 2, 43)
def mX12_move : j_M := (⟨"BackIndexModel", "move", "(III)I"⟩, prog_14_method_11_code, 9, (Option.some FieldType.int), 2, 42)
def mX12_name : j_M := (⟨"BackIndexModel", "name", "(JI)I"⟩, prog_14_method_32_code, 5, (Option.some FieldType.int), 1, 22)
def mX12_nameTo : j_M := (⟨"BackIndexModel", "nameTo", "(I)V"⟩, prog_14_method_36_code, 3, (Option.none : Option FieldType), 0, 0)
def mX12_nextBound : j_M := (⟨"BackIndexModel", "nextBound", "(II)I"⟩, prog_14_method_75_code, 5, (Option.some FieldType.int), 4, 85)
def mX12_noteOf : j_M := (⟨"BackIndexModel", "noteOf", "(I)I"⟩, prog_14_method_56_code, 2, (Option.some FieldType.int), 1, 21)
def mX12_numberOf : j_M := (⟨"BackIndexModel", "numberOf", "(I)I"⟩, prog_14_method_20_code, 3, (Option.some FieldType.int), 1, 23)
def mX12_outRun : j_M := (⟨"BackIndexModel", "outRun", "(I)V"⟩, prog_14_method_72_code, 3, (Option.none : Option FieldType), 0, 0)
def mX12_pageOf : j_M := (⟨"BackIndexModel", "pageOf", "(I)I"⟩, prog_14_method_8_code, 2, (Option.some FieldType.int), 0, 0)
def mX12_pages : j_M := (⟨"BackIndexModel", "pages", "()I"⟩, prog_14_method_7_code, 2, (Option.some FieldType.int), 1, 20)
def mX12_part : j_M := (⟨"BackIndexModel", "part", "(IIII)I"⟩, prog_14_method_14_code, 7, (Option.some FieldType.int), 1, 22)
def mX12_partOf : j_M := (⟨"BackIndexModel", "partOf", "(I)I"⟩, prog_14_method_18_code, 4, (Option.some FieldType.int), 0, 0)
def mX12_pass : j_M := (⟨"BackIndexModel", "pass", "()I"⟩, prog_14_method_41_code, 5, (Option.some FieldType.int), 1, 20)
def mX12_place : j_M := (⟨"BackIndexModel", "place", "(III)I"⟩, prog_14_method_96_code, 4, (Option.some FieldType.int), 1, 22)
def mX12_put : j_M := (⟨"BackIndexModel", "put", "(II)I"⟩, prog_14_method_9_code, 4, (Option.some FieldType.int), 2, 42)
def mX12_rankOf : j_M := (⟨"BackIndexModel", "rankOf", "(I)I"⟩, prog_14_method_80_code, 1, (Option.some FieldType.int), 0, 0)
def mX12_rename : j_M := (⟨"BackIndexModel", "rename", "(I)I"⟩, prog_14_method_48_code, 2, (Option.some FieldType.int), 3, 67)
def mX12_say : j_M := (⟨"BackIndexModel", "say", "(I)V"⟩, prog_14_method_15_code, 2, (Option.none : Option FieldType), 0, 0)
def mX12_sayRoman : j_M := (⟨"BackIndexModel", "sayRoman", "(III)V"⟩, prog_14_method_17_code, 4, (Option.none : Option FieldType), 1, 21)
def mX12_sayTens : j_M := (⟨"BackIndexModel", "sayTens", "(I)V"⟩, prog_14_method_16_code, 3, (Option.none : Option FieldType), 1, 21)
def mX12_see : j_M := (⟨"BackIndexModel", "see", "(IIIZ)I"⟩, prog_14_method_60_code, 5, (Option.some FieldType.int), 3, 69)
def mX12_sees : j_M := (⟨"BackIndexModel", "sees", "(III)I"⟩, prog_14_method_97_code, 4, (Option.some FieldType.int), 1, 22)
def mX12_shorten : j_M := (⟨"BackIndexModel", "shorten", "(III)I"⟩, prog_14_method_106_code, 6, (Option.some FieldType.int), 1, 22)
def mX12_show : j_M := (⟨"BackIndexModel", "show", "(I)I"⟩, prog_14_method_65_code, 3, (Option.some FieldType.int), 3, 63)
def mX12_sign : j_M := (⟨"BackIndexModel", "sign", "(III)I"⟩, prog_14_method_43_code, 4, (Option.some FieldType.int), 3, 65)
def mX12_signOf : j_M := (⟨"BackIndexModel", "signOf", "(II)I"⟩, prog_14_method_29_code, 3, (Option.some FieldType.int), 1, 21)
def mX12_signsOf : j_M := (⟨"BackIndexModel", "signsOf", "(I)I"⟩, prog_14_method_28_code, 2, (Option.some FieldType.int), 1, 21)
def mX12_small : j_M := (⟨"BackIndexModel", "small", "(I)I"⟩, prog_14_method_40_code, 1, (Option.some FieldType.int), 0, 0)
def mX12_sortAs : j_M := (⟨"BackIndexModel", "sortAs", "(I)I"⟩, prog_14_method_38_code, 2, (Option.some FieldType.int), 2, 43)
def mX12_sortPaths : j_M := (⟨"BackIndexModel", "sortPaths", "(I)V"⟩, prog_14_method_70_code, 6, (Option.none : Option FieldType), 6, 146)
def mX12_sortedLong : j_M := (⟨"BackIndexModel", "sortedLong", "(I)I"⟩, prog_14_method_30_code, 2, (Option.some FieldType.int), 2, 42)
def mX12_sortedSign : j_M := (⟨"BackIndexModel", "sortedSign", "(II)I"⟩, prog_14_method_31_code, 3, (Option.some FieldType.int), 2, 43)
def mX12_take : j_M := (⟨"BackIndexModel", "take", "(I)I"⟩, prog_14_method_10_code, 4, (Option.some FieldType.int), 2, 42)
def mX12_taken : j_M := (⟨"BackIndexModel", "taken", "(I)I"⟩, prog_14_method_110_code, 2, (Option.some FieldType.int), 1, 22)
def mX12_tell : j_M := (⟨"BackIndexModel", "tell", "(I)I"⟩, prog_14_method_64_code, 2, (Option.some FieldType.int), 2, 43)
def mX12_tenTo : j_M := (⟨"BackIndexModel", "tenTo", "(I)I"⟩, prog_14_method_105_code, 3, (Option.some FieldType.int), 0, 0)
def mX12_thinRuns : j_M := (⟨"BackIndexModel", "thinRuns", "(II)V"⟩, prog_14_method_79_code, 8, (Option.none : Option FieldType), 4, 89)
def mX12_told : j_M := (⟨"BackIndexModel", "told", "(I)I"⟩, prog_14_method_114_code, 5, (Option.some FieldType.int), 2, 43)
def mX12_trace : j_M := (⟨"BackIndexModel", "trace", "()I"⟩, prog_14_method_112_code, 1, (Option.some FieldType.int), 0, 0)
def mX12_tray : j_M := (⟨"BackIndexModel", "tray", "(II)I"⟩, prog_14_method_109_code, 4, (Option.some FieldType.int), 2, 43)
def mX12_undo : j_M := (⟨"BackIndexModel", "undo", "()I"⟩, prog_14_method_108_code, 3, (Option.some FieldType.int), 0, 0)
def mX12_unfold : j_M := (⟨"BackIndexModel", "unfold", "(III)I"⟩, prog_14_method_107_code, 5, (Option.some FieldType.int), 1, 22)
def mX12_unmatch : j_M := (⟨"BackIndexModel", "unmatch", "(I)V"⟩, prog_14_method_74_code, 2, (Option.none : Option FieldType), 3, 63)
def mX12_unmatched : j_M := (⟨"BackIndexModel", "unmatched", "()I"⟩, prog_14_method_100_code, 1, (Option.some FieldType.int), 0, 0)
def mX12_unmatchedAt : j_M := (⟨"BackIndexModel", "unmatchedAt", "(I)I"⟩, prog_14_method_101_code, 2, (Option.some FieldType.int), 1, 22)
def mX12_unname : j_M := (⟨"BackIndexModel", "unname", "()I"⟩, prog_14_method_33_code, 2, (Option.some FieldType.int), 0, 0)
def mX12_within : j_M := (⟨"BackIndexModel", "within", "(III)Z"⟩, prog_14_method_4_code, 3, (Option.some FieldType.boolean), 0, 0)
def mX12_word : j_M := (⟨"BackIndexModel", "word", "(I)I"⟩, prog_14_method_12_code, 2, (Option.some FieldType.int), 1, 22)
def mX12_words : j_M := (⟨"BackIndexModel", "words", "()I"⟩, prog_14_method_6_code, 1, (Option.some FieldType.int), 0, 0)
def mX1_begin : j_M := (⟨"BackIndex$Bits", "begin", "(I)V"⟩, prog_3_method_2_code, 2, (Option.none : Option FieldType), 0, 0)
def mX1_init : j_M := (⟨"BackIndex$Bits", "<init>", "()V"⟩, prog_3_method_1_code, 1, (Option.none : Option FieldType), 1, 14)
def mX1_readNumber : j_M := (⟨"BackIndex$Bits", "readNumber", "(LBackIndex$Rows;I)V"⟩, prog_3_method_4_code, 3, (Option.none : Option FieldType), 1, 23)
def mX1_step : j_M := (⟨"BackIndex$Bits", "step", "(LBackIndex$Rows;IZ)V"⟩, prog_3_method_3_code, 5, (Option.none : Option FieldType), 2, 45)
def mX2_add : j_M := (⟨"BackIndex$Heads", "add", "(LBackIndex$Rows;)I"⟩, prog_4_method_5_code, 2, (Option.some FieldType.int), 2, 47)
def mX2_copyFrom : j_M := (⟨"BackIndex$Heads", "copyFrom", "(LBackIndex$Heads;)V"⟩, prog_4_method_8_code, 3, (Option.none : Option FieldType), 2, 42)
def mX2_countThere : j_M := (⟨"BackIndex$Heads", "countThere", "()I"⟩, prog_4_method_3_code, 3, (Option.some FieldType.int), 0, 0)
def mX2_has : j_M := (⟨"BackIndex$Heads", "has", "(I)Z"⟩, prog_4_method_2_code, 2, (Option.some FieldType.boolean), 0, 0)
def mX2_hasSigns : j_M := (⟨"BackIndex$Heads", "hasSigns", "(LBackIndex$Rows;)Z"⟩, prog_4_method_4_code, 3, (Option.some FieldType.boolean), 2, 48)
def mX2_init : j_M := (⟨"BackIndex$Heads", "<init>", "()V"⟩, prog_4_method_1_code, 1, (Option.none : Option FieldType), 2, 43)
def mX2_remove : j_M := (⟨"BackIndex$Heads", "remove", "(I)V"⟩, prog_4_method_6_code, 2, (Option.none : Option FieldType), 1, 21)
def mX2_rows : j_M := (⟨"BackIndex$Heads", "rows", "(II)LBackIndex$Rows;"⟩, prog_4_method_7_code, 3, (Option.some (FieldType.object "BackIndex$Rows")), 1, 21)
def mX3_addLead : j_M := (⟨"BackIndex$Index", "addLead", "(II)V"⟩, prog_5_method_15_code, 3, (Option.none : Option FieldType), 0, 0)
def mX3_addLoose : j_M := (⟨"BackIndex$Index", "addLoose", "(I)V"⟩, prog_5_method_16_code, 2, (Option.none : Option FieldType), 0, 0)
def mX3_addPath : j_M := (⟨"BackIndex$Index", "addPath", "(I)V"⟩, prog_5_method_11_code, 3, (Option.none : Option FieldType), 1, 20)
def mX3_addPlace : j_M := (⟨"BackIndex$Index", "addPlace", "(IIIIII)V"⟩, prog_5_method_12_code, 10, (Option.none : Option FieldType), 2, 47)
def mX3_clear : j_M := (⟨"BackIndex$Index", "clear", "()V"⟩, prog_5_method_2_code, 1, (Option.none : Option FieldType), 0, 0)
def mX3_countLed : j_M := (⟨"BackIndex$Index", "countLed", "(I)I"⟩, prog_5_method_19_code, 4, (Option.some FieldType.int), 0, 0)
def mX3_entryOf : j_M := (⟨"BackIndex$Index", "entryOf", "(I)I"⟩, prog_5_method_10_code, 3, (Option.some FieldType.int), 0, 0)
def mX3_follow : j_M := (⟨"BackIndex$Index", "follow", "()V"⟩, prog_5_method_18_code, 2, (Option.none : Option FieldType), 5, 109)
def mX3_has : j_M := (⟨"BackIndex$Index", "has", "(I)Z"⟩, prog_5_method_3_code, 2, (Option.some FieldType.boolean), 0, 0)
def mX3_hasBody : j_M := (⟨"BackIndex$Index", "hasBody", "(I)Z"⟩, prog_5_method_9_code, 2, (Option.some FieldType.boolean), 3, 64)
def mX3_hasLikeLeads : j_M := (⟨"BackIndex$Index", "hasLikeLeads", "(ILBackIndex$Index;I)Z"⟩, prog_5_method_21_code, 7, (Option.some FieldType.boolean), 2, 42)
def mX3_init : j_M := (⟨"BackIndex$Index", "<init>", "()V"⟩, prog_5_method_1_code, 1, (Option.none : Option FieldType), 2, 43)
def mX3_isAlike : j_M := (⟨"BackIndex$Index", "isAlike", "(ILBackIndex$Index;I)Z"⟩, prog_5_method_20_code, 7, (Option.some FieldType.boolean), 3, 68)
def mX3_leadStart : j_M := (⟨"BackIndex$Index", "leadStart", "(I)I"⟩, prog_5_method_5_code, 2, (Option.some FieldType.int), 0, 0)
def mX3_ledFrom : j_M := (⟨"BackIndex$Index", "ledFrom", "(I)I"⟩, prog_5_method_17_code, 5, (Option.some FieldType.int), 4, 85)
def mX3_placeStart : j_M := (⟨"BackIndex$Index", "placeStart", "(I)I"⟩, prog_5_method_4_code, 2, (Option.some FieldType.int), 0, 0)
def mX3_placesOf : j_M := (⟨"BackIndex$Index", "placesOf", "(I)I"⟩, prog_5_method_6_code, 2, (Option.some FieldType.int), 1, 21)
def mX3_seesOf : j_M := (⟨"BackIndex$Index", "seesOf", "(I)I"⟩, prog_5_method_7_code, 2, (Option.some FieldType.int), 1, 21)
def mX3_weightAt : j_M := (⟨"BackIndex$Index", "weightAt", "(II)I"⟩, prog_5_method_13_code, 3, (Option.some FieldType.int), 1, 25)
def mX3_weightOf : j_M := (⟨"BackIndex$Index", "weightOf", "(IIII)I"⟩, prog_5_method_14_code, 6, (Option.some FieldType.int), 0, 0)
def mX3_withinOf : j_M := (⟨"BackIndex$Index", "withinOf", "(I)I"⟩, prog_5_method_8_code, 4, (Option.some FieldType.int), 3, 64)
def mX4_copyFrom : j_M := (⟨"BackIndex$Kept", "copyFrom", "(LBackIndex$Kept;)V"⟩, prog_6_method_9_code, 2, (Option.none : Option FieldType), 3, 64)
def mX4_hasGap : j_M := (⟨"BackIndex$Kept", "hasGap", "(I)Z"⟩, prog_6_method_3_code, 2, (Option.some FieldType.boolean), 0, 0)
def mX4_hasWord : j_M := (⟨"BackIndex$Kept", "hasWord", "(I)Z"⟩, prog_6_method_2_code, 2, (Option.some FieldType.boolean), 0, 0)
def mX4_init : j_M := (⟨"BackIndex$Kept", "<init>", "()V"⟩, prog_6_method_1_code, 1, (Option.none : Option FieldType), 3, 63)
def mX4_insertWord : j_M := (⟨"BackIndex$Kept", "insertWord", "(II)V"⟩, prog_6_method_4_code, 3, (Option.none : Option FieldType), 1, 23)
def mX4_removeWord : j_M := (⟨"BackIndex$Kept", "removeWord", "(I)I"⟩, prog_6_method_5_code, 3, (Option.some FieldType.int), 1, 23)
def mX4_shiftWords : j_M := (⟨"BackIndex$Kept", "shiftWords", "(III)V"⟩, prog_6_method_6_code, 4, (Option.none : Option FieldType), 2, 48)
def mX4_swapParts : j_M := (⟨"BackIndex$Kept", "swapParts", "(III)V"⟩, prog_6_method_7_code, 4, (Option.none : Option FieldType), 1, 25)
def mX4_turn : j_M := (⟨"BackIndex$Kept", "turn", "(II)V"⟩, prog_6_method_8_code, 6, (Option.none : Option FieldType), 0, 0)
def mX5_addPassed : j_M := (⟨"BackIndex$Keys", "addPassed", "(LBackIndex$Rows;)Z"⟩, prog_7_method_3_code, 2, (Option.some FieldType.boolean), 2, 47)
def mX5_init : j_M := (⟨"BackIndex$Keys", "<init>", "()V"⟩, prog_7_method_1_code, 1, (Option.none : Option FieldType), 2, 43)
def mX5_isPassed : j_M := (⟨"BackIndex$Keys", "isPassed", "(LBackIndex$Rows;)Z"⟩, prog_7_method_2_code, 3, (Option.some FieldType.boolean), 2, 47)
def mX5_keyStart : j_M := (⟨"BackIndex$Keys", "keyStart", "(LBackIndex$Rows;I)I"⟩, prog_7_method_5_code, 5, (Option.some FieldType.int), 2, 47)
def mX5_orderOf : j_M := (⟨"BackIndex$Keys", "orderOf", "(LBackIndex$Heads;III)I"⟩, prog_7_method_4_code, 8, (Option.some FieldType.int), 3, 71)
def mX6_addEntries : j_M := (⟨"BackIndex$Maker", "addEntries", "(LBackIndex$Index;)V"⟩, prog_8_method_6_code, 4, (Option.none : Option FieldType), 3, 66)
def mX6_addLeads : j_M := (⟨"BackIndex$Maker", "addLeads", "(LBackIndex$Index;I)V"⟩, prog_8_method_13_code, 3, (Option.none : Option FieldType), 4, 85)
def mX6_addLeadsBy : j_M := (⟨"BackIndex$Maker", "addLeadsBy", "(ILBackIndex$Index;I)V"⟩, prog_8_method_15_code, 5, (Option.none : Option FieldType), 1, 22)
def mX6_addPlaces : j_M := (⟨"BackIndex$Maker", "addPlaces", "(LBackIndex$Index;I)V"⟩, prog_8_method_8_code, 6, (Option.none : Option FieldType), 5, 112)
def mX6_close : j_M := (⟨"BackIndex$Maker", "close", "(I)V"⟩, prog_8_method_10_code, 2, (Option.none : Option FieldType), 3, 67)
def mX6_collect : j_M := (⟨"BackIndex$Maker", "collect", "(LBackIndex$Index;II)V"⟩, prog_8_method_9_code, 5, (Option.none : Option FieldType), 4, 88)
def mX6_copySorted : j_M := (⟨"BackIndex$Maker", "copySorted", "(LBackIndex$Rows;)V"⟩, prog_8_method_5_code, 3, (Option.none : Option FieldType), 2, 47)
def mX6_fill : j_M := (⟨"BackIndex$Maker", "fill", "(LBackIndex$Index;IIII)V"⟩, prog_8_method_2_code, 7, (Option.none : Option FieldType), 6, 137)
def mX6_findLeads : j_M := (⟨"BackIndex$Maker", "findLeads", "(I)V"⟩, prog_8_method_14_code, 5, (Option.none : Option FieldType), 2, 45)
def mX6_init : j_M := (⟨"BackIndex$Maker", "<init>", "(LBackIndex$Kept;LBackIndex$Keys;)V"⟩, prog_8_method_1_code, 3, (Option.none : Option FieldType), 2, 34)
def mX6_listMarks : j_M := (⟨"BackIndex$Maker", "listMarks", "()V"⟩, prog_8_method_4_code, 3, (Option.none : Option FieldType), 1, 21)
def mX6_pageOf : j_M := (⟨"BackIndex$Maker", "pageOf", "(I)I"⟩, prog_8_method_12_code, 2, (Option.some FieldType.int), 1, 21)
def mX6_rankHeads : j_M := (⟨"BackIndex$Maker", "rankHeads", "(I)V"⟩, prog_8_method_3_code, 4, (Option.none : Option FieldType), 4, 98)
def mX6_standAlone : j_M := (⟨"BackIndex$Maker", "standAlone", "(I)V"⟩, prog_8_method_11_code, 2, (Option.none : Option FieldType), 2, 46)
def mX6_translated : j_M := (⟨"BackIndex$Maker", "translated", "(I[I)I"⟩, prog_8_method_7_code, 5, (Option.some FieldType.int), 1, 23)
def mX7_add : j_M := (⟨"BackIndex$Marks", "add", "(IIIIII)I"⟩, prog_9_method_4_code, 7, (Option.some FieldType.int), 2, 43)
def mX7_copyFrom : j_M := (⟨"BackIndex$Marks", "copyFrom", "(LBackIndex$Marks;)V"⟩, prog_9_method_13_code, 3, (Option.none : Option FieldType), 1, 20)
def mX7_countThere : j_M := (⟨"BackIndex$Marks", "countThere", "()I"⟩, prog_9_method_3_code, 3, (Option.some FieldType.int), 0, 0)
def mX7_entryPath : j_M := (⟨"BackIndex$Marks", "entryPath", "(I)I"⟩, prog_9_method_8_code, 2, (Option.some FieldType.int), 2, 45)
def mX7_has : j_M := (⟨"BackIndex$Marks", "has", "(I)Z"⟩, prog_9_method_2_code, 2, (Option.some FieldType.boolean), 0, 0)
def mX7_headAt : j_M := (⟨"BackIndex$Marks", "headAt", "(II)I"⟩, prog_9_method_6_code, 3, (Option.some FieldType.int), 1, 23)
def mX7_init : j_M := (⟨"BackIndex$Marks", "<init>", "()V"⟩, prog_9_method_1_code, 1, (Option.none : Option FieldType), 1, 14)
def mX7_isLead : j_M := (⟨"BackIndex$Marks", "isLead", "(I)Z"⟩, prog_9_method_7_code, 2, (Option.some FieldType.boolean), 1, 21)
def mX7_leadBetween : j_M := (⟨"BackIndex$Marks", "leadBetween", "(II)Z"⟩, prog_9_method_9_code, 6, (Option.some FieldType.boolean), 2, 45)
def mX7_remove : j_M := (⟨"BackIndex$Marks", "remove", "(I)V"⟩, prog_9_method_5_code, 2, (Option.none : Option FieldType), 1, 21)
def mX7_replaceHead : j_M := (⟨"BackIndex$Marks", "replaceHead", "(II)I"⟩, prog_9_method_10_code, 8, (Option.some FieldType.int), 2, 45)
def mX7_shiftBehind : j_M := (⟨"BackIndex$Marks", "shiftBehind", "(II)V"⟩, prog_9_method_11_code, 4, (Option.none : Option FieldType), 0, 0)
def mX7_shiftWithWords : j_M := (⟨"BackIndex$Marks", "shiftWithWords", "(III)V"⟩, prog_9_method_12_code, 7, (Option.none : Option FieldType), 0, 0)
def mX8_append : j_M := (⟨"BackIndex$Parts", "append", "(I)V"⟩, prog_10_method_11_code, 2, (Option.none : Option FieldType), 0, 0)
def mX8_begin : j_M := (⟨"BackIndex$Parts", "begin", "(IIII)Z"⟩, prog_10_method_3_code, 6, (Option.some FieldType.boolean), 1, 23)
def mX8_formOf : j_M := (⟨"BackIndex$Parts", "formOf", "(I)I"⟩, prog_10_method_5_code, 2, (Option.some FieldType.int), 0, 0)
def mX8_init : j_M := (⟨"BackIndex$Parts", "<init>", "()V"⟩, prog_10_method_1_code, 1, (Option.none : Option FieldType), 1, 14)
def mX8_isForm : j_M := (⟨"BackIndex$Parts", "isForm", "(I)Z"⟩, prog_10_method_2_code, 1, (Option.some FieldType.boolean), 0, 0)
def mX8_isLabelled : j_M := (⟨"BackIndex$Parts", "isLabelled", "(IIII)Z"⟩, prog_10_method_7_code, 6, (Option.some FieldType.boolean), 1, 23)
def mX8_numberOf : j_M := (⟨"BackIndex$Parts", "numberOf", "(II)I"⟩, prog_10_method_6_code, 3, (Option.some FieldType.int), 0, 0)
def mX8_partOf : j_M := (⟨"BackIndex$Parts", "partOf", "(I)I"⟩, prog_10_method_4_code, 4, (Option.some FieldType.int), 0, 0)
def mX8_write : j_M := (⟨"BackIndex$Parts", "write", "(I)I"⟩, prog_10_method_8_code, 4, (Option.some FieldType.int), 2, 44)
def mX8_writeRoman : j_M := (⟨"BackIndex$Parts", "writeRoman", "(I)V"⟩, prog_10_method_9_code, 4, (Option.none : Option FieldType), 1, 21)
def mX8_writeWhole : j_M := (⟨"BackIndex$Parts", "writeWhole", "(I)V"⟩, prog_10_method_10_code, 3, (Option.none : Option FieldType), 1, 21)
def mX9_append : j_M := (⟨"BackIndex$Rows", "append", "(II)V"⟩, prog_11_method_5_code, 3, (Option.none : Option FieldType), 0, 0)
def mX9_beginsAlike : j_M := (⟨"BackIndex$Rows", "beginsAlike", "(ILBackIndex$Rows;I)Z"⟩, prog_11_method_12_code, 5, (Option.some FieldType.boolean), 1, 23)
def mX9_byBytes : j_M := (⟨"BackIndex$Rows", "byBytes", "(ILBackIndex$Rows;I)I"⟩, prog_11_method_11_code, 6, (Option.some FieldType.int), 1, 23)
def mX9_clear : j_M := (⟨"BackIndex$Rows", "clear", "(I)V"⟩, prog_11_method_4_code, 2, (Option.none : Option FieldType), 0, 0)
def mX9_copyAll : j_M := (⟨"BackIndex$Rows", "copyAll", "(LBackIndex$Rows;)V"⟩, prog_11_method_7_code, 2, (Option.none : Option FieldType), 1, 21)
def mX9_copyRow : j_M := (⟨"BackIndex$Rows", "copyRow", "(ILBackIndex$Rows;I)V"⟩, prog_11_method_6_code, 5, (Option.none : Option FieldType), 1, 23)
def mX9_countOf : j_M := (⟨"BackIndex$Rows", "countOf", "(I)I"⟩, prog_11_method_2_code, 2, (Option.some FieldType.int), 0, 0)
def mX9_firstBlank : j_M := (⟨"BackIndex$Rows", "firstBlank", "(I)I"⟩, prog_11_method_8_code, 3, (Option.some FieldType.int), 1, 23)
def mX9_init : j_M := (⟨"BackIndex$Rows", "<init>", "(I)V"⟩, prog_11_method_1_code, 3, (Option.none : Option FieldType), 1, 21)
def mX9_isOfLetters : j_M := (⟨"BackIndex$Rows", "isOfLetters", "(I)Z"⟩, prog_11_method_10_code, 3, (Option.some FieldType.boolean), 2, 40)
def mX9_isTidy : j_M := (⟨"BackIndex$Rows", "isTidy", "(I)Z"⟩, prog_11_method_9_code, 5, (Option.some FieldType.boolean), 1, 23)
def mX9_signAt : j_M := (⟨"BackIndex$Rows", "signAt", "(II)I"⟩, prog_11_method_3_code, 4, (Option.some FieldType.int), 0, 0)
theorem fl_X11_12 : j_FL "BackIndex" 12 11 0 (.object "BackIndex$Kept") true false := ⟨RX11, TX11, 15, tyX11, ciX11, by decide, rfl, rfl, Or.inl ⟨rfl, rfl, (j_me2 105 (by decide +kernel) rfl)⟩⟩
theorem fl_X11_16 : j_FL "BackIndex" 16 4 2 (.object "BackIndex$Heads") true true := ⟨RX4, TX4, 4, tyX4, ciX4, by decide, rfl, rfl, Or.inr ⟨rfl, "BackIndex", (j_mn1 114 (by decide +kernel) rfl)⟩⟩
theorem fl_X11_20 : j_FL "BackIndex" 20 11 1 (.object "BackIndex$Heads") true false := ⟨RX11, TX11, 15, tyX11, ciX11, by decide, rfl, rfl, Or.inl ⟨rfl, rfl, (j_me2 106 (by decide +kernel) rfl)⟩⟩
theorem fl_X11_21 : j_FL "BackIndex" 21 4 3 (.object "BackIndex$Marks") true true := ⟨RX4, TX4, 4, tyX4, ciX4, by decide, rfl, rfl, Or.inr ⟨rfl, "BackIndex", (j_mn1 117 (by decide +kernel) rfl)⟩⟩
theorem fl_X11_25 : j_FL "BackIndex" 25 11 2 (.object "BackIndex$Marks") true false := ⟨RX11, TX11, 15, tyX11, ciX11, by decide, rfl, rfl, Or.inl ⟨rfl, rfl, (j_me2 107 (by decide +kernel) rfl)⟩⟩
theorem fl_X11_29 : j_FL "BackIndex" 29 11 3 (.object "BackIndex$Acts") true false := ⟨RX11, TX11, 15, tyX11, ciX11, by decide, rfl, rfl, Or.inl ⟨rfl, rfl, (j_me2 108 (by decide +kernel) rfl)⟩⟩
theorem fl_X11_36 : j_FL "BackIndex" 36 11 4 (.object "BackIndex$Parts") true false := ⟨RX11, TX11, 15, tyX11, ciX11, by decide, rfl, rfl, Or.inl ⟨rfl, rfl, (j_me2 109 (by decide +kernel) rfl)⟩⟩
theorem fl_X11_45 : j_FL "BackIndex" 45 11 5 (.object "BackIndex$Rows") true false := ⟨RX11, TX11, 15, tyX11, ciX11, by decide, rfl, rfl, Or.inl ⟨rfl, rfl, (j_me2 110 (by decide +kernel) rfl)⟩⟩
theorem fl_X11_52 : j_FL "BackIndex" 52 11 6 (.object "BackIndex$Keys") true false := ⟨RX11, TX11, 15, tyX11, ciX11, by decide, rfl, rfl, Or.inl ⟨rfl, rfl, (j_me2 111 (by decide +kernel) rfl)⟩⟩
theorem fl_X11_61 : j_FL "BackIndex" 61 11 7 (.object "BackIndex$Maker") true false := ⟨RX11, TX11, 15, tyX11, ciX11, by decide, rfl, rfl, Or.inl ⟨rfl, rfl, (j_me2 112 (by decide +kernel) rfl)⟩⟩
theorem fl_X11_68 : j_FL "BackIndex" 68 11 8 (.object "BackIndex$Index") false false := ⟨RX11, TX11, 15, tyX11, ciX11, by decide, rfl, rfl, Or.inl ⟨rfl, rfl, (j_me2 113 (by decide +kernel) rfl)⟩⟩
theorem fl_X11_72 : j_FL "BackIndex" 72 11 9 (.object "BackIndex$Index") false false := ⟨RX11, TX11, 15, tyX11, ciX11, by decide, rfl, rfl, Or.inl ⟨rfl, rfl, (j_me2 114 (by decide +kernel) rfl)⟩⟩
theorem fl_X11_75 : j_FL "BackIndex" 75 11 10 .int false false := ⟨RX11, TX11, 15, tyX11, ciX11, by decide, rfl, rfl, Or.inl ⟨rfl, rfl, (j_me2 115 (by decide +kernel) rfl)⟩⟩
theorem fl_X11_79 : j_FL "BackIndex" 79 11 11 .int false false := ⟨RX11, TX11, 15, tyX11, ciX11, by decide, rfl, rfl, Or.inl ⟨rfl, rfl, (j_me2 116 (by decide +kernel) rfl)⟩⟩
theorem fl_X11_82 : j_FL "BackIndex" 82 11 12 .int false false := ⟨RX11, TX11, 15, tyX11, ciX11, by decide, rfl, rfl, Or.inl ⟨rfl, rfl, (j_me2 117 (by decide +kernel) rfl)⟩⟩
theorem fl_X11_85 : j_FL "BackIndex" 85 11 13 .int false false := ⟨RX11, TX11, 15, tyX11, ciX11, by decide, rfl, rfl, Or.inl ⟨rfl, rfl, (j_me2 118 (by decide +kernel) rfl)⟩⟩
theorem fl_X11_88 : j_FL "BackIndex" 88 11 14 .int false false := ⟨RX11, TX11, 15, tyX11, ciX11, by decide, rfl, rfl, Or.inl ⟨rfl, rfl, (j_me2 119 (by decide +kernel) rfl)⟩⟩
theorem fl_X11_95 : j_FL "BackIndex" 95 4 1 .int false true := ⟨RX4, TX4, 4, tyX4, ciX4, by decide, rfl, rfl, Or.inr ⟨rfl, "BackIndex", (j_mn1 113 (by decide +kernel) rfl)⟩⟩
theorem fl_X11_124 : j_FL "BackIndex" 124 4 0 (.array .int) true true := ⟨RX4, TX4, 4, tyX4, ciX4, by decide, rfl, rfl, Or.inr ⟨rfl, "BackIndex", (j_mn1 111 (by decide +kernel) rfl)⟩⟩
theorem fl_X11_135 : j_FL "BackIndex" 135 8 4 .int false true := ⟨RX8, TX8, 7, tyX8, ciX8, by decide, rfl, rfl, Or.inr ⟨rfl, "BackIndex", (j_mn1 159 (by decide +kernel) rfl)⟩⟩
theorem fl_X11_144 : j_FL "BackIndex" 144 8 5 (.array .int) true true := ⟨RX8, TX8, 7, tyX8, ciX8, by decide, rfl, rfl, Or.inr ⟨rfl, "BackIndex", (j_mn1 161 (by decide +kernel) rfl)⟩⟩
theorem fl_X11_171 : j_FL "BackIndex" 171 2 3 .int false true := ⟨RX2, TX2, 4, tyX2, ciX2, by decide, rfl, rfl, Or.inr ⟨rfl, "BackIndex", (j_mn1 66 (by decide +kernel) rfl)⟩⟩
theorem fl_X11_186 : j_FL "BackIndex" 186 2 1 (.object "BackIndex$Rows") true true := ⟨RX2, TX2, 4, tyX2, ciX2, by decide, rfl, rfl, Or.inr ⟨rfl, "BackIndex", (j_mn1 62 (by decide +kernel) rfl)⟩⟩
theorem fl_X11_203 : j_FL "BackIndex" 203 5 1 .int false true := ⟨RX5, TX5, 4, tyX5, ciX5, by decide, rfl, rfl, Or.inr ⟨rfl, "BackIndex", (j_mn1 208 (by decide +kernel) rfl)⟩⟩
theorem fl_X11_218 : j_FL "BackIndex" 218 2 0 (.object "BackIndex$Rows") true true := ⟨RX2, TX2, 4, tyX2, ciX2, by decide, rfl, rfl, Or.inr ⟨rfl, "BackIndex", (j_mn1 59 (by decide +kernel) rfl)⟩⟩
theorem fl_X11_236 : j_FL "BackIndex" 236 7 5 .int false true := ⟨RX7, TX7, 6, tyX7, ciX7, by decide, rfl, rfl, Or.inr ⟨rfl, "BackIndex", (j_mn1 96 (by decide +kernel) rfl)⟩⟩
theorem fl_X11_242 : j_FL "BackIndex" 242 7 0 (.array .int) true true := ⟨RX7, TX7, 6, tyX7, ciX7, by decide, rfl, rfl, Or.inr ⟨rfl, "BackIndex", (j_mn1 85 (by decide +kernel) rfl)⟩⟩
theorem fl_X11_245 : j_FL "BackIndex" 245 7 1 (.array .int) true true := ⟨RX7, TX7, 6, tyX7, ciX7, by decide, rfl, rfl, Or.inr ⟨rfl, "BackIndex", (j_mn1 88 (by decide +kernel) rfl)⟩⟩
theorem fl_X11_251 : j_FL "BackIndex" 251 7 3 (.array .int) true true := ⟨RX7, TX7, 6, tyX7, ciX7, by decide, rfl, rfl, Or.inr ⟨rfl, "BackIndex", (j_mn1 93 (by decide +kernel) rfl)⟩⟩
theorem fl_X11_285 : j_FL "BackIndex" 285 3 0 .int false true := ⟨RX3, TX3, 11, tyX3, ciX3, by decide, rfl, rfl, Or.inr ⟨rfl, "BackIndex", (j_mn2 58 (by decide +kernel) rfl)⟩⟩
theorem fl_X11_287 : j_FL "BackIndex" 287 3 1 (.array .int) true true := ⟨RX3, TX3, 11, tyX3, ciX3, by decide, rfl, rfl, Or.inr ⟨rfl, "BackIndex", (j_mn2 61 (by decide +kernel) rfl)⟩⟩
theorem fl_X11_305 : j_FL "BackIndex" 305 3 4 (.array .int) true true := ⟨RX3, TX3, 11, tyX3, ciX3, by decide, rfl, rfl, Or.inr ⟨rfl, "BackIndex", (j_mn2 68 (by decide +kernel) rfl)⟩⟩
theorem fl_X11_311 : j_FL "BackIndex" 311 3 6 (.array .int) true true := ⟨RX3, TX3, 11, tyX3, ciX3, by decide, rfl, rfl, Or.inr ⟨rfl, "BackIndex", (j_mn2 72 (by decide +kernel) rfl)⟩⟩
theorem fl_X11_324 : j_FL "BackIndex" 324 3 10 (.object "BackIndex$Rows") true true := ⟨RX3, TX3, 11, tyX3, ciX3, by decide, rfl, rfl, Or.inr ⟨rfl, "BackIndex", (j_mn2 81 (by decide +kernel) rfl)⟩⟩
theorem fl_X11_330 : j_FL "BackIndex" 330 3 9 .int false true := ⟨RX3, TX3, 11, tyX3, ciX3, by decide, rfl, rfl, Or.inr ⟨rfl, "BackIndex", (j_mn2 78 (by decide +kernel) rfl)⟩⟩
theorem fl_X11_333 : j_FL "BackIndex" 333 3 8 (.array .int) true true := ⟨RX3, TX3, 11, tyX3, ciX3, by decide, rfl, rfl, Or.inr ⟨rfl, "BackIndex", (j_mn2 76 (by decide +kernel) rfl)⟩⟩
theorem fl_X11_365 : j_FL "BackIndex" 365 0 2 .int false true := ⟨RX0, TX0, 3, tyX0, ciX0, by decide, rfl, rfl, Or.inr ⟨rfl, "BackIndex", (j_mn1 140 (by decide +kernel) rfl)⟩⟩
theorem fl_X0_11 : j_FL "BackIndex$Acts" 11 0 0 (.array (.object "BackIndex$Kept")) true false := ⟨RX0, TX0, 3, tyX0, ciX0, by decide, rfl, rfl, Or.inl ⟨rfl, rfl, (j_me1 137 (by decide +kernel) rfl)⟩⟩
theorem fl_X0_17 : j_FL "BackIndex$Acts" 17 0 1 .int false false := ⟨RX0, TX0, 3, tyX0, ciX0, by decide, rfl, rfl, Or.inl ⟨rfl, rfl, (j_me1 138 (by decide +kernel) rfl)⟩⟩
theorem fl_X0_21 : j_FL "BackIndex$Acts" 21 0 2 .int false false := ⟨RX0, TX0, 3, tyX0, ciX0, by decide, rfl, rfl, Or.inl ⟨rfl, rfl, (j_me1 139 (by decide +kernel) rfl)⟩⟩
theorem fl_X1_9 : j_FL "BackIndex$Bits" 9 1 0 .int false false := ⟨RX1, TX1, 3, tyX1, ciX1, by decide, rfl, rfl, Or.inl ⟨rfl, rfl, (j_me1 194 (by decide +kernel) rfl)⟩⟩
theorem fl_X1_15 : j_FL "BackIndex$Bits" 15 1 1 .int false false := ⟨RX1, TX1, 3, tyX1, ciX1, by decide, rfl, rfl, Or.inl ⟨rfl, rfl, (j_me1 195 (by decide +kernel) rfl)⟩⟩
theorem fl_X1_18 : j_FL "BackIndex$Bits" 18 1 2 .long false false := ⟨RX1, TX1, 3, tyX1, ciX1, by decide, rfl, rfl, Or.inl ⟨rfl, rfl, (j_me1 197 (by decide +kernel) rfl)⟩⟩
theorem fl_X2_14 : j_FL "BackIndex$Heads" 14 2 0 (.object "BackIndex$Rows") true false := ⟨RX2, TX2, 4, tyX2, ciX2, by decide, rfl, rfl, Or.inl ⟨rfl, rfl, (j_me1 56 (by decide +kernel) rfl)⟩⟩
theorem fl_X2_20 : j_FL "BackIndex$Heads" 20 2 1 (.object "BackIndex$Rows") true false := ⟨RX2, TX2, 4, tyX2, ciX2, by decide, rfl, rfl, Or.inl ⟨rfl, rfl, (j_me1 60 (by decide +kernel) rfl)⟩⟩
theorem fl_X2_23 : j_FL "BackIndex$Heads" 23 2 2 (.array .boolean) true false := ⟨RX2, TX2, 4, tyX2, ciX2, by decide, rfl, rfl, Or.inl ⟨rfl, rfl, (j_me1 63 (by decide +kernel) rfl)⟩⟩
theorem fl_X2_27 : j_FL "BackIndex$Heads" 27 2 3 .int false false := ⟨RX2, TX2, 4, tyX2, ciX2, by decide, rfl, rfl, Or.inl ⟨rfl, rfl, (j_me1 64 (by decide +kernel) rfl)⟩⟩
theorem fl_X3_9 : j_FL "BackIndex$Index" 9 3 0 .int false false := ⟨RX3, TX3, 11, tyX3, ciX3, by decide, rfl, rfl, Or.inl ⟨rfl, rfl, (j_me2 56 (by decide +kernel) rfl)⟩⟩
theorem fl_X3_15 : j_FL "BackIndex$Index" 15 3 1 (.array .int) true false := ⟨RX3, TX3, 11, tyX3, ciX3, by decide, rfl, rfl, Or.inl ⟨rfl, rfl, (j_me2 59 (by decide +kernel) rfl)⟩⟩
theorem fl_X3_19 : j_FL "BackIndex$Index" 19 3 2 (.array .int) true false := ⟨RX3, TX3, 11, tyX3, ciX3, by decide, rfl, rfl, Or.inl ⟨rfl, rfl, (j_me2 62 (by decide +kernel) rfl)⟩⟩
theorem fl_X3_22 : j_FL "BackIndex$Index" 22 3 3 (.array .int) true false := ⟨RX3, TX3, 11, tyX3, ciX3, by decide, rfl, rfl, Or.inl ⟨rfl, rfl, (j_me2 64 (by decide +kernel) rfl)⟩⟩
theorem fl_X3_25 : j_FL "BackIndex$Index" 25 3 4 (.array .int) true false := ⟨RX3, TX3, 11, tyX3, ciX3, by decide, rfl, rfl, Or.inl ⟨rfl, rfl, (j_me2 66 (by decide +kernel) rfl)⟩⟩
theorem fl_X3_28 : j_FL "BackIndex$Index" 28 3 5 .int false false := ⟨RX3, TX3, 11, tyX3, ciX3, by decide, rfl, rfl, Or.inl ⟨rfl, rfl, (j_me2 69 (by decide +kernel) rfl)⟩⟩
theorem fl_X3_31 : j_FL "BackIndex$Index" 31 3 6 (.array .int) true false := ⟨RX3, TX3, 11, tyX3, ciX3, by decide, rfl, rfl, Or.inl ⟨rfl, rfl, (j_me2 71 (by decide +kernel) rfl)⟩⟩
theorem fl_X3_34 : j_FL "BackIndex$Index" 34 3 7 .int false false := ⟨RX3, TX3, 11, tyX3, ciX3, by decide, rfl, rfl, Or.inl ⟨rfl, rfl, (j_me2 73 (by decide +kernel) rfl)⟩⟩
theorem fl_X3_37 : j_FL "BackIndex$Index" 37 3 8 (.array .int) true false := ⟨RX3, TX3, 11, tyX3, ciX3, by decide, rfl, rfl, Or.inl ⟨rfl, rfl, (j_me2 75 (by decide +kernel) rfl)⟩⟩
theorem fl_X3_40 : j_FL "BackIndex$Index" 40 3 9 .int false false := ⟨RX3, TX3, 11, tyX3, ciX3, by decide, rfl, rfl, Or.inl ⟨rfl, rfl, (j_me2 77 (by decide +kernel) rfl)⟩⟩
theorem fl_X3_48 : j_FL "BackIndex$Index" 48 3 10 (.object "BackIndex$Rows") true false := ⟨RX3, TX3, 11, tyX3, ciX3, by decide, rfl, rfl, Or.inl ⟨rfl, rfl, (j_me2 79 (by decide +kernel) rfl)⟩⟩
theorem sl_X3_83 : Cond.fieldLink "BackIndex$Index" 83 "BackIndex$Index" "PLACE_RANKS" "[I" ∈ j_wg := (j_me4 204 (by decide +kernel) rfl)
theorem fl_X4_9 : j_FL "BackIndex$Kept" 9 4 0 (.array .int) true false := ⟨RX4, TX4, 4, tyX4, ciX4, by decide, rfl, rfl, Or.inl ⟨rfl, rfl, (j_me1 110 (by decide +kernel) rfl)⟩⟩
theorem fl_X4_15 : j_FL "BackIndex$Kept" 15 4 1 .int false false := ⟨RX4, TX4, 4, tyX4, ciX4, by decide, rfl, rfl, Or.inl ⟨rfl, rfl, (j_me1 112 (by decide +kernel) rfl)⟩⟩
theorem fl_X4_22 : j_FL "BackIndex$Kept" 22 4 2 (.object "BackIndex$Heads") true false := ⟨RX4, TX4, 4, tyX4, ciX4, by decide, rfl, rfl, Or.inl ⟨rfl, rfl, (j_me1 115 (by decide +kernel) rfl)⟩⟩
theorem fl_X4_29 : j_FL "BackIndex$Kept" 29 4 3 (.object "BackIndex$Marks") true false := ⟨RX4, TX4, 4, tyX4, ciX4, by decide, rfl, rfl, Or.inl ⟨rfl, rfl, (j_me1 118 (by decide +kernel) rfl)⟩⟩
theorem fl_X5_14 : j_FL "BackIndex$Keys" 14 5 0 (.object "BackIndex$Rows") true false := ⟨RX5, TX5, 4, tyX5, ciX5, by decide, rfl, rfl, Or.inl ⟨rfl, rfl, (j_me1 206 (by decide +kernel) rfl)⟩⟩
theorem fl_X5_20 : j_FL "BackIndex$Keys" 20 5 1 .int false false := ⟨RX5, TX5, 4, tyX5, ciX5, by decide, rfl, rfl, Or.inl ⟨rfl, rfl, (j_me1 207 (by decide +kernel) rfl)⟩⟩
theorem fl_X5_27 : j_FL "BackIndex$Keys" 27 5 2 (.object "BackIndex$Bits") true false := ⟨RX5, TX5, 4, tyX5, ciX5, by decide, rfl, rfl, Or.inl ⟨rfl, rfl, (j_me1 209 (by decide +kernel) rfl)⟩⟩
theorem fl_X5_31 : j_FL "BackIndex$Keys" 31 5 3 (.object "BackIndex$Bits") true false := ⟨RX5, TX5, 4, tyX5, ciX5, by decide, rfl, rfl, Or.inl ⟨rfl, rfl, (j_me1 210 (by decide +kernel) rfl)⟩⟩
theorem fl_X5_63 : j_FL "BackIndex$Keys" 63 1 1 .int false true := ⟨RX1, TX1, 3, tyX1, ciX1, by decide, rfl, rfl, Or.inr ⟨rfl, "BackIndex", (j_mn1 196 (by decide +kernel) rfl)⟩⟩
theorem fl_X5_72 : j_FL "BackIndex$Keys" 72 1 2 .long false true := ⟨RX1, TX1, 3, tyX1, ciX1, by decide, rfl, rfl, Or.inr ⟨rfl, "BackIndex", (j_mn1 198 (by decide +kernel) rfl)⟩⟩
theorem fl_X5_81 : j_FL "BackIndex$Keys" 81 2 0 (.object "BackIndex$Rows") true true := ⟨RX2, TX2, 4, tyX2, ciX2, by decide, rfl, rfl, Or.inr ⟨rfl, "BackIndex", (j_mn1 58 (by decide +kernel) rfl)⟩⟩
theorem fl_X6_9 : j_FL "BackIndex$Maker" 9 6 2 (.array .int) true false := ⟨RX6, TX6, 14, tyX6, ciX6, by decide, rfl, rfl, Or.inl ⟨rfl, rfl, (j_me2 7 (by decide +kernel) rfl)⟩⟩
theorem fl_X6_15 : j_FL "BackIndex$Maker" 15 6 3 (.array .int) true false := ⟨RX6, TX6, 14, tyX6, ciX6, by decide, rfl, rfl, Or.inl ⟨rfl, rfl, (j_me2 8 (by decide +kernel) rfl)⟩⟩
theorem fl_X6_18 : j_FL "BackIndex$Maker" 18 6 4 .int false false := ⟨RX6, TX6, 14, tyX6, ciX6, by decide, rfl, rfl, Or.inl ⟨rfl, rfl, (j_me2 9 (by decide +kernel) rfl)⟩⟩
theorem fl_X6_22 : j_FL "BackIndex$Maker" 22 6 5 (.array .int) true false := ⟨RX6, TX6, 14, tyX6, ciX6, by decide, rfl, rfl, Or.inl ⟨rfl, rfl, (j_me2 10 (by decide +kernel) rfl)⟩⟩
theorem fl_X6_25 : j_FL "BackIndex$Maker" 25 6 6 .int false false := ⟨RX6, TX6, 14, tyX6, ciX6, by decide, rfl, rfl, Or.inl ⟨rfl, rfl, (j_me2 11 (by decide +kernel) rfl)⟩⟩
theorem fl_X6_28 : j_FL "BackIndex$Maker" 28 6 7 (.array .boolean) true false := ⟨RX6, TX6, 14, tyX6, ciX6, by decide, rfl, rfl, Or.inl ⟨rfl, rfl, (j_me2 12 (by decide +kernel) rfl)⟩⟩
theorem fl_X6_32 : j_FL "BackIndex$Maker" 32 6 8 (.array .int) true false := ⟨RX6, TX6, 14, tyX6, ciX6, by decide, rfl, rfl, Or.inl ⟨rfl, rfl, (j_me2 13 (by decide +kernel) rfl)⟩⟩
theorem fl_X6_38 : j_FL "BackIndex$Maker" 38 6 9 (.object "BackIndex$Runs") true false := ⟨RX6, TX6, 14, tyX6, ciX6, by decide, rfl, rfl, Or.inl ⟨rfl, rfl, (j_me2 14 (by decide +kernel) rfl)⟩⟩
theorem fl_X6_42 : j_FL "BackIndex$Maker" 42 6 10 .int false false := ⟨RX6, TX6, 14, tyX6, ciX6, by decide, rfl, rfl, Or.inl ⟨rfl, rfl, (j_me2 15 (by decide +kernel) rfl)⟩⟩
theorem fl_X6_45 : j_FL "BackIndex$Maker" 45 6 11 .int false false := ⟨RX6, TX6, 14, tyX6, ciX6, by decide, rfl, rfl, Or.inl ⟨rfl, rfl, (j_me2 16 (by decide +kernel) rfl)⟩⟩
theorem fl_X6_48 : j_FL "BackIndex$Maker" 48 6 12 .int false false := ⟨RX6, TX6, 14, tyX6, ciX6, by decide, rfl, rfl, Or.inl ⟨rfl, rfl, (j_me2 17 (by decide +kernel) rfl)⟩⟩
theorem fl_X6_51 : j_FL "BackIndex$Maker" 51 6 13 .int false false := ⟨RX6, TX6, 14, tyX6, ciX6, by decide, rfl, rfl, Or.inl ⟨rfl, rfl, (j_me2 18 (by decide +kernel) rfl)⟩⟩
theorem fl_X6_54 : j_FL "BackIndex$Maker" 54 6 0 (.object "BackIndex$Kept") true false := ⟨RX6, TX6, 14, tyX6, ciX6, by decide, rfl, rfl, Or.inl ⟨rfl, rfl, (j_me2 5 (by decide +kernel) rfl)⟩⟩
theorem fl_X6_58 : j_FL "BackIndex$Maker" 58 6 1 (.object "BackIndex$Keys") true false := ⟨RX6, TX6, 14, tyX6, ciX6, by decide, rfl, rfl, Or.inl ⟨rfl, rfl, (j_me2 6 (by decide +kernel) rfl)⟩⟩
theorem fl_X6_74 : j_FL "BackIndex$Maker" 74 3 10 (.object "BackIndex$Rows") true true := ⟨RX3, TX3, 11, tyX3, ciX3, by decide, rfl, rfl, Or.inr ⟨rfl, "BackIndex", (j_mn2 80 (by decide +kernel) rfl)⟩⟩
theorem fl_X6_78 : j_FL "BackIndex$Maker" 78 4 2 (.object "BackIndex$Heads") true true := ⟨RX4, TX4, 4, tyX4, ciX4, by decide, rfl, rfl, Or.inr ⟨rfl, "BackIndex", (j_mn1 116 (by decide +kernel) rfl)⟩⟩
theorem fl_X6_84 : j_FL "BackIndex$Maker" 84 2 0 (.object "BackIndex$Rows") true true := ⟨RX2, TX2, 4, tyX2, ciX2, by decide, rfl, rfl, Or.inr ⟨rfl, "BackIndex", (j_mn1 57 (by decide +kernel) rfl)⟩⟩
theorem fl_X6_102 : j_FL "BackIndex$Maker" 102 3 0 .int false true := ⟨RX3, TX3, 11, tyX3, ciX3, by decide, rfl, rfl, Or.inr ⟨rfl, "BackIndex", (j_mn2 57 (by decide +kernel) rfl)⟩⟩
theorem fl_X6_118 : j_FL "BackIndex$Maker" 118 2 3 .int false true := ⟨RX2, TX2, 4, tyX2, ciX2, by decide, rfl, rfl, Or.inr ⟨rfl, "BackIndex", (j_mn1 65 (by decide +kernel) rfl)⟩⟩
theorem fl_X6_131 : j_FL "BackIndex$Maker" 131 4 3 (.object "BackIndex$Marks") true true := ⟨RX4, TX4, 4, tyX4, ciX4, by decide, rfl, rfl, Or.inr ⟨rfl, "BackIndex", (j_mn1 119 (by decide +kernel) rfl)⟩⟩
theorem fl_X6_138 : j_FL "BackIndex$Maker" 138 7 1 (.array .int) true true := ⟨RX7, TX7, 6, tyX7, ciX7, by decide, rfl, rfl, Or.inr ⟨rfl, "BackIndex", (j_mn1 87 (by decide +kernel) rfl)⟩⟩
theorem fl_X6_141 : j_FL "BackIndex$Maker" 141 2 1 (.object "BackIndex$Rows") true true := ⟨RX2, TX2, 4, tyX2, ciX2, by decide, rfl, rfl, Or.inr ⟨rfl, "BackIndex", (j_mn1 61 (by decide +kernel) rfl)⟩⟩
theorem fl_X6_165 : j_FL "BackIndex$Maker" 165 3 1 (.array .int) true true := ⟨RX3, TX3, 11, tyX3, ciX3, by decide, rfl, rfl, Or.inr ⟨rfl, "BackIndex", (j_mn2 60 (by decide +kernel) rfl)⟩⟩
theorem fl_X6_175 : j_FL "BackIndex$Maker" 175 3 5 .int false true := ⟨RX3, TX3, 11, tyX3, ciX3, by decide, rfl, rfl, Or.inr ⟨rfl, "BackIndex", (j_mn2 70 (by decide +kernel) rfl)⟩⟩
theorem fl_X6_178 : j_FL "BackIndex$Maker" 178 10 2 .int false true := ⟨RX10, TX10, 3, tyX10, ciX10, by decide, rfl, rfl, Or.inr ⟨rfl, "BackIndex", (j_mn1 237 (by decide +kernel) rfl)⟩⟩
theorem fl_X6_182 : j_FL "BackIndex$Maker" 182 7 2 (.array .int) true true := ⟨RX7, TX7, 6, tyX7, ciX7, by decide, rfl, rfl, Or.inr ⟨rfl, "BackIndex", (j_mn1 90 (by decide +kernel) rfl)⟩⟩
theorem fl_X6_193 : j_FL "BackIndex$Maker" 193 3 4 (.array .int) true true := ⟨RX3, TX3, 11, tyX3, ciX3, by decide, rfl, rfl, Or.inr ⟨rfl, "BackIndex", (j_mn2 67 (by decide +kernel) rfl)⟩⟩
theorem fl_X6_202 : j_FL "BackIndex$Maker" 202 10 0 (.array .int) true true := ⟨RX10, TX10, 3, tyX10, ciX10, by decide, rfl, rfl, Or.inr ⟨rfl, "BackIndex", (j_mn1 233 (by decide +kernel) rfl)⟩⟩
theorem fl_X6_205 : j_FL "BackIndex$Maker" 205 10 1 (.array .int) true true := ⟨RX10, TX10, 3, tyX10, ciX10, by decide, rfl, rfl, Or.inr ⟨rfl, "BackIndex", (j_mn1 235 (by decide +kernel) rfl)⟩⟩
theorem fl_X6_212 : j_FL "BackIndex$Maker" 212 3 2 (.array .int) true true := ⟨RX3, TX3, 11, tyX3, ciX3, by decide, rfl, rfl, Or.inr ⟨rfl, "BackIndex", (j_mn2 63 (by decide +kernel) rfl)⟩⟩
theorem fl_X6_218 : j_FL "BackIndex$Maker" 218 7 0 (.array .int) true true := ⟨RX7, TX7, 6, tyX7, ciX7, by decide, rfl, rfl, Or.inr ⟨rfl, "BackIndex", (j_mn1 84 (by decide +kernel) rfl)⟩⟩
theorem fl_X6_228 : j_FL "BackIndex$Maker" 228 7 3 (.array .int) true true := ⟨RX7, TX7, 6, tyX7, ciX7, by decide, rfl, rfl, Or.inr ⟨rfl, "BackIndex", (j_mn1 92 (by decide +kernel) rfl)⟩⟩
theorem fl_X6_247 : j_FL "BackIndex$Maker" 247 3 3 (.array .int) true true := ⟨RX3, TX3, 11, tyX3, ciX3, by decide, rfl, rfl, Or.inr ⟨rfl, "BackIndex", (j_mn2 65 (by decide +kernel) rfl)⟩⟩
theorem fl_X6_250 : j_FL "BackIndex$Maker" 250 3 7 .int false true := ⟨RX3, TX3, 11, tyX3, ciX3, by decide, rfl, rfl, Or.inr ⟨rfl, "BackIndex", (j_mn2 74 (by decide +kernel) rfl)⟩⟩
theorem fl_X7_9 : j_FL "BackIndex$Marks" 9 7 0 (.array .int) true false := ⟨RX7, TX7, 6, tyX7, ciX7, by decide, rfl, rfl, Or.inl ⟨rfl, rfl, (j_me1 83 (by decide +kernel) rfl)⟩⟩
theorem fl_X7_15 : j_FL "BackIndex$Marks" 15 7 1 (.array .int) true false := ⟨RX7, TX7, 6, tyX7, ciX7, by decide, rfl, rfl, Or.inl ⟨rfl, rfl, (j_me1 86 (by decide +kernel) rfl)⟩⟩
theorem fl_X7_18 : j_FL "BackIndex$Marks" 18 7 2 (.array .int) true false := ⟨RX7, TX7, 6, tyX7, ciX7, by decide, rfl, rfl, Or.inl ⟨rfl, rfl, (j_me1 89 (by decide +kernel) rfl)⟩⟩
theorem fl_X7_21 : j_FL "BackIndex$Marks" 21 7 3 (.array .int) true false := ⟨RX7, TX7, 6, tyX7, ciX7, by decide, rfl, rfl, Or.inl ⟨rfl, rfl, (j_me1 91 (by decide +kernel) rfl)⟩⟩
theorem fl_X7_24 : j_FL "BackIndex$Marks" 24 7 4 (.array .boolean) true false := ⟨RX7, TX7, 6, tyX7, ciX7, by decide, rfl, rfl, Or.inl ⟨rfl, rfl, (j_me1 94 (by decide +kernel) rfl)⟩⟩
theorem fl_X7_28 : j_FL "BackIndex$Marks" 28 7 5 .int false false := ⟨RX7, TX7, 6, tyX7, ciX7, by decide, rfl, rfl, Or.inl ⟨rfl, rfl, (j_me1 95 (by decide +kernel) rfl)⟩⟩
theorem fl_X8_9 : j_FL "BackIndex$Parts" 9 8 0 (.array .int) true false := ⟨RX8, TX8, 7, tyX8, ciX8, by decide, rfl, rfl, Or.inl ⟨rfl, rfl, (j_me1 154 (by decide +kernel) rfl)⟩⟩
theorem fl_X8_15 : j_FL "BackIndex$Parts" 15 8 1 (.array .int) true false := ⟨RX8, TX8, 7, tyX8, ciX8, by decide, rfl, rfl, Or.inl ⟨rfl, rfl, (j_me1 155 (by decide +kernel) rfl)⟩⟩
theorem fl_X8_18 : j_FL "BackIndex$Parts" 18 8 2 (.array .int) true false := ⟨RX8, TX8, 7, tyX8, ciX8, by decide, rfl, rfl, Or.inl ⟨rfl, rfl, (j_me1 156 (by decide +kernel) rfl)⟩⟩
theorem fl_X8_21 : j_FL "BackIndex$Parts" 21 8 3 (.array .int) true false := ⟨RX8, TX8, 7, tyX8, ciX8, by decide, rfl, rfl, Or.inl ⟨rfl, rfl, (j_me1 157 (by decide +kernel) rfl)⟩⟩
theorem fl_X8_24 : j_FL "BackIndex$Parts" 24 8 4 .int false false := ⟨RX8, TX8, 7, tyX8, ciX8, by decide, rfl, rfl, Or.inl ⟨rfl, rfl, (j_me1 158 (by decide +kernel) rfl)⟩⟩
theorem fl_X8_28 : j_FL "BackIndex$Parts" 28 8 5 (.array .int) true false := ⟨RX8, TX8, 7, tyX8, ciX8, by decide, rfl, rfl, Or.inl ⟨rfl, rfl, (j_me1 160 (by decide +kernel) rfl)⟩⟩
theorem fl_X8_31 : j_FL "BackIndex$Parts" 31 8 6 .int false false := ⟨RX8, TX8, 7, tyX8, ciX8, by decide, rfl, rfl, Or.inl ⟨rfl, rfl, (j_me1 162 (by decide +kernel) rfl)⟩⟩
theorem sl_X8_60 : Cond.fieldLink "BackIndex$Parts" 60 "BackIndex$Parts" "ROMAN_VALUES" "[I" ∈ j_wg := (j_me3 53 (by decide +kernel) rfl)
theorem sl_X8_63 : Cond.fieldLink "BackIndex$Parts" 63 "BackIndex$Parts" "ROMAN_AHEAD" "[C" ∈ j_wg := (j_me3 55 (by decide +kernel) rfl)
theorem sl_X8_67 : Cond.fieldLink "BackIndex$Parts" 67 "BackIndex$Parts" "ROMAN_LETTERS" "[C" ∈ j_wg := (j_me3 61 (by decide +kernel) rfl)
theorem fl_X9_15 : j_FL "BackIndex$Rows" 15 9 0 (.array .byte) true false := ⟨RX9, TX9, 2, tyX9, ciX9, by decide, rfl, rfl, Or.inl ⟨rfl, rfl, (j_me1 47 (by decide +kernel) rfl)⟩⟩
theorem fl_X9_21 : j_FL "BackIndex$Rows" 21 9 1 (.array .int) true false := ⟨RX9, TX9, 2, tyX9, ciX9, by decide, rfl, rfl, Or.inl ⟨rfl, rfl, (j_me1 48 (by decide +kernel) rfl)⟩⟩
theorem fl_X10_9 : j_FL "BackIndex$Runs" 9 10 0 (.array .int) true false := ⟨RX10, TX10, 3, tyX10, ciX10, by decide, rfl, rfl, Or.inl ⟨rfl, rfl, (j_me1 232 (by decide +kernel) rfl)⟩⟩
theorem fl_X10_15 : j_FL "BackIndex$Runs" 15 10 1 (.array .int) true false := ⟨RX10, TX10, 3, tyX10, ciX10, by decide, rfl, rfl, Or.inl ⟨rfl, rfl, (j_me1 234 (by decide +kernel) rfl)⟩⟩
theorem fl_X10_18 : j_FL "BackIndex$Runs" 18 10 2 .int false false := ⟨RX10, TX10, 3, tyX10, ciX10, by decide, rfl, rfl, Or.inl ⟨rfl, rfl, (j_me1 236 (by decide +kernel) rfl)⟩⟩
theorem fl_X12_7 : j_FL "BackIndexModel" 7 12 2 (.array .int) true false := ⟨RX12, TX12, 54, tyX12, ciX12, by decide, rfl, rfl, Or.inl ⟨rfl, rfl, (j_me5 177 (by decide +kernel) rfl)⟩⟩
theorem fl_X12_14 : j_FL "BackIndexModel" 14 12 3 (.array .int) true false := ⟨RX12, TX12, 54, tyX12, ciX12, by decide, rfl, rfl, Or.inl ⟨rfl, rfl, (j_me5 178 (by decide +kernel) rfl)⟩⟩
theorem fl_X12_17 : j_FL "BackIndexModel" 17 12 6 (.array .int) true false := ⟨RX12, TX12, 54, tyX12, ciX12, by decide, rfl, rfl, Or.inl ⟨rfl, rfl, (j_me5 181 (by decide +kernel) rfl)⟩⟩
theorem fl_X12_20 : j_FL "BackIndexModel" 20 12 8 (.array .int) true false := ⟨RX12, TX12, 54, tyX12, ciX12, by decide, rfl, rfl, Or.inl ⟨rfl, rfl, (j_me5 183 (by decide +kernel) rfl)⟩⟩
theorem fl_X12_23 : j_FL "BackIndexModel" 23 12 9 (.array .int) true false := ⟨RX12, TX12, 54, tyX12, ciX12, by decide, rfl, rfl, Or.inl ⟨rfl, rfl, (j_me5 184 (by decide +kernel) rfl)⟩⟩
theorem fl_X12_26 : j_FL "BackIndexModel" 26 12 11 .int false false := ⟨RX12, TX12, 54, tyX12, ciX12, by decide, rfl, rfl, Or.inl ⟨rfl, rfl, (j_me5 186 (by decide +kernel) rfl)⟩⟩
theorem fl_X12_30 : j_FL "BackIndexModel" 30 12 13 (.array .int) true false := ⟨RX12, TX12, 54, tyX12, ciX12, by decide, rfl, rfl, Or.inl ⟨rfl, rfl, (j_me5 188 (by decide +kernel) rfl)⟩⟩
theorem fl_X12_33 : j_FL "BackIndexModel" 33 12 14 (.array .int) true false := ⟨RX12, TX12, 54, tyX12, ciX12, by decide, rfl, rfl, Or.inl ⟨rfl, rfl, (j_me5 189 (by decide +kernel) rfl)⟩⟩
theorem fl_X12_36 : j_FL "BackIndexModel" 36 12 15 (.array .int) true false := ⟨RX12, TX12, 54, tyX12, ciX12, by decide, rfl, rfl, Or.inl ⟨rfl, rfl, (j_me5 190 (by decide +kernel) rfl)⟩⟩
theorem fl_X12_39 : j_FL "BackIndexModel" 39 12 16 (.array .int) true false := ⟨RX12, TX12, 54, tyX12, ciX12, by decide, rfl, rfl, Or.inl ⟨rfl, rfl, (j_me5 191 (by decide +kernel) rfl)⟩⟩
theorem fl_X12_42 : j_FL "BackIndexModel" 42 12 17 (.array .int) true false := ⟨RX12, TX12, 54, tyX12, ciX12, by decide, rfl, rfl, Or.inl ⟨rfl, rfl, (j_me5 192 (by decide +kernel) rfl)⟩⟩
theorem fl_X12_45 : j_FL "BackIndexModel" 45 12 18 (.array .int) true false := ⟨RX12, TX12, 54, tyX12, ciX12, by decide, rfl, rfl, Or.inl ⟨rfl, rfl, (j_me5 193 (by decide +kernel) rfl)⟩⟩
theorem fl_X12_48 : j_FL "BackIndexModel" 48 12 19 (.array .int) true false := ⟨RX12, TX12, 54, tyX12, ciX12, by decide, rfl, rfl, Or.inl ⟨rfl, rfl, (j_me5 194 (by decide +kernel) rfl)⟩⟩
theorem fl_X12_51 : j_FL "BackIndexModel" 51 12 26 (.array .int) true false := ⟨RX12, TX12, 54, tyX12, ciX12, by decide, rfl, rfl, Or.inl ⟨rfl, rfl, (j_me5 201 (by decide +kernel) rfl)⟩⟩
theorem fl_X12_54 : j_FL "BackIndexModel" 54 12 27 (.array .int) true false := ⟨RX12, TX12, 54, tyX12, ciX12, by decide, rfl, rfl, Or.inl ⟨rfl, rfl, (j_me5 202 (by decide +kernel) rfl)⟩⟩
theorem fl_X12_57 : j_FL "BackIndexModel" 57 12 28 (.array .int) true false := ⟨RX12, TX12, 54, tyX12, ciX12, by decide, rfl, rfl, Or.inl ⟨rfl, rfl, (j_me5 203 (by decide +kernel) rfl)⟩⟩
theorem fl_X12_60 : j_FL "BackIndexModel" 60 12 29 (.array .int) true false := ⟨RX12, TX12, 54, tyX12, ciX12, by decide, rfl, rfl, Or.inl ⟨rfl, rfl, (j_me5 204 (by decide +kernel) rfl)⟩⟩
theorem fl_X12_63 : j_FL "BackIndexModel" 63 12 30 (.array .int) true false := ⟨RX12, TX12, 54, tyX12, ciX12, by decide, rfl, rfl, Or.inl ⟨rfl, rfl, (j_me5 205 (by decide +kernel) rfl)⟩⟩
theorem fl_X12_66 : j_FL "BackIndexModel" 66 12 31 (.array .int) true false := ⟨RX12, TX12, 54, tyX12, ciX12, by decide, rfl, rfl, Or.inl ⟨rfl, rfl, (j_me5 206 (by decide +kernel) rfl)⟩⟩
theorem fl_X12_69 : j_FL "BackIndexModel" 69 12 33 (.array .int) true false := ⟨RX12, TX12, 54, tyX12, ciX12, by decide, rfl, rfl, Or.inl ⟨rfl, rfl, (j_me5 208 (by decide +kernel) rfl)⟩⟩
theorem fl_X12_72 : j_FL "BackIndexModel" 72 12 36 (.array .int) true false := ⟨RX12, TX12, 54, tyX12, ciX12, by decide, rfl, rfl, Or.inl ⟨rfl, rfl, (j_me5 211 (by decide +kernel) rfl)⟩⟩
theorem fl_X12_75 : j_FL "BackIndexModel" 75 12 37 (.array .int) true false := ⟨RX12, TX12, 54, tyX12, ciX12, by decide, rfl, rfl, Or.inl ⟨rfl, rfl, (j_me5 212 (by decide +kernel) rfl)⟩⟩
theorem fl_X12_78 : j_FL "BackIndexModel" 78 12 38 (.array .int) true false := ⟨RX12, TX12, 54, tyX12, ciX12, by decide, rfl, rfl, Or.inl ⟨rfl, rfl, (j_me5 213 (by decide +kernel) rfl)⟩⟩
theorem fl_X12_81 : j_FL "BackIndexModel" 81 12 39 (.array .int) true false := ⟨RX12, TX12, 54, tyX12, ciX12, by decide, rfl, rfl, Or.inl ⟨rfl, rfl, (j_me5 214 (by decide +kernel) rfl)⟩⟩
theorem fl_X12_84 : j_FL "BackIndexModel" 84 12 40 (.array .int) true false := ⟨RX12, TX12, 54, tyX12, ciX12, by decide, rfl, rfl, Or.inl ⟨rfl, rfl, (j_me5 215 (by decide +kernel) rfl)⟩⟩
theorem fl_X12_87 : j_FL "BackIndexModel" 87 12 41 (.array .int) true false := ⟨RX12, TX12, 54, tyX12, ciX12, by decide, rfl, rfl, Or.inl ⟨rfl, rfl, (j_me5 216 (by decide +kernel) rfl)⟩⟩
theorem fl_X12_90 : j_FL "BackIndexModel" 90 12 42 (.array .int) true false := ⟨RX12, TX12, 54, tyX12, ciX12, by decide, rfl, rfl, Or.inl ⟨rfl, rfl, (j_me5 217 (by decide +kernel) rfl)⟩⟩
theorem fl_X12_93 : j_FL "BackIndexModel" 93 12 44 (.array .int) true false := ⟨RX12, TX12, 54, tyX12, ciX12, by decide, rfl, rfl, Or.inl ⟨rfl, rfl, (j_me5 219 (by decide +kernel) rfl)⟩⟩
theorem fl_X12_96 : j_FL "BackIndexModel" 96 12 46 (.array .int) true false := ⟨RX12, TX12, 54, tyX12, ciX12, by decide, rfl, rfl, Or.inl ⟨rfl, rfl, (j_me5 221 (by decide +kernel) rfl)⟩⟩
theorem fl_X12_99 : j_FL "BackIndexModel" 99 12 47 (.array .int) true false := ⟨RX12, TX12, 54, tyX12, ciX12, by decide, rfl, rfl, Or.inl ⟨rfl, rfl, (j_me5 222 (by decide +kernel) rfl)⟩⟩
theorem fl_X12_102 : j_FL "BackIndexModel" 102 12 49 (.array .int) true false := ⟨RX12, TX12, 54, tyX12, ciX12, by decide, rfl, rfl, Or.inl ⟨rfl, rfl, (j_me5 224 (by decide +kernel) rfl)⟩⟩
theorem fl_X12_105 : j_FL "BackIndexModel" 105 12 50 (.array .int) true false := ⟨RX12, TX12, 54, tyX12, ciX12, by decide, rfl, rfl, Or.inl ⟨rfl, rfl, (j_me5 225 (by decide +kernel) rfl)⟩⟩
theorem fl_X12_108 : j_FL "BackIndexModel" 108 12 51 (.array .boolean) true false := ⟨RX12, TX12, 54, tyX12, ciX12, by decide, rfl, rfl, Or.inl ⟨rfl, rfl, (j_me5 226 (by decide +kernel) rfl)⟩⟩
theorem fl_X12_112 : j_FL "BackIndexModel" 112 12 52 .int false false := ⟨RX12, TX12, 54, tyX12, ciX12, by decide, rfl, rfl, Or.inl ⟨rfl, rfl, (j_me5 227 (by decide +kernel) rfl)⟩⟩
theorem fl_X12_115 : j_FL "BackIndexModel" 115 12 0 .int false false := ⟨RX12, TX12, 54, tyX12, ciX12, by decide, rfl, rfl, Or.inl ⟨rfl, rfl, (j_me5 175 (by decide +kernel) rfl)⟩⟩
theorem fl_X12_118 : j_FL "BackIndexModel" 118 12 5 .int false false := ⟨RX12, TX12, 54, tyX12, ciX12, by decide, rfl, rfl, Or.inl ⟨rfl, rfl, (j_me5 180 (by decide +kernel) rfl)⟩⟩
theorem fl_X12_121 : j_FL "BackIndexModel" 121 12 4 .int false false := ⟨RX12, TX12, 54, tyX12, ciX12, by decide, rfl, rfl, Or.inl ⟨rfl, rfl, (j_me5 179 (by decide +kernel) rfl)⟩⟩
theorem fl_X12_145 : j_FL "BackIndexModel" 145 12 12 .int false false := ⟨RX12, TX12, 54, tyX12, ciX12, by decide, rfl, rfl, Or.inl ⟨rfl, rfl, (j_me5 187 (by decide +kernel) rfl)⟩⟩
theorem fl_X12_148 : j_FL "BackIndexModel" 148 12 20 .int false false := ⟨RX12, TX12, 54, tyX12, ciX12, by decide, rfl, rfl, Or.inl ⟨rfl, rfl, (j_me5 195 (by decide +kernel) rfl)⟩⟩
theorem fl_X12_155 : j_FL "BackIndexModel" 155 12 21 .int false false := ⟨RX12, TX12, 54, tyX12, ciX12, by decide, rfl, rfl, Or.inl ⟨rfl, rfl, (j_me5 196 (by decide +kernel) rfl)⟩⟩
theorem fl_X12_195 : j_FL "BackIndexModel" 195 12 7 .int false false := ⟨RX12, TX12, 54, tyX12, ciX12, by decide, rfl, rfl, Or.inl ⟨rfl, rfl, (j_me5 182 (by decide +kernel) rfl)⟩⟩
theorem fl_X12_215 : j_FL "BackIndexModel" 215 12 10 .int false false := ⟨RX12, TX12, 54, tyX12, ciX12, by decide, rfl, rfl, Or.inl ⟨rfl, rfl, (j_me5 185 (by decide +kernel) rfl)⟩⟩
theorem fl_X12_227 : j_FL "BackIndexModel" 227 12 22 .int false false := ⟨RX12, TX12, 54, tyX12, ciX12, by decide, rfl, rfl, Or.inl ⟨rfl, rfl, (j_me5 197 (by decide +kernel) rfl)⟩⟩
theorem fl_X12_230 : j_FL "BackIndexModel" 230 12 23 .long false false := ⟨RX12, TX12, 54, tyX12, ciX12, by decide, rfl, rfl, Or.inl ⟨rfl, rfl, (j_me5 198 (by decide +kernel) rfl)⟩⟩
theorem fl_X12_234 : j_FL "BackIndexModel" 234 12 24 .int false false := ⟨RX12, TX12, 54, tyX12, ciX12, by decide, rfl, rfl, Or.inl ⟨rfl, rfl, (j_me5 199 (by decide +kernel) rfl)⟩⟩
theorem fl_X12_275 : j_FL "BackIndexModel" 275 12 1 .int false false := ⟨RX12, TX12, 54, tyX12, ciX12, by decide, rfl, rfl, Or.inl ⟨rfl, rfl, (j_me5 176 (by decide +kernel) rfl)⟩⟩
theorem fl_X12_281 : j_FL "BackIndexModel" 281 12 25 .int false false := ⟨RX12, TX12, 54, tyX12, ciX12, by decide, rfl, rfl, Or.inl ⟨rfl, rfl, (j_me5 200 (by decide +kernel) rfl)⟩⟩
theorem fl_X12_294 : j_FL "BackIndexModel" 294 12 48 .int false false := ⟨RX12, TX12, 54, tyX12, ciX12, by decide, rfl, rfl, Or.inl ⟨rfl, rfl, (j_me5 223 (by decide +kernel) rfl)⟩⟩
theorem fl_X12_297 : j_FL "BackIndexModel" 297 12 43 .int false false := ⟨RX12, TX12, 54, tyX12, ciX12, by decide, rfl, rfl, Or.inl ⟨rfl, rfl, (j_me5 218 (by decide +kernel) rfl)⟩⟩
theorem fl_X12_327 : j_FL "BackIndexModel" 327 12 32 .int false false := ⟨RX12, TX12, 54, tyX12, ciX12, by decide, rfl, rfl, Or.inl ⟨rfl, rfl, (j_me5 207 (by decide +kernel) rfl)⟩⟩
theorem fl_X12_343 : j_FL "BackIndexModel" 343 12 34 .int false false := ⟨RX12, TX12, 54, tyX12, ciX12, by decide, rfl, rfl, Or.inl ⟨rfl, rfl, (j_me5 209 (by decide +kernel) rfl)⟩⟩
theorem fl_X12_359 : j_FL "BackIndexModel" 359 12 35 .int false false := ⟨RX12, TX12, 54, tyX12, ciX12, by decide, rfl, rfl, Or.inl ⟨rfl, rfl, (j_me5 210 (by decide +kernel) rfl)⟩⟩
theorem fl_X12_386 : j_FL "BackIndexModel" 386 12 45 .int false false := ⟨RX12, TX12, 54, tyX12, ciX12, by decide, rfl, rfl, Or.inl ⟨rfl, rfl, (j_me5 220 (by decide +kernel) rfl)⟩⟩
theorem fl_X12_399 : j_FL "BackIndexModel" 399 12 53 .int false false := ⟨RX12, TX12, 54, tyX12, ciX12, by decide, rfl, rfl, Or.inl ⟨rfl, rfl, (j_me5 228 (by decide +kernel) rfl)⟩⟩
theorem cw_JI_compare : Cond.code mJI_compare.1 mJI_compare.2.1 mJI_compare.2.2.1 mJI_compare.2.2.2.1 ∈ j_wg := (j_me3 129 rfl rfl)
theorem cw_JL_compare : Cond.code mJL_compare.1 mJL_compare.2.1 mJL_compare.2.2.1 mJL_compare.2.2.2.1 ∈ j_wg := (j_me3 233 rfl rfl)
theorem cw_JM_max : Cond.code mJM_max.1 mJM_max.2.1 mJM_max.2.2.1 mJM_max.2.2.2.1 ∈ j_wg := (j_me1 46 rfl rfl)
theorem cw_JM_min : Cond.code mJM_min.1 mJM_min.2.1 mJM_min.2.2.1 mJM_min.2.2.2.1 ∈ j_wg := (j_me2 181 rfl rfl)
theorem cw_X0_init : Cond.code mX0_init.1 mX0_init.2.1 mX0_init.2.2.1 mX0_init.2.2.2.1 ∈ j_wg := (j_me1 133 rfl rfl)
theorem cw_X0_restore : Cond.code mX0_restore.1 mX0_restore.2.1 mX0_restore.2.2.1 mX0_restore.2.2.2.1 ∈ j_wg := (j_me5 135 rfl rfl)
theorem cw_X0_save : Cond.code mX0_save.1 mX0_save.2.1 mX0_save.2.2.1 mX0_save.2.2.2.1 ∈ j_wg := (j_me2 162 rfl rfl)
theorem cw_X10_add : Cond.code mX10_add.1 mX10_add.2.1 mX10_add.2.2.1 mX10_add.2.2.2.1 ∈ j_wg := (j_me4 184 rfl rfl)
theorem cw_X10_init : Cond.code mX10_init.1 mX10_init.2.1 mX10_init.2.2.1 mX10_init.2.2.2.1 ∈ j_wg := (j_me1 230 rfl rfl)
theorem cw_X10_isAhead : Cond.code mX10_isAhead.1 mX10_isAhead.2.1 mX10_isAhead.2.2.1 mX10_isAhead.2.2.2.1 ∈ j_wg := (j_me4 188 rfl rfl)
theorem cw_X10_keep : Cond.code mX10_keep.1 mX10_keep.2.1 mX10_keep.2.2.1 mX10_keep.2.2.2.1 ∈ j_wg := (j_me4 217 rfl rfl)
theorem cw_X10_leaveOutInner : Cond.code mX10_leaveOutInner.1 mX10_leaveOutInner.2.1 mX10_leaveOutInner.2.2.1 mX10_leaveOutInner.2.2.2.1 ∈ j_wg := (j_me4 213 rfl rfl)
theorem cw_X10_leaveOutPage : Cond.code mX10_leaveOutPage.1 mX10_leaveOutPage.2.1 mX10_leaveOutPage.2.2.1 mX10_leaveOutPage.2.2.2.1 ∈ j_wg := (j_me4 221 rfl rfl)
theorem cw_X10_melt : Cond.code mX10_melt.1 mX10_melt.2.1 mX10_melt.2.2.1 mX10_melt.2.2.2.1 ∈ j_wg := (j_me4 225 rfl rfl)
theorem cw_X11_about : Cond.code mX11_about.1 mX11_about.2.1 mX11_about.2.2.1 mX11_about.2.2.2.1 ∈ j_wg := (j_me3 182 rfl rfl)
theorem cw_X11_around : Cond.code mX11_around.1 mX11_around.2.1 mX11_around.2.2.1 mX11_around.2.2.2.1 ∈ j_wg := (j_me4 162 rfl rfl)
theorem cw_X11_build : Cond.code mX11_build.1 mX11_build.2.1 mX11_build.2.2.1 mX11_build.2.2.2.1 ∈ j_wg := (j_me4 115 rfl rfl)
theorem cw_X11_byteOf : Cond.code mX11_byteOf.1 mX11_byteOf.2.1 mX11_byteOf.2.2.1 mX11_byteOf.2.2.2.1 ∈ j_wg := (j_me3 85 rfl rfl)
theorem cw_X11_changed : Cond.code mX11_changed.1 mX11_changed.2.1 mX11_changed.2.2.1 mX11_changed.2.2.2.1 ∈ j_wg := (j_me5 99 rfl rfl)
theorem cw_X11_compare : Cond.code mX11_compare.1 mX11_compare.2.1 mX11_compare.2.2.1 mX11_compare.2.2.2.1 ∈ j_wg := (j_me3 196 rfl rfl)
theorem cw_X11_digitsOf : Cond.code mX11_digitsOf.1 mX11_digitsOf.2.1 mX11_digitsOf.2.2.1 mX11_digitsOf.2.2.2.1 ∈ j_wg := (j_me5 115 rfl rfl)
theorem cw_X11_drop : Cond.code mX11_drop.1 mX11_drop.2.1 mX11_drop.2.2.1 mX11_drop.2.2.2.1 ∈ j_wg := (j_me4 57 rfl rfl)
theorem cw_X11_entry : Cond.code mX11_entry.1 mX11_entry.2.1 mX11_entry.2.2.1 mX11_entry.2.2.2.1 ∈ j_wg := (j_me5 51 rfl rfl)
theorem cw_X11_failed : Cond.code mX11_failed.1 mX11_failed.2.1 mX11_failed.2.2.1 mX11_failed.2.2.2.1 ∈ j_wg := (j_me2 218 rfl rfl)
theorem cw_X11_fault : Cond.code mX11_fault.1 mX11_fault.2.1 mX11_fault.2.2.1 mX11_fault.2.2.2.1 ∈ j_wg := (j_me5 155 rfl rfl)
theorem cw_X11_find : Cond.code mX11_find.1 mX11_find.2.1 mX11_find.2.2.1 mX11_find.2.2.2.1 ∈ j_wg := (j_me5 72 rfl rfl)
theorem cw_X11_first : Cond.code mX11_first.1 mX11_first.2.1 mX11_first.2.2.1 mX11_first.2.2.2.1 ∈ j_wg := (j_me5 78 rfl rfl)
theorem cw_X11_flow : Cond.code mX11_flow.1 mX11_flow.2.1 mX11_flow.2.2.1 mX11_flow.2.2.2.1 ∈ j_wg := (j_me3 5 rfl rfl)
theorem cw_X11_folded : Cond.code mX11_folded.1 mX11_folded.2.1 mX11_folded.2.2.1 mX11_folded.2.2.2.1 ∈ j_wg := (j_me3 163 rfl rfl)
theorem cw_X11_hasHeads : Cond.code mX11_hasHeads.1 mX11_hasHeads.2.1 mX11_hasHeads.2.2.1 mX11_hasHeads.2.2.2.1 ∈ j_wg := (j_me4 41 rfl rfl)
theorem cw_X11_hasPage : Cond.code mX11_hasPage.1 mX11_hasPage.2.1 mX11_hasPage.2.2.1 mX11_hasPage.2.2.2.1 ∈ j_wg := (j_me3 29 rfl rfl)
theorem cw_X11_head : Cond.code mX11_head.1 mX11_head.2.1 mX11_head.2.2.1 mX11_head.2.2.2.1 ∈ j_wg := (j_me3 105 rfl rfl)
theorem cw_X11_headOf : Cond.code mX11_headOf.1 mX11_headOf.2.1 mX11_headOf.2.2.1 mX11_headOf.2.2.2.1 ∈ j_wg := (j_me4 17 rfl rfl)
theorem cw_X11_headsIn : Cond.code mX11_headsIn.1 mX11_headsIn.2.1 mX11_headsIn.2.2.1 mX11_headsIn.2.2.2.1 ∈ j_wg := (j_me4 165 rfl rfl)
theorem cw_X11_init : Cond.code mX11_init.1 mX11_init.2.1 mX11_init.2.2.1 mX11_init.2.2.2.1 ∈ j_wg := (j_me1 22 rfl rfl)
theorem cw_X11_isDigit : Cond.code mX11_isDigit.1 mX11_isDigit.2.1 mX11_isDigit.2.2.1 mX11_isDigit.2.2.2.1 ∈ j_wg := (j_me3 221 rfl rfl)
theorem cw_X11_isLetter : Cond.code mX11_isLetter.1 mX11_isLetter.2.1 mX11_isLetter.2.2.1 mX11_isLetter.2.2.2.1 ∈ j_wg := (j_me3 160 rfl rfl)
theorem cw_X11_isNewHead : Cond.code mX11_isNewHead.1 mX11_isNewHead.2.1 mX11_isNewHead.2.2.1 mX11_isNewHead.2.2.2.1 ∈ j_wg := (j_me3 109 rfl rfl)
theorem cw_X11_isWithin : Cond.code mX11_isWithin.1 mX11_isWithin.2.1 mX11_isWithin.2.2.1 mX11_isWithin.2.2.2.1 ∈ j_wg := (j_me2 221 rfl rfl)
theorem cw_X11_label : Cond.code mX11_label.1 mX11_label.2.1 mX11_label.2.2.1 mX11_label.2.2.2.1 ∈ j_wg := (j_me3 25 rfl rfl)
theorem cw_X11_labelSign : Cond.code mX11_labelSign.1 mX11_labelSign.2.1 mX11_labelSign.2.2.1 mX11_labelSign.2.2.2.1 ∈ j_wg := (j_me3 70 rfl rfl)
theorem cw_X11_labelled : Cond.code mX11_labelled.1 mX11_labelled.2.1 mX11_labelled.2.2.1 mX11_labelled.2.2.2.1 ∈ j_wg := (j_me3 74 rfl rfl)
theorem cw_X11_lastDigits : Cond.code mX11_lastDigits.1 mX11_lastDigits.2.1 mX11_lastDigits.2.2.1 mX11_lastDigits.2.2.2.1 ∈ j_wg := (j_me5 121 rfl rfl)
theorem cw_X11_leave : Cond.code mX11_leave.1 mX11_leave.2.1 mX11_leave.2.2.1 mX11_leave.2.2.2.1 ∈ j_wg := (j_me4 79 rfl rfl)
theorem cw_X11_led : Cond.code mX11_led.1 mX11_led.2.1 mX11_led.2.2.1 mX11_led.2.2.2.1 ∈ j_wg := (j_me5 91 rfl rfl)
theorem cw_X11_longer : Cond.code mX11_longer.1 mX11_longer.2.1 mX11_longer.2.2.1 mX11_longer.2.2.2.1 ∈ j_wg := (j_me4 33 rfl rfl)
theorem cw_X11_mark : Cond.code mX11_mark.1 mX11_mark.2.1 mX11_mark.2.2.1 mX11_mark.2.2.2.1 ∈ j_wg := (j_me4 37 rfl rfl)
theorem cw_X11_marked : Cond.code mX11_marked.1 mX11_marked.2.1 mX11_marked.2.2.1 mX11_marked.2.2.2.1 ∈ j_wg := (j_me4 66 rfl rfl)
theorem cw_X11_match : Cond.code mX11_match.1 mX11_match.2.1 mX11_match.2.2.1 mX11_match.2.2.2.1 ∈ j_wg := (j_me5 147 rfl rfl)
theorem cw_X11_meld : Cond.code mX11_meld.1 mX11_meld.2.1 mX11_meld.2.2.1 mX11_meld.2.2.2.1 ∈ j_wg := (j_me4 2 rfl rfl)
theorem cw_X11_move : Cond.code mX11_move.1 mX11_move.2.1 mX11_move.2.2.1 mX11_move.2.2.2.1 ∈ j_wg := (j_me2 214 rfl rfl)
theorem cw_X11_name : Cond.code mX11_name.1 mX11_name.2.1 mX11_name.2.2.1 mX11_name.2.2.2.1 ∈ j_wg := (j_me3 82 rfl rfl)
theorem cw_X11_pageCount : Cond.code mX11_pageCount.1 mX11_pageCount.2.1 mX11_pageCount.2.2.1 mX11_pageCount.2.2.2.1 ∈ j_wg := (j_me3 33 rfl rfl)
theorem cw_X11_pageOfGap : Cond.code mX11_pageOfGap.1 mX11_pageOfGap.2.1 mX11_pageOfGap.2.2.1 mX11_pageOfGap.2.2.2.1 ∈ j_wg := (j_me3 36 rfl rfl)
theorem cw_X11_part : Cond.code mX11_part.1 mX11_part.2.1 mX11_part.2.2.1 mX11_part.2.2.2.1 ∈ j_wg := (j_me3 9 rfl rfl)
theorem cw_X11_pass : Cond.code mX11_pass.1 mX11_pass.2.1 mX11_pass.2.2.1 mX11_pass.2.2.2.1 ∈ j_wg := (j_me3 153 rfl rfl)
theorem cw_X11_pathOf : Cond.code mX11_pathOf.1 mX11_pathOf.2.1 mX11_pathOf.2.2.1 mX11_pathOf.2.2.2.1 ∈ j_wg := (j_me4 48 rfl rfl)
theorem cw_X11_place : Cond.code mX11_place.1 mX11_place.2.1 mX11_place.2.2.1 mX11_place.2.2.2.1 ∈ j_wg := (j_me5 62 rfl rfl)
theorem cw_X11_put : Cond.code mX11_put.1 mX11_put.2.1 mX11_put.2.2.1 mX11_put.2.2.2.1 ∈ j_wg := (j_me2 154 rfl rfl)
theorem cw_X11_refused : Cond.code mX11_refused.1 mX11_refused.2.1 mX11_refused.2.2.1 mX11_refused.2.2.2.1 ∈ j_wg := (j_me4 103 rfl rfl)
theorem cw_X11_rename : Cond.code mX11_rename.1 mX11_rename.2.1 mX11_rename.2.2.1 mX11_rename.2.2.2.1 ∈ j_wg := (j_me3 238 rfl rfl)
theorem cw_X11_see : Cond.code mX11_see.1 mX11_see.2.1 mX11_see.2.2.1 mX11_see.2.2.2.1 ∈ j_wg := (j_me4 53 rfl rfl)
theorem cw_X11_sees : Cond.code mX11_sees.1 mX11_sees.2.1 mX11_sees.2.2.1 mX11_sees.2.2.2.1 ∈ j_wg := (j_me5 67 rfl rfl)
theorem cw_X11_shorten : Cond.code mX11_shorten.1 mX11_shorten.2.1 mX11_shorten.2.2.1 mX11_shorten.2.2.2.1 ∈ j_wg := (j_me5 111 rfl rfl)
theorem cw_X11_show : Cond.code mX11_show.1 mX11_show.2.1 mX11_show.2.2.1 mX11_show.2.2.2.1 ∈ j_wg := (j_me4 99 rfl rfl)
theorem cw_X11_showLent : Cond.code mX11_showLent.1 mX11_showLent.2.1 mX11_showLent.2.2.1 mX11_showLent.2.2.2.1 ∈ j_wg := (j_me4 111 rfl rfl)
theorem cw_X11_showMain : Cond.code mX11_showMain.1 mX11_showMain.2.1 mX11_showMain.2.2.1 mX11_showMain.2.2.2.1 ∈ j_wg := (j_me4 107 rfl rfl)
theorem cw_X11_sign : Cond.code mX11_sign.1 mX11_sign.2.1 mX11_sign.2.2.1 mX11_sign.2.2.2.1 ∈ j_wg := (j_me3 191 rfl rfl)
theorem cw_X11_sortAs : Cond.code mX11_sortAs.1 mX11_sortAs.2.1 mX11_sortAs.2.2.1 mX11_sortAs.2.2.2.1 ∈ j_wg := (j_me3 144 rfl rfl)
theorem cw_X11_take : Cond.code mX11_take.1 mX11_take.2.1 mX11_take.2.2.1 mX11_take.2.2.2.1 ∈ j_wg := (j_me2 201 rfl rfl)
theorem cw_X11_taken : Cond.code mX11_taken.1 mX11_taken.2.1 mX11_taken.2.2.1 mX11_taken.2.2.2.1 ∈ j_wg := (j_me5 143 rfl rfl)
theorem cw_X11_tell : Cond.code mX11_tell.1 mX11_tell.2.1 mX11_tell.2.2.1 mX11_tell.2.2.2.1 ∈ j_wg := (j_me4 71 rfl rfl)
theorem cw_X11_tellAlso : Cond.code mX11_tellAlso.1 mX11_tellAlso.2.1 mX11_tellAlso.2.2.1 mX11_tellAlso.2.2.2.1 ∈ j_wg := (j_me4 95 rfl rfl)
theorem cw_X11_tellMain : Cond.code mX11_tellMain.1 mX11_tellMain.2.1 mX11_tellMain.2.2.1 mX11_tellMain.2.2.2.1 ∈ j_wg := (j_me4 75 rfl rfl)
theorem cw_X11_tellNote : Cond.code mX11_tellNote.1 mX11_tellNote.2.1 mX11_tellNote.2.2.1 mX11_tellNote.2.2.2.1 ∈ j_wg := (j_me4 87 rfl rfl)
theorem cw_X11_tellPoint : Cond.code mX11_tellPoint.1 mX11_tellPoint.2.1 mX11_tellPoint.2.2.1 mX11_tellPoint.2.2.2.1 ∈ j_wg := (j_me4 83 rfl rfl)
theorem cw_X11_tellSee : Cond.code mX11_tellSee.1 mX11_tellSee.2.1 mX11_tellSee.2.2.1 mX11_tellSee.2.2.2.1 ∈ j_wg := (j_me4 91 rfl rfl)
theorem cw_X11_told : Cond.code mX11_told.1 mX11_told.2.1 mX11_told.2.2.1 mX11_told.2.2.2.1 ∈ j_wg := (j_me5 159 rfl rfl)
theorem cw_X11_trace : Cond.code mX11_trace.1 mX11_trace.2.1 mX11_trace.2.2.1 mX11_trace.2.2.2.1 ∈ j_wg := (j_me5 151 rfl rfl)
theorem cw_X11_tray : Cond.code mX11_tray.1 mX11_tray.2.1 mX11_tray.2.2.1 mX11_tray.2.2.2.1 ∈ j_wg := (j_me5 139 rfl rfl)
theorem cw_X11_undo : Cond.code mX11_undo.1 mX11_undo.2.1 mX11_undo.2.2.1 mX11_undo.2.2.2.1 ∈ j_wg := (j_me5 131 rfl rfl)
theorem cw_X11_unfold : Cond.code mX11_unfold.1 mX11_unfold.2.1 mX11_unfold.2.2.1 mX11_unfold.2.2.2.1 ∈ j_wg := (j_me5 127 rfl rfl)
theorem cw_X11_unlikeDigits : Cond.code mX11_unlikeDigits.1 mX11_unlikeDigits.2.1 mX11_unlikeDigits.2.2.1 mX11_unlikeDigits.2.2.2.1 ∈ j_wg := (j_me5 118 rfl rfl)
theorem cw_X11_unmatched : Cond.code mX11_unmatched.1 mX11_unmatched.2.1 mX11_unmatched.2.2.1 mX11_unmatched.2.2.2.1 ∈ j_wg := (j_me5 83 rfl rfl)
theorem cw_X11_unmatchedAt : Cond.code mX11_unmatchedAt.1 mX11_unmatchedAt.2.1 mX11_unmatchedAt.2.2.1 mX11_unmatchedAt.2.2.2.1 ∈ j_wg := (j_me5 87 rfl rfl)
theorem cw_X11_unname : Cond.code mX11_unname.1 mX11_unname.2.1 mX11_unname.2.2.1 mX11_unname.2.2.2.1 ∈ j_wg := (j_me3 97 rfl rfl)
theorem cw_X11_word : Cond.code mX11_word.1 mX11_word.2.1 mX11_word.2.2.1 mX11_word.2.2.2.1 ∈ j_wg := (j_me3 1 rfl rfl)
theorem cw_X12_about : Cond.code mX12_about.1 mX12_about.2.1 mX12_about.2.2.1 mX12_about.2.2.2.1 ∈ j_wg := (j_me7 15 rfl rfl)
theorem cw_X12_addPath : Cond.code mX12_addPath.1 mX12_addPath.2.1 mX12_addPath.2.2.1 mX12_addPath.2.2.2.1 ∈ j_wg := (j_me7 121 rfl rfl)
theorem cw_X12_addPlace : Cond.code mX12_addPlace.1 mX12_addPlace.2.1 mX12_addPlace.2.2.1 mX12_addPlace.2.2.2.1 ∈ j_wg := (j_me7 181 rfl rfl)
theorem cw_X12_addRun : Cond.code mX12_addRun.1 mX12_addRun.2.1 mX12_addRun.2.2.1 mX12_addRun.2.2.2.1 ∈ j_wg := (j_me7 153 rfl rfl)
theorem cw_X12_addSee : Cond.code mX12_addSee.1 mX12_addSee.2.1 mX12_addSee.2.2.1 mX12_addSee.2.2.2.1 ∈ j_wg := (j_me7 200 rfl rfl)
theorem cw_X12_begins : Cond.code mX12_begins.1 mX12_begins.2.1 mX12_begins.2.2.1 mX12_begins.2.2.2.1 ∈ j_wg := (j_me7 105 rfl rfl)
theorem cw_X12_bit : Cond.code mX12_bit.1 mX12_bit.2.1 mX12_bit.2.2.1 mX12_bit.2.2.2.1 ∈ j_wg := (j_me7 43 rfl rfl)
theorem cw_X12_build : Cond.code mX12_build.1 mX12_build.2.1 mX12_build.2.2.1 mX12_build.2.2.2.1 ∈ j_wg := (j_me7 113 rfl rfl)
theorem cw_X12_changed : Cond.code mX12_changed.1 mX12_changed.2.1 mX12_changed.2.2.1 mX12_changed.2.2.2.1 ∈ j_wg := (j_me8 20 rfl rfl)
theorem cw_X12_childrenOf : Cond.code mX12_childrenOf.1 mX12_childrenOf.2.1 mX12_childrenOf.2.2.1 mX12_childrenOf.2.2.2.1 ∈ j_wg := (j_me7 208 rfl rfl)
theorem cw_X12_comes : Cond.code mX12_comes.1 mX12_comes.2.1 mX12_comes.2.2.1 mX12_comes.2.2.2.1 ∈ j_wg := (j_me7 73 rfl rfl)
theorem cw_X12_compare : Cond.code mX12_compare.1 mX12_compare.2.1 mX12_compare.2.2.1 mX12_compare.2.2.2.1 ∈ j_wg := (j_me7 31 rfl rfl)
theorem cw_X12_comparePaths : Cond.code mX12_comparePaths.1 mX12_comparePaths.2.1 mX12_comparePaths.2.2.1 mX12_comparePaths.2.2.2.1 ∈ j_wg := (j_me7 137 rfl rfl)
theorem cw_X12_compared : Cond.code mX12_compared.1 mX12_compared.2.1 mX12_compared.2.2.1 mX12_compared.2.2.2.1 ∈ j_wg := (j_me7 35 rfl rfl)
theorem cw_X12_countChanged : Cond.code mX12_countChanged.1 mX12_countChanged.2.1 mX12_countChanged.2.2.1 mX12_countChanged.2.2.2.1 ∈ j_wg := (j_me7 216 rfl rfl)
theorem cw_X12_deepOf : Cond.code mX12_deepOf.1 mX12_deepOf.2.1 mX12_deepOf.2.2.1 mX12_deepOf.2.2.2.1 ∈ j_wg := (j_me7 196 rfl rfl)
theorem cw_X12_digitsOf : Cond.code mX12_digitsOf.1 mX12_digitsOf.2.1 mX12_digitsOf.2.2.1 mX12_digitsOf.2.2.2.1 ∈ j_wg := (j_me8 28 rfl rfl)
theorem cw_X12_drop : Cond.code mX12_drop.1 mX12_drop.2.1 mX12_drop.2.2.1 mX12_drop.2.2.2.1 ∈ j_wg := (j_me7 81 rfl rfl)
theorem cw_X12_entry : Cond.code mX12_entry.1 mX12_entry.2.1 mX12_entry.2.2.1 mX12_entry.2.2.2.1 ∈ j_wg := (j_me7 224 rfl rfl)
theorem cw_X12_entryOf : Cond.code mX12_entryOf.1 mX12_entryOf.2.1 mX12_entryOf.2.2.1 mX12_entryOf.2.2.2.1 ∈ j_wg := (j_me7 125 rfl rfl)
theorem cw_X12_fails : Cond.code mX12_fails.1 mX12_fails.2.1 mX12_fails.2.2.1 mX12_fails.2.2.2.1 ∈ j_wg := (j_me6 136 rfl rfl)
theorem cw_X12_fault : Cond.code mX12_fault.1 mX12_fault.2.1 mX12_fault.2.2.1 mX12_fault.2.2.2.1 ∈ j_wg := (j_me8 59 rfl rfl)
theorem cw_X12_find : Cond.code mX12_find.1 mX12_find.2.1 mX12_find.2.2.1 mX12_find.2.2.2.1 ∈ j_wg := (j_me8 0 rfl rfl)
theorem cw_X12_findPlaces : Cond.code mX12_findPlaces.1 mX12_findPlaces.2.1 mX12_findPlaces.2.2.1 mX12_findPlaces.2.2.2.1 ∈ j_wg := (j_me7 141 rfl rfl)
theorem cw_X12_findRuns : Cond.code mX12_findRuns.1 mX12_findRuns.2.1 mX12_findRuns.2.2.1 mX12_findRuns.2.2.2.1 ∈ j_wg := (j_me7 145 rfl rfl)
theorem cw_X12_findSees : Cond.code mX12_findSees.1 mX12_findSees.2.1 mX12_findSees.2.2.1 mX12_findSees.2.2.2.1 ∈ j_wg := (j_me7 192 rfl rfl)
theorem cw_X12_first : Cond.code mX12_first.1 mX12_first.2.1 mX12_first.2.2.1 mX12_first.2.2.2.1 ∈ j_wg := (j_me8 4 rfl rfl)
theorem cw_X12_flow : Cond.code mX12_flow.1 mX12_flow.2.1 mX12_flow.2.2.1 mX12_flow.2.2.2.1 ∈ j_wg := (j_me6 144 rfl rfl)
theorem cw_X12_formOf : Cond.code mX12_formOf.1 mX12_formOf.2.1 mX12_formOf.2.2.1 mX12_formOf.2.2.2.1 ∈ j_wg := (j_me6 164 rfl rfl)
theorem cw_X12_gapAt : Cond.code mX12_gapAt.1 mX12_gapAt.2.1 mX12_gapAt.2.2.1 mX12_gapAt.2.2.2.1 ∈ j_wg := (j_me6 120 rfl rfl)
theorem cw_X12_gapOf : Cond.code mX12_gapOf.1 mX12_gapOf.2.1 mX12_gapOf.2.2.1 mX12_gapOf.2.2.2.1 ∈ j_wg := (j_me7 89 rfl rfl)
theorem cw_X12_hasMain : Cond.code mX12_hasMain.1 mX12_hasMain.2.1 mX12_hasMain.2.2.1 mX12_hasMain.2.2.2.1 ∈ j_wg := (j_me7 173 rfl rfl)
theorem cw_X12_hasMore : Cond.code mX12_hasMore.1 mX12_hasMore.2.1 mX12_hasMore.2.2.1 mX12_hasMore.2.2.2.1 ∈ j_wg := (j_me7 204 rfl rfl)
theorem cw_X12_head : Cond.code mX12_head.1 mX12_head.2.1 mX12_head.2.2.1 mX12_head.2.2.2.1 ∈ j_wg := (j_me6 205 rfl rfl)
theorem cw_X12_headAt : Cond.code mX12_headAt.1 mX12_headAt.2.1 mX12_headAt.2.2.1 mX12_headAt.2.2.2.1 ∈ j_wg := (j_me6 225 rfl rfl)
theorem cw_X12_headOf : Cond.code mX12_headOf.1 mX12_headOf.2.1 mX12_headOf.2.2.1 mX12_headOf.2.2.2.1 ∈ j_wg := (j_me7 65 rfl rfl)
theorem cw_X12_headsEver : Cond.code mX12_headsEver.1 mX12_headsEver.2.1 mX12_headsEver.2.2.1 mX12_headsEver.2.2.2.1 ∈ j_wg := (j_me6 217 rfl rfl)
theorem cw_X12_init : Cond.code mX12_init.1 mX12_init.2.1 mX12_init.2.2.1 mX12_init.2.2.2.1 ∈ j_wg := (j_me5 172 rfl rfl)
theorem cw_X12_isAsBefore : Cond.code mX12_isAsBefore.1 mX12_isAsBefore.2.1 mX12_isAsBefore.2.2.1 mX12_isAsBefore.2.2.2.1 ∈ j_wg := (j_me7 220 rfl rfl)
theorem cw_X12_isBehind : Cond.code mX12_isBehind.1 mX12_isBehind.2.1 mX12_isBehind.2.2.1 mX12_isBehind.2.2.2.1 ∈ j_wg := (j_me7 161 rfl rfl)
theorem cw_X12_isEntry : Cond.code mX12_isEntry.1 mX12_isEntry.2.1 mX12_isEntry.2.2.1 mX12_isEntry.2.2.2.1 ∈ j_wg := (j_me7 228 rfl rfl)
theorem cw_X12_isFreeName : Cond.code mX12_isFreeName.1 mX12_isFreeName.2.1 mX12_isFreeName.2.2.1 mX12_isFreeName.2.2.2.1 ∈ j_wg := (j_me6 209 rfl rfl)
theorem cw_X12_isHead : Cond.code mX12_isHead.1 mX12_isHead.2.1 mX12_isHead.2.2.1 mX12_isHead.2.2.2.1 ∈ j_wg := (j_me6 221 rfl rfl)
theorem cw_X12_isLetter : Cond.code mX12_isLetter.1 mX12_isLetter.2.1 mX12_isLetter.2.2.1 mX12_isLetter.2.2.2.1 ∈ j_wg := (j_me7 8 rfl rfl)
theorem cw_X12_isMark : Cond.code mX12_isMark.1 mX12_isMark.2.1 mX12_isMark.2.2.1 mX12_isMark.2.2.2.1 ∈ j_wg := (j_me7 57 rfl rfl)
theorem cw_X12_isOf : Cond.code mX12_isOf.1 mX12_isOf.2.1 mX12_isOf.2.2.1 mX12_isOf.2.2.2.1 ∈ j_wg := (j_me7 149 rfl rfl)
theorem cw_X12_isPath : Cond.code mX12_isPath.1 mX12_isPath.2.1 mX12_isPath.2.2.1 mX12_isPath.2.2.2.1 ∈ j_wg := (j_me7 129 rfl rfl)
theorem cw_X12_isPlaceBehind : Cond.code mX12_isPlaceBehind.1 mX12_isPlaceBehind.2.1 mX12_isPlaceBehind.2.2.1 mX12_isPlaceBehind.2.2.2.1 ∈ j_wg := (j_me7 185 rfl rfl)
theorem cw_X12_isTidy : Cond.code mX12_isTidy.1 mX12_isTidy.2.1 mX12_isTidy.2.2.1 mX12_isTidy.2.2.2.1 ∈ j_wg := (j_me6 213 rfl rfl)
theorem cw_X12_keep : Cond.code mX12_keep.1 mX12_keep.2.1 mX12_keep.2.2.1 mX12_keep.2.2.2.1 ∈ j_wg := (j_me6 112 rfl rfl)
theorem cw_X12_keepOld : Cond.code mX12_keepOld.1 mX12_keepOld.2.1 mX12_keepOld.2.2.1 mX12_keepOld.2.2.2.1 ∈ j_wg := (j_me7 117 rfl rfl)
theorem cw_X12_keyFrom : Cond.code mX12_keyFrom.1 mX12_keyFrom.2.1 mX12_keyFrom.2.2.1 mX12_keyFrom.2.2.2.1 ∈ j_wg := (j_me7 39 rfl rfl)
theorem cw_X12_kindOf : Cond.code mX12_kindOf.1 mX12_kindOf.2.1 mX12_kindOf.2.2.1 mX12_kindOf.2.2.2.1 ∈ j_wg := (j_me7 61 rfl rfl)
theorem cw_X12_label : Cond.code mX12_label.1 mX12_label.2.1 mX12_label.2.2.1 mX12_label.2.2.2.1 ∈ j_wg := (j_me6 152 rfl rfl)
theorem cw_X12_labelSign : Cond.code mX12_labelSign.1 mX12_labelSign.2.1 mX12_labelSign.2.2.1 mX12_labelSign.2.2.2.1 ∈ j_wg := (j_me6 188 rfl rfl)
theorem cw_X12_labelled : Cond.code mX12_labelled.1 mX12_labelled.2.1 mX12_labelled.2.2.1 mX12_labelled.2.2.2.1 ∈ j_wg := (j_me6 192 rfl rfl)
theorem cw_X12_led : Cond.code mX12_led.1 mX12_led.2.1 mX12_led.2.2.1 mX12_led.2.2.2.1 ∈ j_wg := (j_me8 16 rfl rfl)
theorem cw_X12_ledTo : Cond.code mX12_ledTo.1 mX12_ledTo.2.1 mX12_ledTo.2.2.1 mX12_ledTo.2.2.2.1 ∈ j_wg := (j_me7 212 rfl rfl)
theorem cw_X12_makeLabel : Cond.code mX12_makeLabel.1 mX12_makeLabel.2.1 mX12_makeLabel.2.2.1 mX12_makeLabel.2.2.2.1 ∈ j_wg := (j_me6 160 rfl rfl)
theorem cw_X12_mark : Cond.code mX12_mark.1 mX12_mark.2.1 mX12_mark.2.2.1 mX12_mark.2.2.2.1 ∈ j_wg := (j_me7 69 rfl rfl)
theorem cw_X12_markAt : Cond.code mX12_markAt.1 mX12_markAt.2.1 mX12_markAt.2.2.1 mX12_markAt.2.2.2.1 ∈ j_wg := (j_me6 124 rfl rfl)
theorem cw_X12_marked : Cond.code mX12_marked.1 mX12_marked.2.1 mX12_marked.2.2.1 mX12_marked.2.2.2.1 ∈ j_wg := (j_me7 85 rfl rfl)
theorem cw_X12_marksEver : Cond.code mX12_marksEver.1 mX12_marksEver.2.1 mX12_marksEver.2.2.1 mX12_marksEver.2.2.2.1 ∈ j_wg := (j_me6 116 rfl rfl)
theorem cw_X12_match : Cond.code mX12_match.1 mX12_match.2.1 mX12_match.2.2.1 mX12_match.2.2.2.1 ∈ j_wg := (j_me8 51 rfl rfl)
theorem cw_X12_meld : Cond.code mX12_meld.1 mX12_meld.2.1 mX12_meld.2.2.1 mX12_meld.2.2.2.1 ∈ j_wg := (j_me7 53 rfl rfl)
theorem cw_X12_move : Cond.code mX12_move.1 mX12_move.2.1 mX12_move.2.2.1 mX12_move.2.2.2.1 ∈ j_wg := (j_me6 132 rfl rfl)
theorem cw_X12_name : Cond.code mX12_name.1 mX12_name.2.1 mX12_name.2.2.1 mX12_name.2.2.2.1 ∈ j_wg := (j_me6 196 rfl rfl)
theorem cw_X12_nameTo : Cond.code mX12_nameTo.1 mX12_nameTo.2.1 mX12_nameTo.2.2.1 mX12_nameTo.2.2.2.1 ∈ j_wg := (j_me6 237 rfl rfl)
theorem cw_X12_nextBound : Cond.code mX12_nextBound.1 mX12_nextBound.2.1 mX12_nextBound.2.2.1 mX12_nextBound.2.2.2.1 ∈ j_wg := (j_me7 157 rfl rfl)
theorem cw_X12_noteOf : Cond.code mX12_noteOf.1 mX12_noteOf.2.1 mX12_noteOf.2.2.1 mX12_noteOf.2.2.2.1 ∈ j_wg := (j_me7 93 rfl rfl)
theorem cw_X12_numberOf : Cond.code mX12_numberOf.1 mX12_numberOf.2.1 mX12_numberOf.2.2.1 mX12_numberOf.2.2.2.1 ∈ j_wg := (j_me6 172 rfl rfl)
theorem cw_X12_outRun : Cond.code mX12_outRun.1 mX12_outRun.2.1 mX12_outRun.2.2.1 mX12_outRun.2.2.2.1 ∈ j_wg := (j_me7 177 rfl rfl)
theorem cw_X12_pageOf : Cond.code mX12_pageOf.1 mX12_pageOf.2.1 mX12_pageOf.2.2.1 mX12_pageOf.2.2.2.1 ∈ j_wg := (j_me7 97 rfl rfl)
theorem cw_X12_pages : Cond.code mX12_pages.1 mX12_pages.2.1 mX12_pages.2.2.1 mX12_pages.2.2.2.1 ∈ j_wg := (j_me6 156 rfl rfl)
theorem cw_X12_part : Cond.code mX12_part.1 mX12_part.2.1 mX12_part.2.2.1 mX12_part.2.2.2.1 ∈ j_wg := (j_me6 148 rfl rfl)
theorem cw_X12_partOf : Cond.code mX12_partOf.1 mX12_partOf.2.1 mX12_partOf.2.2.1 mX12_partOf.2.2.2.1 ∈ j_wg := (j_me6 168 rfl rfl)
theorem cw_X12_pass : Cond.code mX12_pass.1 mX12_pass.2.1 mX12_pass.2.2.1 mX12_pass.2.2.2.1 ∈ j_wg := (j_me7 5 rfl rfl)
theorem cw_X12_place : Cond.code mX12_place.1 mX12_place.2.1 mX12_place.2.2.1 mX12_place.2.2.2.1 ∈ j_wg := (j_me7 232 rfl rfl)
theorem cw_X12_put : Cond.code mX12_put.1 mX12_put.2.1 mX12_put.2.2.1 mX12_put.2.2.2.1 ∈ j_wg := (j_me6 101 rfl rfl)
theorem cw_X12_rankOf : Cond.code mX12_rankOf.1 mX12_rankOf.2.1 mX12_rankOf.2.2.1 mX12_rankOf.2.2.2.1 ∈ j_wg := (j_me7 188 rfl rfl)
theorem cw_X12_rename : Cond.code mX12_rename.1 mX12_rename.2.1 mX12_rename.2.2.1 mX12_rename.2.2.2.1 ∈ j_wg := (j_me7 49 rfl rfl)
theorem cw_X12_say : Cond.code mX12_say.1 mX12_say.2.1 mX12_say.2.2.1 mX12_say.2.2.2.1 ∈ j_wg := (j_me6 180 rfl rfl)
theorem cw_X12_sayRoman : Cond.code mX12_sayRoman.1 mX12_sayRoman.2.1 mX12_sayRoman.2.2.1 mX12_sayRoman.2.2.2.1 ∈ j_wg := (j_me6 176 rfl rfl)
theorem cw_X12_sayTens : Cond.code mX12_sayTens.1 mX12_sayTens.2.1 mX12_sayTens.2.2.1 mX12_sayTens.2.2.2.1 ∈ j_wg := (j_me6 184 rfl rfl)
theorem cw_X12_see : Cond.code mX12_see.1 mX12_see.2.1 mX12_see.2.2.1 mX12_see.2.2.2.1 ∈ j_wg := (j_me7 77 rfl rfl)
theorem cw_X12_sees : Cond.code mX12_sees.1 mX12_sees.2.1 mX12_sees.2.2.1 mX12_sees.2.2.2.1 ∈ j_wg := (j_me7 236 rfl rfl)
theorem cw_X12_shorten : Cond.code mX12_shorten.1 mX12_shorten.2.1 mX12_shorten.2.2.1 mX12_shorten.2.2.2.1 ∈ j_wg := (j_me8 24 rfl rfl)
theorem cw_X12_show : Cond.code mX12_show.1 mX12_show.2.1 mX12_show.2.2.1 mX12_show.2.2.2.1 ∈ j_wg := (j_me7 109 rfl rfl)
theorem cw_X12_sign : Cond.code mX12_sign.1 mX12_sign.2.1 mX12_sign.2.2.1 mX12_sign.2.2.2.1 ∈ j_wg := (j_me7 23 rfl rfl)
theorem cw_X12_signOf : Cond.code mX12_signOf.1 mX12_signOf.2.1 mX12_signOf.2.2.1 mX12_signOf.2.2.2.1 ∈ j_wg := (j_me6 233 rfl rfl)
theorem cw_X12_signsOf : Cond.code mX12_signsOf.1 mX12_signsOf.2.1 mX12_signsOf.2.2.1 mX12_signsOf.2.2.2.1 ∈ j_wg := (j_me6 229 rfl rfl)
theorem cw_X12_small : Cond.code mX12_small.1 mX12_small.2.1 mX12_small.2.2.1 mX12_small.2.2.2.1 ∈ j_wg := (j_me7 11 rfl rfl)
theorem cw_X12_sortAs : Cond.code mX12_sortAs.1 mX12_sortAs.2.1 mX12_sortAs.2.2.1 mX12_sortAs.2.2.2.1 ∈ j_wg := (j_me7 1 rfl rfl)
theorem cw_X12_sortPaths : Cond.code mX12_sortPaths.1 mX12_sortPaths.2.1 mX12_sortPaths.2.2.1 mX12_sortPaths.2.2.2.1 ∈ j_wg := (j_me7 133 rfl rfl)
theorem cw_X12_sortedLong : Cond.code mX12_sortedLong.1 mX12_sortedLong.2.1 mX12_sortedLong.2.2.1 mX12_sortedLong.2.2.2.1 ∈ j_wg := (j_me7 19 rfl rfl)
theorem cw_X12_sortedSign : Cond.code mX12_sortedSign.1 mX12_sortedSign.2.1 mX12_sortedSign.2.2.1 mX12_sortedSign.2.2.2.1 ∈ j_wg := (j_me7 27 rfl rfl)
theorem cw_X12_take : Cond.code mX12_take.1 mX12_take.2.1 mX12_take.2.2.1 mX12_take.2.2.2.1 ∈ j_wg := (j_me6 128 rfl rfl)
theorem cw_X12_taken : Cond.code mX12_taken.1 mX12_taken.2.1 mX12_taken.2.2.1 mX12_taken.2.2.2.1 ∈ j_wg := (j_me8 47 rfl rfl)
theorem cw_X12_tell : Cond.code mX12_tell.1 mX12_tell.2.1 mX12_tell.2.2.1 mX12_tell.2.2.2.1 ∈ j_wg := (j_me7 101 rfl rfl)
theorem cw_X12_tenTo : Cond.code mX12_tenTo.1 mX12_tenTo.2.1 mX12_tenTo.2.2.1 mX12_tenTo.2.2.2.1 ∈ j_wg := (j_me8 31 rfl rfl)
theorem cw_X12_thinRuns : Cond.code mX12_thinRuns.1 mX12_thinRuns.2.1 mX12_thinRuns.2.2.1 mX12_thinRuns.2.2.2.1 ∈ j_wg := (j_me7 169 rfl rfl)
theorem cw_X12_told : Cond.code mX12_told.1 mX12_told.2.1 mX12_told.2.2.1 mX12_told.2.2.2.1 ∈ j_wg := (j_me8 63 rfl rfl)
theorem cw_X12_trace : Cond.code mX12_trace.1 mX12_trace.2.1 mX12_trace.2.2.1 mX12_trace.2.2.2.1 ∈ j_wg := (j_me8 55 rfl rfl)
theorem cw_X12_tray : Cond.code mX12_tray.1 mX12_tray.2.1 mX12_tray.2.2.1 mX12_tray.2.2.2.1 ∈ j_wg := (j_me8 43 rfl rfl)
theorem cw_X12_undo : Cond.code mX12_undo.1 mX12_undo.2.1 mX12_undo.2.2.1 mX12_undo.2.2.2.1 ∈ j_wg := (j_me8 39 rfl rfl)
theorem cw_X12_unfold : Cond.code mX12_unfold.1 mX12_unfold.2.1 mX12_unfold.2.2.1 mX12_unfold.2.2.2.1 ∈ j_wg := (j_me8 35 rfl rfl)
theorem cw_X12_unmatch : Cond.code mX12_unmatch.1 mX12_unmatch.2.1 mX12_unmatch.2.2.1 mX12_unmatch.2.2.2.1 ∈ j_wg := (j_me7 165 rfl rfl)
theorem cw_X12_unmatched : Cond.code mX12_unmatched.1 mX12_unmatched.2.1 mX12_unmatched.2.2.1 mX12_unmatched.2.2.2.1 ∈ j_wg := (j_me8 8 rfl rfl)
theorem cw_X12_unmatchedAt : Cond.code mX12_unmatchedAt.1 mX12_unmatchedAt.2.1 mX12_unmatchedAt.2.2.1 mX12_unmatchedAt.2.2.2.1 ∈ j_wg := (j_me8 12 rfl rfl)
theorem cw_X12_unname : Cond.code mX12_unname.1 mX12_unname.2.1 mX12_unname.2.2.1 mX12_unname.2.2.2.1 ∈ j_wg := (j_me6 201 rfl rfl)
theorem cw_X12_within : Cond.code mX12_within.1 mX12_within.2.1 mX12_within.2.2.1 mX12_within.2.2.2.1 ∈ j_wg := (j_me6 108 rfl rfl)
theorem cw_X12_word : Cond.code mX12_word.1 mX12_word.2.1 mX12_word.2.2.1 mX12_word.2.2.2.1 ∈ j_wg := (j_me6 140 rfl rfl)
theorem cw_X12_words : Cond.code mX12_words.1 mX12_words.2.1 mX12_words.2.2.1 mX12_words.2.2.2.1 ∈ j_wg := (j_me6 105 rfl rfl)
theorem cw_X1_begin : Cond.code mX1_begin.1 mX1_begin.2.1 mX1_begin.2.2.1 mX1_begin.2.2.2.1 ∈ j_wg := (j_me3 213 rfl rfl)
theorem cw_X1_init : Cond.code mX1_init.1 mX1_init.2.1 mX1_init.2.2.1 mX1_init.2.2.2.1 ∈ j_wg := (j_me1 192 rfl rfl)
theorem cw_X1_readNumber : Cond.code mX1_readNumber.1 mX1_readNumber.2.1 mX1_readNumber.2.2.1 mX1_readNumber.2.2.2.1 ∈ j_wg := (j_me3 225 rfl rfl)
theorem cw_X1_step : Cond.code mX1_step.1 mX1_step.2.1 mX1_step.2.2.1 mX1_step.2.2.2.1 ∈ j_wg := (j_me3 217 rfl rfl)
theorem cw_X2_add : Cond.code mX2_add.1 mX2_add.2.1 mX2_add.2.2.1 mX2_add.2.2.2.1 ∈ j_wg := (j_me3 133 rfl rfl)
theorem cw_X2_copyFrom : Cond.code mX2_copyFrom.1 mX2_copyFrom.2.1 mX2_copyFrom.2.2.1 mX2_copyFrom.2.2.2.1 ∈ j_wg := (j_me2 174 rfl rfl)
theorem cw_X2_countThere : Cond.code mX2_countThere.1 mX2_countThere.2.1 mX2_countThere.2.2.1 mX2_countThere.2.2.2.1 ∈ j_wg := (j_me5 163 rfl rfl)
theorem cw_X2_has : Cond.code mX2_has.1 mX2_has.2.1 mX2_has.2.2.1 mX2_has.2.2.2.1 ∈ j_wg := (j_me3 148 rfl rfl)
theorem cw_X2_hasSigns : Cond.code mX2_hasSigns.1 mX2_hasSigns.2.1 mX2_hasSigns.2.2.1 mX2_hasSigns.2.2.2.1 ∈ j_wg := (j_me3 122 rfl rfl)
theorem cw_X2_init : Cond.code mX2_init.1 mX2_init.2.1 mX2_init.2.2.1 mX2_init.2.2.2.1 ∈ j_wg := (j_me1 36 rfl rfl)
theorem cw_X2_remove : Cond.code mX2_remove.1 mX2_remove.2.1 mX2_remove.2.2.1 mX2_remove.2.2.2.1 ∈ j_wg := (j_me4 25 rfl rfl)
theorem cw_X2_rows : Cond.code mX2_rows.1 mX2_rows.2.1 mX2_rows.2.2.1 mX2_rows.2.2.2.1 ∈ j_wg := (j_me3 186 rfl rfl)
theorem cw_X3_addLead : Cond.code mX3_addLead.1 mX3_addLead.2.1 mX3_addLead.2.2.1 mX3_addLead.2.2.2.1 ∈ j_wg := (j_me5 21 rfl rfl)
theorem cw_X3_addLoose : Cond.code mX3_addLoose.1 mX3_addLoose.2.1 mX3_addLoose.2.2.1 mX3_addLoose.2.2.2.1 ∈ j_wg := (j_me5 47 rfl rfl)
theorem cw_X3_addPath : Cond.code mX3_addPath.1 mX3_addPath.2.1 mX3_addPath.2.2.1 mX3_addPath.2.2.2.1 ∈ j_wg := (j_me4 158 rfl rfl)
theorem cw_X3_addPlace : Cond.code mX3_addPlace.1 mX3_addPlace.2.1 mX3_addPlace.2.2.1 mX3_addPlace.2.2.2.1 ∈ j_wg := (j_me4 200 rfl rfl)
theorem cw_X3_clear : Cond.code mX3_clear.1 mX3_clear.2.1 mX3_clear.2.2.1 mX3_clear.2.2.2.1 ∈ j_wg := (j_me4 134 rfl rfl)
theorem cw_X3_countLed : Cond.code mX3_countLed.1 mX3_countLed.2.1 mX3_countLed.2.2.1 mX3_countLed.2.2.2.1 ∈ j_wg := (j_me5 95 rfl rfl)
theorem cw_X3_entryOf : Cond.code mX3_entryOf.1 mX3_entryOf.2.1 mX3_entryOf.2.2.1 mX3_entryOf.2.2.2.1 ∈ j_wg := (j_me5 34 rfl rfl)
theorem cw_X3_follow : Cond.code mX3_follow.1 mX3_follow.2.1 mX3_follow.2.2.1 mX3_follow.2.2.2.1 ∈ j_wg := (j_me5 25 rfl rfl)
theorem cw_X3_has : Cond.code mX3_has.1 mX3_has.2.1 mX3_has.2.2.1 mX3_has.2.2.2.1 ∈ j_wg := (j_me5 8 rfl rfl)
theorem cw_X3_hasBody : Cond.code mX3_hasBody.1 mX3_hasBody.2.1 mX3_hasBody.2.2.1 mX3_hasBody.2.2.2.1 ∈ j_wg := (j_me5 0 rfl rfl)
theorem cw_X3_hasLikeLeads : Cond.code mX3_hasLikeLeads.1 mX3_hasLikeLeads.2.1 mX3_hasLikeLeads.2.2.1 mX3_hasLikeLeads.2.2.2.1 ∈ j_wg := (j_me5 107 rfl rfl)
theorem cw_X3_init : Cond.code mX3_init.1 mX3_init.2.1 mX3_init.2.2.1 mX3_init.2.2.2.1 ∈ j_wg := (j_me2 52 rfl rfl)
theorem cw_X3_isAlike : Cond.code mX3_isAlike.1 mX3_isAlike.2.1 mX3_isAlike.2.2.1 mX3_isAlike.2.2.2.1 ∈ j_wg := (j_me5 103 rfl rfl)
theorem cw_X3_leadStart : Cond.code mX3_leadStart.1 mX3_leadStart.2.1 mX3_leadStart.2.2.1 mX3_leadStart.2.2.2.1 ∈ j_wg := (j_me5 43 rfl rfl)
theorem cw_X3_ledFrom : Cond.code mX3_ledFrom.1 mX3_ledFrom.2.1 mX3_ledFrom.2.2.1 mX3_ledFrom.2.2.2.1 ∈ j_wg := (j_me5 29 rfl rfl)
theorem cw_X3_placeStart : Cond.code mX3_placeStart.1 mX3_placeStart.2.1 mX3_placeStart.2.2.1 mX3_placeStart.2.2.2.1 ∈ j_wg := (j_me5 12 rfl rfl)
theorem cw_X3_placesOf : Cond.code mX3_placesOf.1 mX3_placesOf.2.1 mX3_placesOf.2.2.1 mX3_placesOf.2.2.2.1 ∈ j_wg := (j_me5 4 rfl rfl)
theorem cw_X3_seesOf : Cond.code mX3_seesOf.1 mX3_seesOf.2.1 mX3_seesOf.2.2.1 mX3_seesOf.2.2.2.1 ∈ j_wg := (j_me5 39 rfl rfl)
theorem cw_X3_weightAt : Cond.code mX3_weightAt.1 mX3_weightAt.2.1 mX3_weightAt.2.2.1 mX3_weightAt.2.2.2.1 ∈ j_wg := (j_me4 209 rfl rfl)
theorem cw_X3_weightOf : Cond.code mX3_weightOf.1 mX3_weightOf.2.1 mX3_weightOf.2.2.1 mX3_weightOf.2.2.2.1 ∈ j_wg := (j_me4 203 rfl rfl)
theorem cw_X3_withinOf : Cond.code mX3_withinOf.1 mX3_withinOf.2.1 mX3_withinOf.2.2.1 mX3_withinOf.2.2.2.1 ∈ j_wg := (j_me5 57 rfl rfl)
theorem cw_X4_copyFrom : Cond.code mX4_copyFrom.1 mX4_copyFrom.2.1 mX4_copyFrom.2.2.1 mX4_copyFrom.2.2.2.1 ∈ j_wg := (j_me2 167 rfl rfl)
theorem cw_X4_hasGap : Cond.code mX4_hasGap.1 mX4_hasGap.2.1 mX4_hasGap.2.2.1 mX4_hasGap.2.2.2.1 ∈ j_wg := (j_me2 158 rfl rfl)
theorem cw_X4_hasWord : Cond.code mX4_hasWord.1 mX4_hasWord.2.1 mX4_hasWord.2.2.1 mX4_hasWord.2.2.2.1 ∈ j_wg := (j_me2 205 rfl rfl)
theorem cw_X4_init : Cond.code mX4_init.1 mX4_init.2.1 mX4_init.2.2.1 mX4_init.2.2.2.1 ∈ j_wg := (j_me1 30 rfl rfl)
theorem cw_X4_insertWord : Cond.code mX4_insertWord.1 mX4_insertWord.2.1 mX4_insertWord.2.2.1 mX4_insertWord.2.2.2.1 ∈ j_wg := (j_me2 192 rfl rfl)
theorem cw_X4_removeWord : Cond.code mX4_removeWord.1 mX4_removeWord.2.1 mX4_removeWord.2.2.1 mX4_removeWord.2.2.2.1 ∈ j_wg := (j_me2 209 rfl rfl)
theorem cw_X4_shiftWords : Cond.code mX4_shiftWords.1 mX4_shiftWords.2.1 mX4_shiftWords.2.2.1 mX4_shiftWords.2.2.2.1 ∈ j_wg := (j_me2 225 rfl rfl)
theorem cw_X4_swapParts : Cond.code mX4_swapParts.1 mX4_swapParts.2.1 mX4_swapParts.2.2.1 mX4_swapParts.2.2.2.1 ∈ j_wg := (j_me2 229 rfl rfl)
theorem cw_X4_turn : Cond.code mX4_turn.1 mX4_turn.2.1 mX4_turn.2.2.1 mX4_turn.2.2.2.1 ∈ j_wg := (j_me2 233 rfl rfl)
theorem cw_X5_addPassed : Cond.code mX5_addPassed.1 mX5_addPassed.2.1 mX5_addPassed.2.2.1 mX5_addPassed.2.2.2.1 ∈ j_wg := (j_me3 177 rfl rfl)
theorem cw_X5_init : Cond.code mX5_init.1 mX5_init.2.1 mX5_init.2.2.1 mX5_init.2.2.2.1 ∈ j_wg := (j_me1 184 rfl rfl)
theorem cw_X5_isPassed : Cond.code mX5_isPassed.1 mX5_isPassed.2.1 mX5_isPassed.2.2.1 mX5_isPassed.2.2.2.1 ∈ j_wg := (j_me3 167 rfl rfl)
theorem cw_X5_keyStart : Cond.code mX5_keyStart.1 mX5_keyStart.2.1 mX5_keyStart.2.2.1 mX5_keyStart.2.2.2.1 ∈ j_wg := (j_me3 205 rfl rfl)
theorem cw_X5_orderOf : Cond.code mX5_orderOf.1 mX5_orderOf.2.1 mX5_orderOf.2.2.1 mX5_orderOf.2.2.2.1 ∈ j_wg := (j_me3 200 rfl rfl)
theorem cw_X6_addEntries : Cond.code mX6_addEntries.1 mX6_addEntries.2.1 mX6_addEntries.2.2.1 mX6_addEntries.2.2.2.1 ∈ j_wg := (j_me4 145 rfl rfl)
theorem cw_X6_addLeads : Cond.code mX6_addLeads.1 mX6_addLeads.2.1 mX6_addLeads.2.2.1 mX6_addLeads.2.2.2.1 ∈ j_wg := (j_me4 230 rfl rfl)
theorem cw_X6_addLeadsBy : Cond.code mX6_addLeadsBy.1 mX6_addLeadsBy.2.1 mX6_addLeadsBy.2.2.1 mX6_addLeadsBy.2.2.2.1 ∈ j_wg := (j_me5 17 rfl rfl)
theorem cw_X6_addPlaces : Cond.code mX6_addPlaces.1 mX6_addPlaces.2.1 mX6_addPlaces.2.2.1 mX6_addPlaces.2.2.2.1 ∈ j_wg := (j_me4 170 rfl rfl)
theorem cw_X6_close : Cond.code mX6_close.1 mX6_close.2.1 mX6_close.2.2.1 mX6_close.2.2.2.1 ∈ j_wg := (j_me4 196 rfl rfl)
theorem cw_X6_collect : Cond.code mX6_collect.1 mX6_collect.2.1 mX6_collect.2.2.1 mX6_collect.2.2.2.1 ∈ j_wg := (j_me4 175 rfl rfl)
theorem cw_X6_copySorted : Cond.code mX6_copySorted.1 mX6_copySorted.2.1 mX6_copySorted.2.2.1 mX6_copySorted.2.2.2.1 ∈ j_wg := (j_me4 139 rfl rfl)
theorem cw_X6_fill : Cond.code mX6_fill.1 mX6_fill.2.1 mX6_fill.2.2.1 mX6_fill.2.2.2.1 ∈ j_wg := (j_me4 119 rfl rfl)
theorem cw_X6_findLeads : Cond.code mX6_findLeads.1 mX6_findLeads.2.1 mX6_findLeads.2.2.1 mX6_findLeads.2.2.2.1 ∈ j_wg := (j_me4 235 rfl rfl)
theorem cw_X6_init : Cond.code mX6_init.1 mX6_init.2.1 mX6_init.2.2.1 mX6_init.2.2.2.1 ∈ j_wg := (j_me1 224 rfl rfl)
theorem cw_X6_listMarks : Cond.code mX6_listMarks.1 mX6_listMarks.2.1 mX6_listMarks.2.2.1 mX6_listMarks.2.2.2.1 ∈ j_wg := (j_me4 129 rfl rfl)
theorem cw_X6_pageOf : Cond.code mX6_pageOf.1 mX6_pageOf.2.1 mX6_pageOf.2.2.1 mX6_pageOf.2.2.2.1 ∈ j_wg := (j_me4 179 rfl rfl)
theorem cw_X6_rankHeads : Cond.code mX6_rankHeads.1 mX6_rankHeads.2.1 mX6_rankHeads.2.2.1 mX6_rankHeads.2.2.2.1 ∈ j_wg := (j_me4 123 rfl rfl)
theorem cw_X6_standAlone : Cond.code mX6_standAlone.1 mX6_standAlone.2.1 mX6_standAlone.2.2.1 mX6_standAlone.2.2.2.1 ∈ j_wg := (j_me4 192 rfl rfl)
theorem cw_X6_translated : Cond.code mX6_translated.1 mX6_translated.2.1 mX6_translated.2.2.1 mX6_translated.2.2.2.1 ∈ j_wg := (j_me4 152 rfl rfl)
theorem cw_X7_add : Cond.code mX7_add.1 mX7_add.2.1 mX7_add.2.2.1 mX7_add.2.2.2.1 ∈ j_wg := (j_me4 45 rfl rfl)
theorem cw_X7_copyFrom : Cond.code mX7_copyFrom.1 mX7_copyFrom.2.1 mX7_copyFrom.2.2.1 mX7_copyFrom.2.2.2.1 ∈ j_wg := (j_me2 186 rfl rfl)
theorem cw_X7_countThere : Cond.code mX7_countThere.1 mX7_countThere.2.1 mX7_countThere.2.2.1 mX7_countThere.2.2.2.1 ∈ j_wg := (j_me5 167 rfl rfl)
theorem cw_X7_entryPath : Cond.code mX7_entryPath.1 mX7_entryPath.2.1 mX7_entryPath.2.2.1 mX7_entryPath.2.2.2.1 ∈ j_wg := (j_me4 149 rfl rfl)
theorem cw_X7_has : Cond.code mX7_has.1 mX7_has.2.1 mX7_has.2.2.1 mX7_has.2.2.2.1 ∈ j_wg := (j_me4 14 rfl rfl)
theorem cw_X7_headAt : Cond.code mX7_headAt.1 mX7_headAt.2.1 mX7_headAt.2.2.1 mX7_headAt.2.2.2.1 ∈ j_wg := (j_me4 10 rfl rfl)
theorem cw_X7_init : Cond.code mX7_init.1 mX7_init.2.1 mX7_init.2.2.1 mX7_init.2.2.2.1 ∈ j_wg := (j_me1 81 rfl rfl)
theorem cw_X7_isLead : Cond.code mX7_isLead.1 mX7_isLead.2.1 mX7_isLead.2.2.1 mX7_isLead.2.2.2.1 ∈ j_wg := (j_me4 21 rfl rfl)
theorem cw_X7_leadBetween : Cond.code mX7_leadBetween.1 mX7_leadBetween.2.1 mX7_leadBetween.2.2.1 mX7_leadBetween.2.2.2.1 ∈ j_wg := (j_me4 6 rfl rfl)
theorem cw_X7_remove : Cond.code mX7_remove.1 mX7_remove.2.1 mX7_remove.2.2.1 mX7_remove.2.2.2.1 ∈ j_wg := (j_me4 62 rfl rfl)
theorem cw_X7_replaceHead : Cond.code mX7_replaceHead.1 mX7_replaceHead.2.1 mX7_replaceHead.2.2.1 mX7_replaceHead.2.2.2.1 ∈ j_wg := (j_me4 30 rfl rfl)
theorem cw_X7_shiftBehind : Cond.code mX7_shiftBehind.1 mX7_shiftBehind.2.1 mX7_shiftBehind.2.2.1 mX7_shiftBehind.2.2.2.1 ∈ j_wg := (j_me2 197 rfl rfl)
theorem cw_X7_shiftWithWords : Cond.code mX7_shiftWithWords.1 mX7_shiftWithWords.2.1 mX7_shiftWithWords.2.2.1 mX7_shiftWithWords.2.2.2.1 ∈ j_wg := (j_me2 237 rfl rfl)
theorem cw_X8_append : Cond.code mX8_append.1 mX8_append.2.1 mX8_append.2.2.1 mX8_append.2.2.2.1 ∈ j_wg := (j_me3 60 rfl rfl)
theorem cw_X8_begin : Cond.code mX8_begin.1 mX8_begin.2.1 mX8_begin.2.2.1 mX8_begin.2.2.2.1 ∈ j_wg := (j_me3 16 rfl rfl)
theorem cw_X8_formOf : Cond.code mX8_formOf.1 mX8_formOf.2.1 mX8_formOf.2.2.1 mX8_formOf.2.2.2.1 ∈ j_wg := (j_me3 48 rfl rfl)
theorem cw_X8_init : Cond.code mX8_init.1 mX8_init.2.1 mX8_init.2.2.1 mX8_init.2.2.2.1 ∈ j_wg := (j_me1 152 rfl rfl)
theorem cw_X8_isForm : Cond.code mX8_isForm.1 mX8_isForm.2.1 mX8_isForm.2.2.1 mX8_isForm.2.2.2.1 ∈ j_wg := (j_me3 12 rfl rfl)
theorem cw_X8_isLabelled : Cond.code mX8_isLabelled.1 mX8_isLabelled.2.1 mX8_isLabelled.2.2.1 mX8_isLabelled.2.2.2.1 ∈ j_wg := (j_me3 78 rfl rfl)
theorem cw_X8_numberOf : Cond.code mX8_numberOf.1 mX8_numberOf.2.1 mX8_numberOf.2.2.1 mX8_numberOf.2.2.2.1 ∈ j_wg := (j_me3 44 rfl rfl)
theorem cw_X8_partOf : Cond.code mX8_partOf.1 mX8_partOf.2.1 mX8_partOf.2.2.1 mX8_partOf.2.2.2.1 ∈ j_wg := (j_me3 20 rfl rfl)
theorem cw_X8_write : Cond.code mX8_write.1 mX8_write.2.1 mX8_write.2.2.1 mX8_write.2.2.2.1 ∈ j_wg := (j_me3 40 rfl rfl)
theorem cw_X8_writeRoman : Cond.code mX8_writeRoman.1 mX8_writeRoman.2.1 mX8_writeRoman.2.2.1 mX8_writeRoman.2.2.2.1 ∈ j_wg := (j_me3 52 rfl rfl)
theorem cw_X8_writeWhole : Cond.code mX8_writeWhole.1 mX8_writeWhole.2.1 mX8_writeWhole.2.2.1 mX8_writeWhole.2.2.2.1 ∈ j_wg := (j_me3 66 rfl rfl)
theorem cw_X9_append : Cond.code mX9_append.1 mX9_append.2.1 mX9_append.2.2.1 mX9_append.2.2.2.1 ∈ j_wg := (j_me3 93 rfl rfl)
theorem cw_X9_beginsAlike : Cond.code mX9_beginsAlike.1 mX9_beginsAlike.2.1 mX9_beginsAlike.2.2.1 mX9_beginsAlike.2.2.2.1 ∈ j_wg := (j_me3 172 rfl rfl)
theorem cw_X9_byBytes : Cond.code mX9_byBytes.1 mX9_byBytes.2.1 mX9_byBytes.2.2.1 mX9_byBytes.2.2.2.1 ∈ j_wg := (j_me3 126 rfl rfl)
theorem cw_X9_clear : Cond.code mX9_clear.1 mX9_clear.2.1 mX9_clear.2.2.1 mX9_clear.2.2.2.1 ∈ j_wg := (j_me3 101 rfl rfl)
theorem cw_X9_copyAll : Cond.code mX9_copyAll.1 mX9_copyAll.2.1 mX9_copyAll.2.2.1 mX9_copyAll.2.2.2.1 ∈ j_wg := (j_me2 178 rfl rfl)
theorem cw_X9_copyRow : Cond.code mX9_copyRow.1 mX9_copyRow.2.1 mX9_copyRow.2.2.1 mX9_copyRow.2.2.2.1 ∈ j_wg := (j_me3 137 rfl rfl)
theorem cw_X9_countOf : Cond.code mX9_countOf.1 mX9_countOf.2.1 mX9_countOf.2.2.1 mX9_countOf.2.2.2.1 ∈ j_wg := (j_me3 89 rfl rfl)
theorem cw_X9_firstBlank : Cond.code mX9_firstBlank.1 mX9_firstBlank.2.1 mX9_firstBlank.2.2.1 mX9_firstBlank.2.2.2.1 ∈ j_wg := (j_me3 209 rfl rfl)
theorem cw_X9_init : Cond.code mX9_init.1 mX9_init.2.1 mX9_init.2.2.1 mX9_init.2.2.2.1 ∈ j_wg := (j_me1 42 rfl rfl)
theorem cw_X9_isOfLetters : Cond.code mX9_isOfLetters.1 mX9_isOfLetters.2.1 mX9_isOfLetters.2.2.1 mX9_isOfLetters.2.2.2.1 ∈ j_wg := (j_me3 157 rfl rfl)
theorem cw_X9_isTidy : Cond.code mX9_isTidy.1 mX9_isTidy.2.1 mX9_isTidy.2.2.1 mX9_isTidy.2.2.2.1 ∈ j_wg := (j_me3 113 rfl rfl)
theorem cw_X9_signAt : Cond.code mX9_signAt.1 mX9_signAt.2.1 mX9_signAt.2.2.1 mX9_signAt.2.2.2.1 ∈ j_wg := (j_me3 118 rfl rfl)
theorem ol_X11_3 : Cond.methodLink "BackIndex" 3 objectInit ∈ j_wg := (j_me1 23 (by decide +kernel) rfl)
theorem ml_X11_11 : j_ML 2 "BackIndex" 11 mX4_init 0 := ⟨Or.inr ⟨"BackIndex", (j_mn1 28 (by decide +kernel) rfl)⟩, ⟨(j_me1 29 (by decide +kernel) rfl), rfl, rfl⟩, cw_X4_init, (j_me1 2 (by decide +kernel) rfl), by decide +kernel, by decide +kernel, by decide +kernel⟩
theorem ml_X11_28 : j_ML 2 "BackIndex" 28 mX0_init 0 := ⟨Or.inr ⟨"BackIndex", (j_mn1 131 (by decide +kernel) rfl)⟩, ⟨(j_me1 132 (by decide +kernel) rfl), rfl, rfl⟩, cw_X0_init, (j_me1 7 (by decide +kernel) rfl), by decide +kernel, by decide +kernel, by decide +kernel⟩
theorem ml_X11_35 : j_ML 2 "BackIndex" 35 mX8_init 0 := ⟨Or.inr ⟨"BackIndex", (j_mn1 150 (by decide +kernel) rfl)⟩, ⟨(j_me1 151 (by decide +kernel) rfl), rfl, rfl⟩, cw_X8_init, (j_me1 8 (by decide +kernel) rfl), by decide +kernel, by decide +kernel, by decide +kernel⟩
theorem ml_X11_42 : j_ML 2 "BackIndex" 42 mX9_init 1 := ⟨Or.inr ⟨"BackIndex", (j_mn1 179 (by decide +kernel) rfl)⟩, ⟨(j_me1 41 (by decide +kernel) rfl), rfl, rfl⟩, cw_X9_init, (j_me1 4 (by decide +kernel) rfl), by decide +kernel, by decide +kernel, by decide +kernel⟩
theorem ml_X11_51 : j_ML 2 "BackIndex" 51 mX5_init 0 := ⟨Or.inr ⟨"BackIndex", (j_mn1 182 (by decide +kernel) rfl)⟩, ⟨(j_me1 183 (by decide +kernel) rfl), rfl, rfl⟩, cw_X5_init, (j_me1 9 (by decide +kernel) rfl), by decide +kernel, by decide +kernel, by decide +kernel⟩
theorem ml_X11_58 : j_ML 2 "BackIndex" 58 mX6_init 2 := ⟨Or.inr ⟨"BackIndex", (j_mn1 222 (by decide +kernel) rfl)⟩, ⟨(j_me1 223 (by decide +kernel) rfl), rfl, rfl⟩, cw_X6_init, (j_me1 11 (by decide +kernel) rfl), by decide +kernel, by decide +kernel, by decide +kernel⟩
theorem ml_X11_67 : j_ML 2 "BackIndex" 67 mX3_init 0 := ⟨Or.inr ⟨"BackIndex", (j_mn2 50 (by decide +kernel) rfl)⟩, ⟨(j_me2 51 (by decide +kernel) rfl), rfl, rfl⟩, cw_X3_init, (j_me1 13 (by decide +kernel) rfl), by decide +kernel, by decide +kernel, by decide +kernel⟩
theorem ml_X11_91 : j_ML 0 "BackIndex" 91 mX4_hasGap 1 := ⟨Or.inr ⟨"BackIndex", (j_mn2 155 (by decide +kernel) rfl)⟩, ⟨(j_me2 157 (by decide +kernel) rfl), (j_sel (n := 4) (by decide +kernel))⟩, cw_X4_hasGap, (j_me1 2 (by decide +kernel) rfl), by decide +kernel, by decide +kernel, by decide +kernel⟩
theorem ml_X11_98 : j_ML 0 "BackIndex" 98 mX0_save 1 := ⟨Or.inr ⟨"BackIndex", (j_mn2 159 (by decide +kernel) rfl)⟩, ⟨(j_me2 161 (by decide +kernel) rfl), (j_sel (n := 3) (by decide +kernel))⟩, cw_X0_save, (j_me1 7 (by decide +kernel) rfl), by decide +kernel, by decide +kernel, by decide +kernel⟩
theorem ml_X11_102 : j_ML 0 "BackIndex" 102 mX4_insertWord 2 := ⟨Or.inr ⟨"BackIndex", (j_mn2 189 (by decide +kernel) rfl)⟩, ⟨(j_me2 191 (by decide +kernel) rfl), (j_sel (n := 4) (by decide +kernel))⟩, cw_X4_insertWord, (j_me1 2 (by decide +kernel) rfl), by decide +kernel, by decide +kernel, by decide +kernel⟩
theorem ml_X11_106 : j_ML 0 "BackIndex" 106 mX4_hasWord 1 := ⟨Or.inr ⟨"BackIndex", (j_mn2 202 (by decide +kernel) rfl)⟩, ⟨(j_me2 204 (by decide +kernel) rfl), (j_sel (n := 4) (by decide +kernel))⟩, cw_X4_hasWord, (j_me1 2 (by decide +kernel) rfl), by decide +kernel, by decide +kernel, by decide +kernel⟩
theorem ml_X11_109 : j_ML 0 "BackIndex" 109 mX4_removeWord 1 := ⟨Or.inr ⟨"BackIndex", (j_mn2 206 (by decide +kernel) rfl)⟩, ⟨(j_me2 208 (by decide +kernel) rfl), (j_sel (n := 4) (by decide +kernel))⟩, cw_X4_removeWord, (j_me1 2 (by decide +kernel) rfl), by decide +kernel, by decide +kernel, by decide +kernel⟩
theorem ml_X11_113 : j_ML 0 "BackIndex" 113 mX11_failed 1 := ⟨Or.inl (j_me2 215 (by decide +kernel) rfl), ⟨(j_me2 217 (by decide +kernel) rfl), (j_sel (n := 15) (by decide +kernel))⟩, cw_X11_failed, (j_me1 1 (by decide +kernel) rfl), by decide +kernel, by decide +kernel, by decide +kernel⟩
theorem ml_X11_116 : j_ML 1 "BackIndex" 116 mX11_isWithin 3 := ⟨Or.inl (j_me2 219 (by decide +kernel) rfl), (j_me2 220 (by decide +kernel) rfl), cw_X11_isWithin, (j_me1 1 (by decide +kernel) rfl), by decide +kernel, by decide +kernel, by decide +kernel⟩
theorem ml_X11_120 : j_ML 0 "BackIndex" 120 mX4_shiftWords 3 := ⟨Or.inr ⟨"BackIndex", (j_mn2 222 (by decide +kernel) rfl)⟩, ⟨(j_me2 224 (by decide +kernel) rfl), (j_sel (n := 4) (by decide +kernel))⟩, cw_X4_shiftWords, (j_me1 2 (by decide +kernel) rfl), by decide +kernel, by decide +kernel, by decide +kernel⟩
theorem ml_X11_128 : j_ML 1 "BackIndex" 128 mX8_isForm 1 := ⟨Or.inr ⟨"BackIndex", (j_mn3 10 (by decide +kernel) rfl)⟩, (j_me3 11 (by decide +kernel) rfl), cw_X8_isForm, (j_me1 8 (by decide +kernel) rfl), by decide +kernel, by decide +kernel, by decide +kernel⟩
theorem ml_X11_131 : j_ML 0 "BackIndex" 131 mX8_begin 4 := ⟨Or.inr ⟨"BackIndex", (j_mn3 13 (by decide +kernel) rfl)⟩, ⟨(j_me3 15 (by decide +kernel) rfl), (j_sel (n := 7) (by decide +kernel))⟩, cw_X8_begin, (j_me1 8 (by decide +kernel) rfl), by decide +kernel, by decide +kernel, by decide +kernel⟩
theorem ml_X11_138 : j_ML 0 "BackIndex" 138 mX11_hasPage 1 := ⟨Or.inl (j_me3 26 (by decide +kernel) rfl), ⟨(j_me3 28 (by decide +kernel) rfl), (j_sel (n := 15) (by decide +kernel))⟩, cw_X11_hasPage, (j_me1 1 (by decide +kernel) rfl), by decide +kernel, by decide +kernel, by decide +kernel⟩
theorem ml_X11_141 : j_ML 0 "BackIndex" 141 mX8_write 1 := ⟨Or.inr ⟨"BackIndex", (j_mn3 37 (by decide +kernel) rfl)⟩, ⟨(j_me3 39 (by decide +kernel) rfl), (j_sel (n := 7) (by decide +kernel))⟩, cw_X8_write, (j_me1 8 (by decide +kernel) rfl), by decide +kernel, by decide +kernel, by decide +kernel⟩
theorem ml_X11_147 : j_ML 0 "BackIndex" 147 mX11_pageCount 0 := ⟨Or.inl (j_me3 30 (by decide +kernel) rfl), ⟨(j_me3 32 (by decide +kernel) rfl), (j_sel (n := 15) (by decide +kernel))⟩, cw_X11_pageCount, (j_me1 1 (by decide +kernel) rfl), by decide +kernel, by decide +kernel, by decide +kernel⟩
theorem ml_X11_151 : j_ML 0 "BackIndex" 151 mX8_isLabelled 4 := ⟨Or.inr ⟨"BackIndex", (j_mn3 75 (by decide +kernel) rfl)⟩, ⟨(j_me3 77 (by decide +kernel) rfl), (j_sel (n := 7) (by decide +kernel))⟩, cw_X8_isLabelled, (j_me1 8 (by decide +kernel) rfl), by decide +kernel, by decide +kernel, by decide +kernel⟩
theorem ml_X11_154 : j_ML 1 "BackIndex" 154 mX11_byteOf 2 := ⟨Or.inl (j_me3 83 (by decide +kernel) rfl), (j_me3 84 (by decide +kernel) rfl), cw_X11_byteOf, (j_me1 1 (by decide +kernel) rfl), by decide +kernel, by decide +kernel, by decide +kernel⟩
theorem ml_X11_158 : j_ML 0 "BackIndex" 158 mX9_countOf 1 := ⟨Or.inr ⟨"BackIndex", (j_mn3 86 (by decide +kernel) rfl)⟩, ⟨(j_me3 88 (by decide +kernel) rfl), (j_sel (n := 2) (by decide +kernel))⟩, cw_X9_countOf, (j_me1 4 (by decide +kernel) rfl), by decide +kernel, by decide +kernel, by decide +kernel⟩
theorem ml_X11_161 : j_ML 0 "BackIndex" 161 mX9_append 2 := ⟨Or.inr ⟨"BackIndex", (j_mn3 90 (by decide +kernel) rfl)⟩, ⟨(j_me3 92 (by decide +kernel) rfl), (j_sel (n := 2) (by decide +kernel))⟩, cw_X9_append, (j_me1 4 (by decide +kernel) rfl), by decide +kernel, by decide +kernel, by decide +kernel⟩
theorem ml_X11_164 : j_ML 0 "BackIndex" 164 mX9_clear 1 := ⟨Or.inr ⟨"BackIndex", (j_mn3 98 (by decide +kernel) rfl)⟩, ⟨(j_me3 100 (by decide +kernel) rfl), (j_sel (n := 2) (by decide +kernel))⟩, cw_X9_clear, (j_me1 4 (by decide +kernel) rfl), by decide +kernel, by decide +kernel, by decide +kernel⟩
theorem ml_X11_167 : j_ML 0 "BackIndex" 167 mX11_isNewHead 0 := ⟨Or.inl (j_me3 106 (by decide +kernel) rfl), ⟨(j_me3 108 (by decide +kernel) rfl), (j_sel (n := 15) (by decide +kernel))⟩, cw_X11_isNewHead, (j_me1 1 (by decide +kernel) rfl), by decide +kernel, by decide +kernel, by decide +kernel⟩
theorem ml_X11_176 : j_ML 0 "BackIndex" 176 mX2_add 1 := ⟨Or.inr ⟨"BackIndex", (j_mn3 130 (by decide +kernel) rfl)⟩, ⟨(j_me3 132 (by decide +kernel) rfl), (j_sel (n := 4) (by decide +kernel))⟩, cw_X2_add, (j_me1 3 (by decide +kernel) rfl), by decide +kernel, by decide +kernel, by decide +kernel⟩
theorem ml_X11_180 : j_ML 0 "BackIndex" 180 mX2_has 1 := ⟨Or.inr ⟨"BackIndex", (j_mn3 145 (by decide +kernel) rfl)⟩, ⟨(j_me3 147 (by decide +kernel) rfl), (j_sel (n := 4) (by decide +kernel))⟩, cw_X2_has, (j_me1 3 (by decide +kernel) rfl), by decide +kernel, by decide +kernel, by decide +kernel⟩
theorem ml_X11_183 : j_ML 0 "BackIndex" 183 mX9_isTidy 1 := ⟨Or.inr ⟨"BackIndex", (j_mn3 110 (by decide +kernel) rfl)⟩, ⟨(j_me3 112 (by decide +kernel) rfl), (j_sel (n := 2) (by decide +kernel))⟩, cw_X9_isTidy, (j_me1 4 (by decide +kernel) rfl), by decide +kernel, by decide +kernel, by decide +kernel⟩
theorem ml_X11_189 : j_ML 0 "BackIndex" 189 mX9_copyRow 3 := ⟨Or.inr ⟨"BackIndex", (j_mn3 149 (by decide +kernel) rfl)⟩, ⟨(j_me3 136 (by decide +kernel) rfl), (j_sel (n := 2) (by decide +kernel))⟩, cw_X9_copyRow, (j_me1 4 (by decide +kernel) rfl), by decide +kernel, by decide +kernel, by decide +kernel⟩
theorem ml_X11_193 : j_ML 0 "BackIndex" 193 mX9_isOfLetters 1 := ⟨Or.inr ⟨"BackIndex", (j_mn3 154 (by decide +kernel) rfl)⟩, ⟨(j_me3 156 (by decide +kernel) rfl), (j_sel (n := 2) (by decide +kernel))⟩, cw_X9_isOfLetters, (j_me1 4 (by decide +kernel) rfl), by decide +kernel, by decide +kernel, by decide +kernel⟩
theorem ml_X11_196 : j_ML 0 "BackIndex" 196 mX5_isPassed 1 := ⟨Or.inr ⟨"BackIndex", (j_mn3 164 (by decide +kernel) rfl)⟩, ⟨(j_me3 166 (by decide +kernel) rfl), (j_sel (n := 4) (by decide +kernel))⟩, cw_X5_isPassed, (j_me1 9 (by decide +kernel) rfl), by decide +kernel, by decide +kernel, by decide +kernel⟩
theorem ml_X11_200 : j_ML 0 "BackIndex" 200 mX5_addPassed 1 := ⟨Or.inr ⟨"BackIndex", (j_mn3 174 (by decide +kernel) rfl)⟩, ⟨(j_me3 176 (by decide +kernel) rfl), (j_sel (n := 4) (by decide +kernel))⟩, cw_X5_addPassed, (j_me1 9 (by decide +kernel) rfl), by decide +kernel, by decide +kernel, by decide +kernel⟩
theorem ml_X11_206 : j_ML 0 "BackIndex" 206 mX2_rows 2 := ⟨Or.inr ⟨"BackIndex", (j_mn3 183 (by decide +kernel) rfl)⟩, ⟨(j_me3 185 (by decide +kernel) rfl), (j_sel (n := 4) (by decide +kernel))⟩, cw_X2_rows, (j_me1 3 (by decide +kernel) rfl), by decide +kernel, by decide +kernel, by decide +kernel⟩
theorem ml_X11_210 : j_ML 0 "BackIndex" 210 mX9_signAt 2 := ⟨Or.inr ⟨"BackIndex", (j_mn3 192 (by decide +kernel) rfl)⟩, ⟨(j_me3 117 (by decide +kernel) rfl), (j_sel (n := 2) (by decide +kernel))⟩, cw_X9_signAt, (j_me1 4 (by decide +kernel) rfl), by decide +kernel, by decide +kernel, by decide +kernel⟩
theorem ml_X11_214 : j_ML 0 "BackIndex" 214 mX5_orderOf 4 := ⟨Or.inr ⟨"BackIndex", (j_mn3 197 (by decide +kernel) rfl)⟩, ⟨(j_me3 199 (by decide +kernel) rfl), (j_sel (n := 4) (by decide +kernel))⟩, cw_X5_orderOf, (j_me1 9 (by decide +kernel) rfl), by decide +kernel, by decide +kernel, by decide +kernel⟩
theorem ml_X11_221 : j_ML 0 "BackIndex" 221 mX7_leadBetween 2 := ⟨Or.inr ⟨"BackIndex", (j_mn4 3 (by decide +kernel) rfl)⟩, ⟨(j_me4 5 (by decide +kernel) rfl), (j_sel (n := 6) (by decide +kernel))⟩, cw_X7_leadBetween, (j_me1 6 (by decide +kernel) rfl), by decide +kernel, by decide +kernel, by decide +kernel⟩
theorem ml_X11_227 : j_ML 0 "BackIndex" 227 mX2_remove 1 := ⟨Or.inr ⟨"BackIndex", (j_mn4 22 (by decide +kernel) rfl)⟩, ⟨(j_me4 24 (by decide +kernel) rfl), (j_sel (n := 4) (by decide +kernel))⟩, cw_X2_remove, (j_me1 3 (by decide +kernel) rfl), by decide +kernel, by decide +kernel, by decide +kernel⟩
theorem ml_X11_230 : j_ML 0 "BackIndex" 230 mX7_replaceHead 2 := ⟨Or.inr ⟨"BackIndex", (j_mn4 27 (by decide +kernel) rfl)⟩, ⟨(j_me4 29 (by decide +kernel) rfl), (j_sel (n := 6) (by decide +kernel))⟩, cw_X7_replaceHead, (j_me1 6 (by decide +kernel) rfl), by decide +kernel, by decide +kernel, by decide +kernel⟩
theorem ml_X11_233 : j_ML 0 "BackIndex" 233 mX11_hasHeads 3 := ⟨Or.inl (j_me4 38 (by decide +kernel) rfl), ⟨(j_me4 40 (by decide +kernel) rfl), (j_sel (n := 15) (by decide +kernel))⟩, cw_X11_hasHeads, (j_me1 1 (by decide +kernel) rfl), by decide +kernel, by decide +kernel, by decide +kernel⟩
theorem ml_X11_237 : j_ML 0 "BackIndex" 237 mX7_add 6 := ⟨Or.inr ⟨"BackIndex", (j_mn4 42 (by decide +kernel) rfl)⟩, ⟨(j_me4 44 (by decide +kernel) rfl), (j_sel (n := 6) (by decide +kernel))⟩, cw_X7_add, (j_me1 6 (by decide +kernel) rfl), by decide +kernel, by decide +kernel, by decide +kernel⟩
theorem ml_X11_240 : j_ML 0 "BackIndex" 240 mX7_has 1 := ⟨Or.inr ⟨"BackIndex", (j_mn4 58 (by decide +kernel) rfl)⟩, ⟨(j_me4 13 (by decide +kernel) rfl), (j_sel (n := 6) (by decide +kernel))⟩, cw_X7_has, (j_me1 6 (by decide +kernel) rfl), by decide +kernel, by decide +kernel, by decide +kernel⟩
theorem ml_X11_241 : j_ML 0 "BackIndex" 241 mX7_remove 1 := ⟨Or.inr ⟨"BackIndex", (j_mn4 59 (by decide +kernel) rfl)⟩, ⟨(j_me4 61 (by decide +kernel) rfl), (j_sel (n := 6) (by decide +kernel))⟩, cw_X7_remove, (j_me1 6 (by decide +kernel) rfl), by decide +kernel, by decide +kernel, by decide +kernel⟩
theorem ml_X11_248 : j_ML 0 "BackIndex" 248 mX7_headAt 2 := ⟨Or.inr ⟨"BackIndex", (j_mn4 67 (by decide +kernel) rfl)⟩, ⟨(j_me4 9 (by decide +kernel) rfl), (j_sel (n := 6) (by decide +kernel))⟩, cw_X7_headAt, (j_me1 6 (by decide +kernel) rfl), by decide +kernel, by decide +kernel, by decide +kernel⟩
theorem ml_X11_254 : j_ML 1 "BackIndex" 254 mX11_pageOfGap 2 := ⟨Or.inl (j_me3 34 (by decide +kernel) rfl), (j_me3 35 (by decide +kernel) rfl), cw_X11_pageOfGap, (j_me1 1 (by decide +kernel) rfl), by decide +kernel, by decide +kernel, by decide +kernel⟩
theorem ml_X11_257 : j_ML 0 "BackIndex" 257 mX11_tellMain 0 := ⟨Or.inl (j_me4 72 (by decide +kernel) rfl), ⟨(j_me4 74 (by decide +kernel) rfl), (j_sel (n := 15) (by decide +kernel))⟩, cw_X11_tellMain, (j_me1 1 (by decide +kernel) rfl), by decide +kernel, by decide +kernel, by decide +kernel⟩
theorem ml_X11_260 : j_ML 0 "BackIndex" 260 mX11_tellNote 1 := ⟨Or.inl (j_me4 84 (by decide +kernel) rfl), ⟨(j_me4 86 (by decide +kernel) rfl), (j_sel (n := 15) (by decide +kernel))⟩, cw_X11_tellNote, (j_me1 1 (by decide +kernel) rfl), by decide +kernel, by decide +kernel, by decide +kernel⟩
theorem ml_X11_263 : j_ML 0 "BackIndex" 263 mX11_tellSee 0 := ⟨Or.inl (j_me4 88 (by decide +kernel) rfl), ⟨(j_me4 90 (by decide +kernel) rfl), (j_sel (n := 15) (by decide +kernel))⟩, cw_X11_tellSee, (j_me1 1 (by decide +kernel) rfl), by decide +kernel, by decide +kernel, by decide +kernel⟩
theorem ml_X11_266 : j_ML 0 "BackIndex" 266 mX11_tellAlso 0 := ⟨Or.inl (j_me4 92 (by decide +kernel) rfl), ⟨(j_me4 94 (by decide +kernel) rfl), (j_sel (n := 15) (by decide +kernel))⟩, cw_X11_tellAlso, (j_me1 1 (by decide +kernel) rfl), by decide +kernel, by decide +kernel, by decide +kernel⟩
theorem ml_X11_269 : j_ML 0 "BackIndex" 269 mX11_tellPoint 0 := ⟨Or.inl (j_me4 80 (by decide +kernel) rfl), ⟨(j_me4 82 (by decide +kernel) rfl), (j_sel (n := 15) (by decide +kernel))⟩, cw_X11_tellPoint, (j_me1 1 (by decide +kernel) rfl), by decide +kernel, by decide +kernel, by decide +kernel⟩
theorem ml_X11_272 : j_ML 0 "BackIndex" 272 mX11_refused 1 := ⟨Or.inl (j_me4 100 (by decide +kernel) rfl), ⟨(j_me4 102 (by decide +kernel) rfl), (j_sel (n := 15) (by decide +kernel))⟩, cw_X11_refused, (j_me1 1 (by decide +kernel) rfl), by decide +kernel, by decide +kernel, by decide +kernel⟩
theorem ml_X11_275 : j_ML 0 "BackIndex" 275 mX11_showMain 1 := ⟨Or.inl (j_me4 104 (by decide +kernel) rfl), ⟨(j_me4 106 (by decide +kernel) rfl), (j_sel (n := 15) (by decide +kernel))⟩, cw_X11_showMain, (j_me1 1 (by decide +kernel) rfl), by decide +kernel, by decide +kernel, by decide +kernel⟩
theorem ml_X11_278 : j_ML 0 "BackIndex" 278 mX11_showLent 1 := ⟨Or.inl (j_me4 108 (by decide +kernel) rfl), ⟨(j_me4 110 (by decide +kernel) rfl), (j_sel (n := 15) (by decide +kernel))⟩, cw_X11_showLent, (j_me1 1 (by decide +kernel) rfl), by decide +kernel, by decide +kernel, by decide +kernel⟩
theorem ml_X11_281 : j_ML 0 "BackIndex" 281 mX6_fill 5 := ⟨Or.inr ⟨"BackIndex", (j_mn4 116 (by decide +kernel) rfl)⟩, ⟨(j_me4 118 (by decide +kernel) rfl), (j_sel (n := 14) (by decide +kernel))⟩, cw_X6_fill, (j_me1 11 (by decide +kernel) rfl), by decide +kernel, by decide +kernel, by decide +kernel⟩
theorem ml_X11_286 : j_ML 0 "BackIndex" 286 mX3_has 1 := ⟨Or.inr ⟨"BackIndex", (j_mn5 52 (by decide +kernel) rfl)⟩, ⟨(j_me5 7 (by decide +kernel) rfl), (j_sel (n := 11) (by decide +kernel))⟩, cw_X3_has, (j_me1 13 (by decide +kernel) rfl), by decide +kernel, by decide +kernel, by decide +kernel⟩
theorem ml_X11_290 : j_ML 1 "BackIndex" 290 mX11_headOf 2 := ⟨Or.inl (j_me4 166 (by decide +kernel) rfl), (j_me4 16 (by decide +kernel) rfl), cw_X11_headOf, (j_me1 1 (by decide +kernel) rfl), by decide +kernel, by decide +kernel, by decide +kernel⟩
theorem ml_X11_293 : j_ML 0 "BackIndex" 293 mX3_placesOf 1 := ⟨Or.inr ⟨"BackIndex", (j_mn5 53 (by decide +kernel) rfl)⟩, ⟨(j_me5 3 (by decide +kernel) rfl), (j_sel (n := 11) (by decide +kernel))⟩, cw_X3_placesOf, (j_me1 13 (by decide +kernel) rfl), by decide +kernel, by decide +kernel, by decide +kernel⟩
theorem ml_X11_296 : j_ML 0 "BackIndex" 296 mX3_withinOf 1 := ⟨Or.inr ⟨"BackIndex", (j_mn5 54 (by decide +kernel) rfl)⟩, ⟨(j_me5 56 (by decide +kernel) rfl), (j_sel (n := 11) (by decide +kernel))⟩, cw_X3_withinOf, (j_me1 13 (by decide +kernel) rfl), by decide +kernel, by decide +kernel, by decide +kernel⟩
theorem ml_X11_299 : j_ML 0 "BackIndex" 299 mX3_seesOf 1 := ⟨Or.inr ⟨"BackIndex", (j_mn5 58 (by decide +kernel) rfl)⟩, ⟨(j_me5 38 (by decide +kernel) rfl), (j_sel (n := 11) (by decide +kernel))⟩, cw_X3_seesOf, (j_me1 13 (by decide +kernel) rfl), by decide +kernel, by decide +kernel, by decide +kernel⟩
theorem ml_X11_302 : j_ML 1 "BackIndex" 302 mX11_headsIn 1 := ⟨Or.inl (j_me4 163 (by decide +kernel) rfl), (j_me4 164 (by decide +kernel) rfl), cw_X11_headsIn, (j_me1 1 (by decide +kernel) rfl), by decide +kernel, by decide +kernel, by decide +kernel⟩
theorem ml_X11_308 : j_ML 0 "BackIndex" 308 mX3_placeStart 1 := ⟨Or.inr ⟨"BackIndex", (j_mn5 63 (by decide +kernel) rfl)⟩, ⟨(j_me5 11 (by decide +kernel) rfl), (j_sel (n := 11) (by decide +kernel))⟩, cw_X3_placeStart, (j_me1 13 (by decide +kernel) rfl), by decide +kernel, by decide +kernel, by decide +kernel⟩
theorem ml_X11_314 : j_ML 0 "BackIndex" 314 mX3_leadStart 1 := ⟨Or.inr ⟨"BackIndex", (j_mn5 68 (by decide +kernel) rfl)⟩, ⟨(j_me5 42 (by decide +kernel) rfl), (j_sel (n := 11) (by decide +kernel))⟩, cw_X3_leadStart, (j_me1 13 (by decide +kernel) rfl), by decide +kernel, by decide +kernel, by decide +kernel⟩
theorem ml_X11_317 : j_ML 1 "BackIndex" 317 mX11_pathOf 3 := ⟨Or.inl (j_me5 73 (by decide +kernel) rfl), (j_me4 47 (by decide +kernel) rfl), cw_X11_pathOf, (j_me1 1 (by decide +kernel) rfl), by decide +kernel, by decide +kernel, by decide +kernel⟩
theorem ml_X11_321 : j_ML 0 "BackIndex" 321 mX3_entryOf 1 := ⟨Or.inr ⟨"BackIndex", (j_mn5 74 (by decide +kernel) rfl)⟩, ⟨(j_me5 33 (by decide +kernel) rfl), (j_sel (n := 11) (by decide +kernel))⟩, cw_X3_entryOf, (j_me1 13 (by decide +kernel) rfl), by decide +kernel, by decide +kernel, by decide +kernel⟩
theorem ml_X11_326 : j_ML 0 "BackIndex" 326 mX9_beginsAlike 3 := ⟨Or.inr ⟨"BackIndex", (j_mn5 79 (by decide +kernel) rfl)⟩, ⟨(j_me3 171 (by decide +kernel) rfl), (j_sel (n := 2) (by decide +kernel))⟩, cw_X9_beginsAlike, (j_me1 4 (by decide +kernel) rfl), by decide +kernel, by decide +kernel, by decide +kernel⟩
theorem ml_X11_336 : j_ML 0 "BackIndex" 336 mX3_countLed 1 := ⟨Or.inr ⟨"BackIndex", (j_mn5 92 (by decide +kernel) rfl)⟩, ⟨(j_me5 94 (by decide +kernel) rfl), (j_sel (n := 11) (by decide +kernel))⟩, cw_X3_countLed, (j_me1 13 (by decide +kernel) rfl), by decide +kernel, by decide +kernel, by decide +kernel⟩
theorem ml_X11_339 : j_ML 0 "BackIndex" 339 mX3_isAlike 3 := ⟨Or.inr ⟨"BackIndex", (j_mn5 100 (by decide +kernel) rfl)⟩, ⟨(j_me5 102 (by decide +kernel) rfl), (j_sel (n := 11) (by decide +kernel))⟩, cw_X3_isAlike, (j_me1 13 (by decide +kernel) rfl), by decide +kernel, by decide +kernel, by decide +kernel⟩
theorem ml_X11_344 : j_ML 1 "BackIndex" 344 mX11_digitsOf 1 := ⟨Or.inl (j_me5 113 (by decide +kernel) rfl), (j_me5 114 (by decide +kernel) rfl), cw_X11_digitsOf, (j_me1 1 (by decide +kernel) rfl), by decide +kernel, by decide +kernel, by decide +kernel⟩
theorem ml_X11_347 : j_ML 1 "BackIndex" 347 mX11_unlikeDigits 2 := ⟨Or.inl (j_me5 116 (by decide +kernel) rfl), (j_me5 117 (by decide +kernel) rfl), cw_X11_unlikeDigits, (j_me1 1 (by decide +kernel) rfl), by decide +kernel, by decide +kernel, by decide +kernel⟩
theorem ml_X11_350 : j_ML 1 "BackIndex" 350 mJM_min 2 := ⟨Or.inl (j_me5 122 (by decide +kernel) rfl), (j_me2 180 (by decide +kernel) rfl), cw_JM_min, (j_me1 5 (by decide +kernel) rfl), by decide +kernel, by decide +kernel, by decide +kernel⟩
theorem ml_X11_355 : j_ML 1 "BackIndex" 355 mJM_max 2 := ⟨Or.inl (j_me5 123 (by decide +kernel) rfl), (j_me1 45 (by decide +kernel) rfl), cw_JM_max, (j_me1 5 (by decide +kernel) rfl), by decide +kernel, by decide +kernel, by decide +kernel⟩
theorem ml_X11_358 : j_ML 1 "BackIndex" 358 mX11_lastDigits 2 := ⟨Or.inl (j_me5 119 (by decide +kernel) rfl), (j_me5 120 (by decide +kernel) rfl), cw_X11_lastDigits, (j_me1 1 (by decide +kernel) rfl), by decide +kernel, by decide +kernel, by decide +kernel⟩
theorem ml_X11_361 : j_ML 0 "BackIndex" 361 mX0_restore 1 := ⟨Or.inr ⟨"BackIndex", (j_mn5 132 (by decide +kernel) rfl)⟩, ⟨(j_me5 134 (by decide +kernel) rfl), (j_sel (n := 3) (by decide +kernel))⟩, cw_X0_restore, (j_me1 7 (by decide +kernel) rfl), by decide +kernel, by decide +kernel, by decide +kernel⟩
theorem ml_X11_366 : j_ML 0 "BackIndex" 366 mX2_countThere 0 := ⟨Or.inr ⟨"BackIndex", (j_mn5 160 (by decide +kernel) rfl)⟩, ⟨(j_me5 162 (by decide +kernel) rfl), (j_sel (n := 4) (by decide +kernel))⟩, cw_X2_countThere, (j_me1 3 (by decide +kernel) rfl), by decide +kernel, by decide +kernel, by decide +kernel⟩
theorem ml_X11_369 : j_ML 0 "BackIndex" 369 mX7_countThere 0 := ⟨Or.inr ⟨"BackIndex", (j_mn5 164 (by decide +kernel) rfl)⟩, ⟨(j_me5 166 (by decide +kernel) rfl), (j_sel (n := 6) (by decide +kernel))⟩, cw_X7_countThere, (j_me1 6 (by decide +kernel) rfl), by decide +kernel, by decide +kernel, by decide +kernel⟩
theorem ml_X11_370 : j_ML 0 "BackIndex" 370 mX2_hasSigns 1 := ⟨Or.inr ⟨"BackIndex", (j_mn3 119 (by decide +kernel) rfl)⟩, ⟨(j_me3 121 (by decide +kernel) rfl), (j_sel (n := 4) (by decide +kernel))⟩, cw_X2_hasSigns, (j_me1 3 (by decide +kernel) rfl), by decide +kernel, by decide +kernel, by decide +kernel⟩
theorem ml_X11_373 : j_ML 0 "BackIndex" 373 mX11_leave 1 := ⟨Or.inl (j_me4 76 (by decide +kernel) rfl), ⟨(j_me4 78 (by decide +kernel) rfl), (j_sel (n := 15) (by decide +kernel))⟩, cw_X11_leave, (j_me1 1 (by decide +kernel) rfl), by decide +kernel, by decide +kernel, by decide +kernel⟩
theorem ml_X11_376 : j_ML 1 "BackIndex" 376 mX11_folded 1 := ⟨Or.inl (j_me3 161 (by decide +kernel) rfl), (j_me3 162 (by decide +kernel) rfl), cw_X11_folded, (j_me1 1 (by decide +kernel) rfl), by decide +kernel, by decide +kernel, by decide +kernel⟩
theorem ml_X11_379 : j_ML 1 "BackIndex" 379 mX11_longer 2 := ⟨Or.inl (j_me4 49 (by decide +kernel) rfl), (j_me4 32 (by decide +kernel) rfl), cw_X11_longer, (j_me1 1 (by decide +kernel) rfl), by decide +kernel, by decide +kernel, by decide +kernel⟩
theorem ol_X0_3 : Cond.methodLink "BackIndex$Acts" 3 objectInit ∈ j_wg := (j_me1 134 (by decide +kernel) rfl)
theorem ml_X0_24 : j_ML 2 "BackIndex$Acts" 24 mX4_init 0 := ⟨Or.inr ⟨"BackIndex", (j_mn2 163 (by decide +kernel) rfl)⟩, ⟨(j_me1 29 (by decide +kernel) rfl), rfl, rfl⟩, cw_X4_init, (j_me1 2 (by decide +kernel) rfl), by decide +kernel, by decide +kernel, by decide +kernel⟩
theorem ml_X0_25 : j_ML 0 "BackIndex$Acts" 25 mX4_copyFrom 1 := ⟨Or.inr ⟨"BackIndex", (j_mn2 164 (by decide +kernel) rfl)⟩, ⟨(j_me2 166 (by decide +kernel) rfl), (j_sel (n := 4) (by decide +kernel))⟩, cw_X4_copyFrom, (j_me1 2 (by decide +kernel) rfl), by decide +kernel, by decide +kernel, by decide +kernel⟩
theorem ml_X0_29 : j_ML 1 "BackIndex$Acts" 29 mJM_min 2 := ⟨Or.inl (j_me2 188 (by decide +kernel) rfl), (j_me2 180 (by decide +kernel) rfl), cw_JM_min, (j_me1 5 (by decide +kernel) rfl), by decide +kernel, by decide +kernel, by decide +kernel⟩
theorem ol_X1_3 : Cond.methodLink "BackIndex$Bits" 3 objectInit ∈ j_wg := (j_me1 193 (by decide +kernel) rfl)
theorem ml_X1_22 : j_ML 0 "BackIndex$Bits" 22 mX9_signAt 2 := ⟨Or.inr ⟨"BackIndex", (j_mn3 218 (by decide +kernel) rfl)⟩, ⟨(j_me3 117 (by decide +kernel) rfl), (j_sel (n := 2) (by decide +kernel))⟩, cw_X9_signAt, (j_me1 4 (by decide +kernel) rfl), by decide +kernel, by decide +kernel, by decide +kernel⟩
theorem ml_X1_28 : j_ML 1 "BackIndex$Bits" 28 mX11_isDigit 1 := ⟨Or.inr ⟨"BackIndex", (j_mn3 219 (by decide +kernel) rfl)⟩, (j_me3 220 (by decide +kernel) rfl), cw_X11_isDigit, (j_me1 1 (by decide +kernel) rfl), by decide +kernel, by decide +kernel, by decide +kernel⟩
theorem ml_X1_32 : j_ML 0 "BackIndex$Bits" 32 mX1_readNumber 2 := ⟨Or.inl (j_me3 222 (by decide +kernel) rfl), ⟨(j_me3 224 (by decide +kernel) rfl), (j_sel (n := 3) (by decide +kernel))⟩, cw_X1_readNumber, (j_me1 10 (by decide +kernel) rfl), by decide +kernel, by decide +kernel, by decide +kernel⟩
theorem ml_X1_36 : j_ML 1 "BackIndex$Bits" 36 mX11_isLetter 1 := ⟨Or.inr ⟨"BackIndex", (j_mn3 228 (by decide +kernel) rfl)⟩, (j_me3 159 (by decide +kernel) rfl), cw_X11_isLetter, (j_me1 1 (by decide +kernel) rfl), by decide +kernel, by decide +kernel, by decide +kernel⟩
theorem ml_X1_39 : j_ML 1 "BackIndex$Bits" 39 mX11_folded 1 := ⟨Or.inr ⟨"BackIndex", (j_mn3 229 (by decide +kernel) rfl)⟩, (j_me3 162 (by decide +kernel) rfl), cw_X11_folded, (j_me1 1 (by decide +kernel) rfl), by decide +kernel, by decide +kernel, by decide +kernel⟩
theorem ol_X2_3 : Cond.methodLink "BackIndex$Heads" 3 objectInit ∈ j_wg := (j_me1 37 (by decide +kernel) rfl)
theorem ml_X2_11 : j_ML 2 "BackIndex$Heads" 11 mX9_init 1 := ⟨Or.inr ⟨"BackIndex", (j_mn1 40 (by decide +kernel) rfl)⟩, ⟨(j_me1 41 (by decide +kernel) rfl), rfl, rfl⟩, cw_X9_init, (j_me1 4 (by decide +kernel) rfl), by decide +kernel, by decide +kernel, by decide +kernel⟩
theorem ml_X2_31 : j_ML 0 "BackIndex$Heads" 31 mX9_byBytes 3 := ⟨Or.inr ⟨"BackIndex", (j_mn3 123 (by decide +kernel) rfl)⟩, ⟨(j_me3 125 (by decide +kernel) rfl), (j_sel (n := 2) (by decide +kernel))⟩, cw_X9_byBytes, (j_me1 4 (by decide +kernel) rfl), by decide +kernel, by decide +kernel, by decide +kernel⟩
theorem ml_X2_35 : j_ML 0 "BackIndex$Heads" 35 mX9_copyRow 3 := ⟨Or.inr ⟨"BackIndex", (j_mn3 134 (by decide +kernel) rfl)⟩, ⟨(j_me3 136 (by decide +kernel) rfl), (j_sel (n := 2) (by decide +kernel))⟩, cw_X9_copyRow, (j_me1 4 (by decide +kernel) rfl), by decide +kernel, by decide +kernel, by decide +kernel⟩
theorem ml_X2_39 : j_ML 0 "BackIndex$Heads" 39 mX9_clear 1 := ⟨Or.inr ⟨"BackIndex", (j_mn3 140 (by decide +kernel) rfl)⟩, ⟨(j_me3 100 (by decide +kernel) rfl), (j_sel (n := 2) (by decide +kernel))⟩, cw_X9_clear, (j_me1 4 (by decide +kernel) rfl), by decide +kernel, by decide +kernel, by decide +kernel⟩
theorem ml_X2_42 : j_ML 0 "BackIndex$Heads" 42 mX2_has 1 := ⟨Or.inl (j_me4 26 (by decide +kernel) rfl), ⟨(j_me3 147 (by decide +kernel) rfl), (j_sel (n := 4) (by decide +kernel))⟩, cw_X2_has, (j_me1 3 (by decide +kernel) rfl), by decide +kernel, by decide +kernel, by decide +kernel⟩
theorem ml_X2_46 : j_ML 0 "BackIndex$Heads" 46 mX9_countOf 1 := ⟨Or.inr ⟨"BackIndex", (j_mn3 187 (by decide +kernel) rfl)⟩, ⟨(j_me3 88 (by decide +kernel) rfl), (j_sel (n := 2) (by decide +kernel))⟩, cw_X9_countOf, (j_me1 4 (by decide +kernel) rfl), by decide +kernel, by decide +kernel, by decide +kernel⟩
theorem ml_X2_50 : j_ML 0 "BackIndex$Heads" 50 mX9_copyAll 1 := ⟨Or.inr ⟨"BackIndex", (j_mn2 175 (by decide +kernel) rfl)⟩, ⟨(j_me2 177 (by decide +kernel) rfl), (j_sel (n := 2) (by decide +kernel))⟩, cw_X9_copyAll, (j_me1 4 (by decide +kernel) rfl), by decide +kernel, by decide +kernel, by decide +kernel⟩
theorem ol_X3_3 : Cond.methodLink "BackIndex$Index" 3 objectInit ∈ j_wg := (j_me2 53 (by decide +kernel) rfl)
theorem ml_X3_45 : j_ML 2 "BackIndex$Index" 45 mX9_init 1 := ⟨Or.inr ⟨"BackIndex", (j_mn2 55 (by decide +kernel) rfl)⟩, ⟨(j_me1 41 (by decide +kernel) rfl), rfl, rfl⟩, cw_X9_init, (j_me1 4 (by decide +kernel) rfl), by decide +kernel, by decide +kernel, by decide +kernel⟩
theorem ml_X3_52 : j_ML 0 "BackIndex$Index" 52 mX3_has 1 := ⟨Or.inl (j_me5 5 (by decide +kernel) rfl), ⟨(j_me5 7 (by decide +kernel) rfl), (j_sel (n := 11) (by decide +kernel))⟩, cw_X3_has, (j_me1 13 (by decide +kernel) rfl), by decide +kernel, by decide +kernel, by decide +kernel⟩
theorem ml_X3_56 : j_ML 0 "BackIndex$Index" 56 mX3_placeStart 1 := ⟨Or.inl (j_me5 9 (by decide +kernel) rfl), ⟨(j_me5 11 (by decide +kernel) rfl), (j_sel (n := 11) (by decide +kernel))⟩, cw_X3_placeStart, (j_me1 13 (by decide +kernel) rfl), by decide +kernel, by decide +kernel, by decide +kernel⟩
theorem ml_X3_60 : j_ML 0 "BackIndex$Index" 60 mX3_leadStart 1 := ⟨Or.inl (j_me5 40 (by decide +kernel) rfl), ⟨(j_me5 42 (by decide +kernel) rfl), (j_sel (n := 11) (by decide +kernel))⟩, cw_X3_leadStart, (j_me1 13 (by decide +kernel) rfl), by decide +kernel, by decide +kernel, by decide +kernel⟩
theorem ml_X3_63 : j_ML 1 "BackIndex$Index" 63 mX11_around 1 := ⟨Or.inr ⟨"BackIndex", (j_mn5 13 (by decide +kernel) rfl)⟩, (j_me4 161 (by decide +kernel) rfl), cw_X11_around, (j_me1 1 (by decide +kernel) rfl), by decide +kernel, by decide +kernel, by decide +kernel⟩
theorem ml_X3_66 : j_ML 0 "BackIndex$Index" 66 mX3_placesOf 1 := ⟨Or.inl (j_me5 1 (by decide +kernel) rfl), ⟨(j_me5 3 (by decide +kernel) rfl), (j_sel (n := 11) (by decide +kernel))⟩, cw_X3_placesOf, (j_me1 13 (by decide +kernel) rfl), by decide +kernel, by decide +kernel, by decide +kernel⟩
theorem ol_X3_69 : Cond.methodLink "BackIndex$Index" 69 arraycopyName ∈ j_wg := (j_me4 159 (by decide +kernel) rfl)
theorem ml_X3_75 : j_ML 1 "BackIndex$Index" 75 mX3_weightOf 4 := ⟨Or.inl (j_me4 201 (by decide +kernel) rfl), (j_me4 202 (by decide +kernel) rfl), cw_X3_weightOf, (j_me1 13 (by decide +kernel) rfl), by decide +kernel, by decide +kernel, by decide +kernel⟩
theorem ml_X3_79 : j_ML 0 "BackIndex$Index" 79 mX3_weightAt 2 := ⟨Or.inl (j_me4 206 (by decide +kernel) rfl), ⟨(j_me4 208 (by decide +kernel) rfl), (j_sel (n := 11) (by decide +kernel))⟩, cw_X3_weightAt, (j_me1 13 (by decide +kernel) rfl), by decide +kernel, by decide +kernel, by decide +kernel⟩
theorem ml_X3_86 : j_ML 1 "BackIndex$Index" 86 mX11_pathOf 3 := ⟨Or.inr ⟨"BackIndex", (j_mn5 30 (by decide +kernel) rfl)⟩, (j_me4 47 (by decide +kernel) rfl), cw_X11_pathOf, (j_me1 1 (by decide +kernel) rfl), by decide +kernel, by decide +kernel, by decide +kernel⟩
theorem ml_X3_90 : j_ML 0 "BackIndex$Index" 90 mX3_entryOf 1 := ⟨Or.inl (j_me5 31 (by decide +kernel) rfl), ⟨(j_me5 33 (by decide +kernel) rfl), (j_sel (n := 11) (by decide +kernel))⟩, cw_X3_entryOf, (j_me1 13 (by decide +kernel) rfl), by decide +kernel, by decide +kernel, by decide +kernel⟩
theorem ml_X3_93 : j_ML 0 "BackIndex$Index" 93 mX3_hasBody 1 := ⟨Or.inl (j_me5 35 (by decide +kernel) rfl), ⟨(j_me4 239 (by decide +kernel) rfl), (j_sel (n := 11) (by decide +kernel))⟩, cw_X3_hasBody, (j_me1 13 (by decide +kernel) rfl), by decide +kernel, by decide +kernel, by decide +kernel⟩
theorem ml_X3_96 : j_ML 0 "BackIndex$Index" 96 mX3_seesOf 1 := ⟨Or.inl (j_me5 36 (by decide +kernel) rfl), ⟨(j_me5 38 (by decide +kernel) rfl), (j_sel (n := 11) (by decide +kernel))⟩, cw_X3_seesOf, (j_me1 13 (by decide +kernel) rfl), by decide +kernel, by decide +kernel, by decide +kernel⟩
theorem ml_X3_99 : j_ML 0 "BackIndex$Index" 99 mX3_ledFrom 1 := ⟨Or.inl (j_me5 26 (by decide +kernel) rfl), ⟨(j_me5 28 (by decide +kernel) rfl), (j_sel (n := 11) (by decide +kernel))⟩, cw_X3_ledFrom, (j_me1 13 (by decide +kernel) rfl), by decide +kernel, by decide +kernel, by decide +kernel⟩
theorem ml_X3_102 : j_ML 0 "BackIndex$Index" 102 mX3_hasLikeLeads 3 := ⟨Or.inl (j_me5 104 (by decide +kernel) rfl), ⟨(j_me5 106 (by decide +kernel) rfl), (j_sel (n := 11) (by decide +kernel))⟩, cw_X3_hasLikeLeads, (j_me1 13 (by decide +kernel) rfl), by decide +kernel, by decide +kernel, by decide +kernel⟩
theorem ol_X4_3 : Cond.methodLink "BackIndex$Kept" 3 objectInit ∈ j_wg := (j_me1 31 (by decide +kernel) rfl)
theorem ml_X4_21 : j_ML 2 "BackIndex$Kept" 21 mX2_init 0 := ⟨Or.inr ⟨"BackIndex", (j_mn1 34 (by decide +kernel) rfl)⟩, ⟨(j_me1 35 (by decide +kernel) rfl), rfl, rfl⟩, cw_X2_init, (j_me1 3 (by decide +kernel) rfl), by decide +kernel, by decide +kernel, by decide +kernel⟩
theorem ml_X4_28 : j_ML 2 "BackIndex$Kept" 28 mX7_init 0 := ⟨Or.inr ⟨"BackIndex", (j_mn1 79 (by decide +kernel) rfl)⟩, ⟨(j_me1 80 (by decide +kernel) rfl), rfl, rfl⟩, cw_X7_init, (j_me1 6 (by decide +kernel) rfl), by decide +kernel, by decide +kernel, by decide +kernel⟩
theorem ml_X4_33 : j_ML 0 "BackIndex$Kept" 33 mX4_hasGap 1 := ⟨Or.inl (j_me2 193 (by decide +kernel) rfl), ⟨(j_me2 157 (by decide +kernel) rfl), (j_sel (n := 4) (by decide +kernel))⟩, cw_X4_hasGap, (j_me1 2 (by decide +kernel) rfl), by decide +kernel, by decide +kernel, by decide +kernel⟩
theorem ol_X4_37 : Cond.methodLink "BackIndex$Kept" 37 arraycopyName ∈ j_wg := (j_me2 168 (by decide +kernel) rfl)
theorem ml_X4_43 : j_ML 0 "BackIndex$Kept" 43 mX7_shiftBehind 2 := ⟨Or.inr ⟨"BackIndex", (j_mn2 194 (by decide +kernel) rfl)⟩, ⟨(j_me2 196 (by decide +kernel) rfl), (j_sel (n := 6) (by decide +kernel))⟩, cw_X7_shiftBehind, (j_me1 6 (by decide +kernel) rfl), by decide +kernel, by decide +kernel, by decide +kernel⟩
theorem ml_X4_47 : j_ML 0 "BackIndex$Kept" 47 mX4_hasWord 1 := ⟨Or.inl (j_me2 210 (by decide +kernel) rfl), ⟨(j_me2 204 (by decide +kernel) rfl), (j_sel (n := 4) (by decide +kernel))⟩, cw_X4_hasWord, (j_me1 2 (by decide +kernel) rfl), by decide +kernel, by decide +kernel, by decide +kernel⟩
theorem ml_X4_50 : j_ML 0 "BackIndex$Kept" 50 mX4_swapParts 3 := ⟨Or.inl (j_me2 226 (by decide +kernel) rfl), ⟨(j_me2 228 (by decide +kernel) rfl), (j_sel (n := 4) (by decide +kernel))⟩, cw_X4_swapParts, (j_me1 2 (by decide +kernel) rfl), by decide +kernel, by decide +kernel, by decide +kernel⟩
theorem ml_X4_54 : j_ML 0 "BackIndex$Kept" 54 mX7_shiftWithWords 3 := ⟨Or.inr ⟨"BackIndex", (j_mn2 234 (by decide +kernel) rfl)⟩, ⟨(j_me2 236 (by decide +kernel) rfl), (j_sel (n := 6) (by decide +kernel))⟩, cw_X7_shiftWithWords, (j_me1 6 (by decide +kernel) rfl), by decide +kernel, by decide +kernel, by decide +kernel⟩
theorem ml_X4_57 : j_ML 0 "BackIndex$Kept" 57 mX4_turn 2 := ⟨Or.inl (j_me2 230 (by decide +kernel) rfl), ⟨(j_me2 232 (by decide +kernel) rfl), (j_sel (n := 4) (by decide +kernel))⟩, cw_X4_turn, (j_me1 2 (by decide +kernel) rfl), by decide +kernel, by decide +kernel, by decide +kernel⟩
theorem ml_X4_60 : j_ML 0 "BackIndex$Kept" 60 mX2_copyFrom 1 := ⟨Or.inr ⟨"BackIndex", (j_mn2 171 (by decide +kernel) rfl)⟩, ⟨(j_me2 173 (by decide +kernel) rfl), (j_sel (n := 4) (by decide +kernel))⟩, cw_X2_copyFrom, (j_me1 3 (by decide +kernel) rfl), by decide +kernel, by decide +kernel, by decide +kernel⟩
theorem ml_X4_64 : j_ML 0 "BackIndex$Kept" 64 mX7_copyFrom 1 := ⟨Or.inr ⟨"BackIndex", (j_mn2 183 (by decide +kernel) rfl)⟩, ⟨(j_me2 185 (by decide +kernel) rfl), (j_sel (n := 6) (by decide +kernel))⟩, cw_X7_copyFrom, (j_me1 6 (by decide +kernel) rfl), by decide +kernel, by decide +kernel, by decide +kernel⟩
theorem ol_X5_3 : Cond.methodLink "BackIndex$Keys" 3 objectInit ∈ j_wg := (j_me1 185 (by decide +kernel) rfl)
theorem ml_X5_11 : j_ML 2 "BackIndex$Keys" 11 mX9_init 1 := ⟨Or.inr ⟨"BackIndex", (j_mn1 187 (by decide +kernel) rfl)⟩, ⟨(j_me1 41 (by decide +kernel) rfl), rfl, rfl⟩, cw_X9_init, (j_me1 4 (by decide +kernel) rfl), by decide +kernel, by decide +kernel, by decide +kernel⟩
theorem ml_X5_26 : j_ML 2 "BackIndex$Keys" 26 mX1_init 0 := ⟨Or.inr ⟨"BackIndex", (j_mn1 190 (by decide +kernel) rfl)⟩, ⟨(j_me1 191 (by decide +kernel) rfl), rfl, rfl⟩, cw_X1_init, (j_me1 10 (by decide +kernel) rfl), by decide +kernel, by decide +kernel, by decide +kernel⟩
theorem ml_X5_34 : j_ML 0 "BackIndex$Keys" 34 mX9_countOf 1 := ⟨Or.inr ⟨"BackIndex", (j_mn3 168 (by decide +kernel) rfl)⟩, ⟨(j_me3 88 (by decide +kernel) rfl), (j_sel (n := 2) (by decide +kernel))⟩, cw_X9_countOf, (j_me1 4 (by decide +kernel) rfl), by decide +kernel, by decide +kernel, by decide +kernel⟩
theorem ml_X5_38 : j_ML 0 "BackIndex$Keys" 38 mX9_beginsAlike 3 := ⟨Or.inr ⟨"BackIndex", (j_mn3 169 (by decide +kernel) rfl)⟩, ⟨(j_me3 171 (by decide +kernel) rfl), (j_sel (n := 2) (by decide +kernel))⟩, cw_X9_beginsAlike, (j_me1 4 (by decide +kernel) rfl), by decide +kernel, by decide +kernel, by decide +kernel⟩
theorem ml_X5_42 : j_ML 0 "BackIndex$Keys" 42 mX9_copyRow 3 := ⟨Or.inr ⟨"BackIndex", (j_mn3 178 (by decide +kernel) rfl)⟩, ⟨(j_me3 136 (by decide +kernel) rfl), (j_sel (n := 2) (by decide +kernel))⟩, cw_X9_copyRow, (j_me1 4 (by decide +kernel) rfl), by decide +kernel, by decide +kernel, by decide +kernel⟩
theorem ml_X5_46 : j_ML 0 "BackIndex$Keys" 46 mX2_rows 2 := ⟨Or.inr ⟨"BackIndex", (j_mn3 201 (by decide +kernel) rfl)⟩, ⟨(j_me3 185 (by decide +kernel) rfl), (j_sel (n := 4) (by decide +kernel))⟩, cw_X2_rows, (j_me1 3 (by decide +kernel) rfl), by decide +kernel, by decide +kernel, by decide +kernel⟩
theorem ml_X5_52 : j_ML 0 "BackIndex$Keys" 52 mX5_keyStart 2 := ⟨Or.inl (j_me3 202 (by decide +kernel) rfl), ⟨(j_me3 204 (by decide +kernel) rfl), (j_sel (n := 4) (by decide +kernel))⟩, cw_X5_keyStart, (j_me1 9 (by decide +kernel) rfl), by decide +kernel, by decide +kernel, by decide +kernel⟩
theorem ml_X5_56 : j_ML 0 "BackIndex$Keys" 56 mX1_begin 1 := ⟨Or.inr ⟨"BackIndex", (j_mn3 210 (by decide +kernel) rfl)⟩, ⟨(j_me3 212 (by decide +kernel) rfl), (j_sel (n := 3) (by decide +kernel))⟩, cw_X1_begin, (j_me1 10 (by decide +kernel) rfl), by decide +kernel, by decide +kernel, by decide +kernel⟩
theorem ml_X5_59 : j_ML 0 "BackIndex$Keys" 59 mX1_step 3 := ⟨Or.inr ⟨"BackIndex", (j_mn3 214 (by decide +kernel) rfl)⟩, ⟨(j_me3 216 (by decide +kernel) rfl), (j_sel (n := 3) (by decide +kernel))⟩, cw_X1_step, (j_me1 10 (by decide +kernel) rfl), by decide +kernel, by decide +kernel, by decide +kernel⟩
theorem ml_X5_66 : j_ML 1 "BackIndex$Keys" 66 mJI_compare 2 := ⟨Or.inl (j_me3 230 (by decide +kernel) rfl), (j_me3 128 (by decide +kernel) rfl), cw_JI_compare, (j_me1 16 (by decide +kernel) rfl), by decide +kernel, by decide +kernel, by decide +kernel⟩
theorem ml_X5_76 : j_ML 1 "BackIndex$Keys" 76 mJL_compare 2 := ⟨Or.inl (j_me3 231 (by decide +kernel) rfl), (j_me3 232 (by decide +kernel) rfl), cw_JL_compare, (j_me1 17 (by decide +kernel) rfl), by decide +kernel, by decide +kernel, by decide +kernel⟩
theorem ml_X5_84 : j_ML 0 "BackIndex$Keys" 84 mX9_byBytes 3 := ⟨Or.inr ⟨"BackIndex", (j_mn3 234 (by decide +kernel) rfl)⟩, ⟨(j_me3 125 (by decide +kernel) rfl), (j_sel (n := 2) (by decide +kernel))⟩, cw_X9_byBytes, (j_me1 4 (by decide +kernel) rfl), by decide +kernel, by decide +kernel, by decide +kernel⟩
theorem ml_X5_88 : j_ML 0 "BackIndex$Keys" 88 mX9_firstBlank 1 := ⟨Or.inr ⟨"BackIndex", (j_mn3 206 (by decide +kernel) rfl)⟩, ⟨(j_me3 208 (by decide +kernel) rfl), (j_sel (n := 2) (by decide +kernel))⟩, cw_X9_firstBlank, (j_me1 4 (by decide +kernel) rfl), by decide +kernel, by decide +kernel, by decide +kernel⟩
theorem ol_X6_3 : Cond.methodLink "BackIndex$Maker" 3 objectInit ∈ j_wg := (j_me1 225 (by decide +kernel) rfl)
theorem ml_X6_37 : j_ML 2 "BackIndex$Maker" 37 mX10_init 0 := ⟨Or.inr ⟨"BackIndex", (j_mn1 228 (by decide +kernel) rfl)⟩, ⟨(j_me1 229 (by decide +kernel) rfl), rfl, rfl⟩, cw_X10_init, (j_me1 12 (by decide +kernel) rfl), by decide +kernel, by decide +kernel, by decide +kernel⟩
theorem ml_X6_62 : j_ML 0 "BackIndex$Maker" 62 mX6_rankHeads 1 := ⟨Or.inl (j_me4 120 (by decide +kernel) rfl), ⟨(j_me4 122 (by decide +kernel) rfl), (j_sel (n := 14) (by decide +kernel))⟩, cw_X6_rankHeads, (j_me1 11 (by decide +kernel) rfl), by decide +kernel, by decide +kernel, by decide +kernel⟩
theorem ml_X6_66 : j_ML 0 "BackIndex$Maker" 66 mX6_listMarks 0 := ⟨Or.inl (j_me4 126 (by decide +kernel) rfl), ⟨(j_me4 128 (by decide +kernel) rfl), (j_sel (n := 14) (by decide +kernel))⟩, cw_X6_listMarks, (j_me1 11 (by decide +kernel) rfl), by decide +kernel, by decide +kernel, by decide +kernel⟩
theorem ml_X6_69 : j_ML 0 "BackIndex$Maker" 69 mX3_clear 0 := ⟨Or.inr ⟨"BackIndex", (j_mn4 131 (by decide +kernel) rfl)⟩, ⟨(j_me4 133 (by decide +kernel) rfl), (j_sel (n := 11) (by decide +kernel))⟩, cw_X3_clear, (j_me1 13 (by decide +kernel) rfl), by decide +kernel, by decide +kernel, by decide +kernel⟩
theorem ml_X6_89 : j_ML 0 "BackIndex$Maker" 89 mX9_copyAll 1 := ⟨Or.inr ⟨"BackIndex", (j_mn4 135 (by decide +kernel) rfl)⟩, ⟨(j_me2 177 (by decide +kernel) rfl), (j_sel (n := 2) (by decide +kernel))⟩, cw_X9_copyAll, (j_me1 4 (by decide +kernel) rfl), by decide +kernel, by decide +kernel, by decide +kernel⟩
theorem ml_X6_95 : j_ML 0 "BackIndex$Maker" 95 mX6_copySorted 1 := ⟨Or.inl (j_me4 136 (by decide +kernel) rfl), ⟨(j_me4 138 (by decide +kernel) rfl), (j_sel (n := 14) (by decide +kernel))⟩, cw_X6_copySorted, (j_me1 11 (by decide +kernel) rfl), by decide +kernel, by decide +kernel, by decide +kernel⟩
theorem ml_X6_98 : j_ML 0 "BackIndex$Maker" 98 mX6_addEntries 1 := ⟨Or.inl (j_me4 142 (by decide +kernel) rfl), ⟨(j_me4 144 (by decide +kernel) rfl), (j_sel (n := 14) (by decide +kernel))⟩, cw_X6_addEntries, (j_me1 11 (by decide +kernel) rfl), by decide +kernel, by decide +kernel, by decide +kernel⟩
theorem ml_X6_105 : j_ML 0 "BackIndex$Maker" 105 mX6_addPlaces 2 := ⟨Or.inl (j_me4 167 (by decide +kernel) rfl), ⟨(j_me4 169 (by decide +kernel) rfl), (j_sel (n := 14) (by decide +kernel))⟩, cw_X6_addPlaces, (j_me1 11 (by decide +kernel) rfl), by decide +kernel, by decide +kernel, by decide +kernel⟩
theorem ml_X6_109 : j_ML 0 "BackIndex$Maker" 109 mX6_addLeads 2 := ⟨Or.inl (j_me4 227 (by decide +kernel) rfl), ⟨(j_me4 229 (by decide +kernel) rfl), (j_sel (n := 14) (by decide +kernel))⟩, cw_X6_addLeads, (j_me1 11 (by decide +kernel) rfl), by decide +kernel, by decide +kernel, by decide +kernel⟩
theorem ml_X6_112 : j_ML 0 "BackIndex$Maker" 112 mX3_follow 0 := ⟨Or.inr ⟨"BackIndex", (j_mn5 22 (by decide +kernel) rfl)⟩, ⟨(j_me5 24 (by decide +kernel) rfl), (j_sel (n := 11) (by decide +kernel))⟩, cw_X3_follow, (j_me1 13 (by decide +kernel) rfl), by decide +kernel, by decide +kernel, by decide +kernel⟩
theorem ml_X6_115 : j_ML 0 "BackIndex$Maker" 115 mX3_addLoose 1 := ⟨Or.inr ⟨"BackIndex", (j_mn5 44 (by decide +kernel) rfl)⟩, ⟨(j_me5 46 (by decide +kernel) rfl), (j_sel (n := 11) (by decide +kernel))⟩, cw_X3_addLoose, (j_me1 13 (by decide +kernel) rfl), by decide +kernel, by decide +kernel, by decide +kernel⟩
theorem ml_X6_121 : j_ML 0 "BackIndex$Maker" 121 mX2_has 1 := ⟨Or.inr ⟨"BackIndex", (j_mn4 124 (by decide +kernel) rfl)⟩, ⟨(j_me3 147 (by decide +kernel) rfl), (j_sel (n := 4) (by decide +kernel))⟩, cw_X2_has, (j_me1 3 (by decide +kernel) rfl), by decide +kernel, by decide +kernel, by decide +kernel⟩
theorem ml_X6_125 : j_ML 0 "BackIndex$Maker" 125 mX5_orderOf 4 := ⟨Or.inr ⟨"BackIndex", (j_mn4 125 (by decide +kernel) rfl)⟩, ⟨(j_me3 199 (by decide +kernel) rfl), (j_sel (n := 4) (by decide +kernel))⟩, cw_X5_orderOf, (j_me1 9 (by decide +kernel) rfl), by decide +kernel, by decide +kernel, by decide +kernel⟩
theorem ml_X6_135 : j_ML 0 "BackIndex$Maker" 135 mX7_has 1 := ⟨Or.inr ⟨"BackIndex", (j_mn4 130 (by decide +kernel) rfl)⟩, ⟨(j_me4 13 (by decide +kernel) rfl), (j_sel (n := 6) (by decide +kernel))⟩, cw_X7_has, (j_me1 6 (by decide +kernel) rfl), by decide +kernel, by decide +kernel, by decide +kernel⟩
theorem ml_X6_144 : j_ML 0 "BackIndex$Maker" 144 mX9_countOf 1 := ⟨Or.inr ⟨"BackIndex", (j_mn4 140 (by decide +kernel) rfl)⟩, ⟨(j_me3 88 (by decide +kernel) rfl), (j_sel (n := 2) (by decide +kernel))⟩, cw_X9_countOf, (j_me1 4 (by decide +kernel) rfl), by decide +kernel, by decide +kernel, by decide +kernel⟩
theorem ml_X6_148 : j_ML 0 "BackIndex$Maker" 148 mX9_copyRow 3 := ⟨Or.inr ⟨"BackIndex", (j_mn4 141 (by decide +kernel) rfl)⟩, ⟨(j_me3 136 (by decide +kernel) rfl), (j_sel (n := 2) (by decide +kernel))⟩, cw_X9_copyRow, (j_me1 4 (by decide +kernel) rfl), by decide +kernel, by decide +kernel, by decide +kernel⟩
theorem ml_X6_152 : j_ML 0 "BackIndex$Maker" 152 mX7_entryPath 1 := ⟨Or.inr ⟨"BackIndex", (j_mn4 146 (by decide +kernel) rfl)⟩, ⟨(j_me4 148 (by decide +kernel) rfl), (j_sel (n := 6) (by decide +kernel))⟩, cw_X7_entryPath, (j_me1 6 (by decide +kernel) rfl), by decide +kernel, by decide +kernel, by decide +kernel⟩
theorem ml_X6_155 : j_ML 1 "BackIndex$Maker" 155 mX6_translated 2 := ⟨Or.inl (j_me4 150 (by decide +kernel) rfl), (j_me4 151 (by decide +kernel) rfl), cw_X6_translated, (j_me1 11 (by decide +kernel) rfl), by decide +kernel, by decide +kernel, by decide +kernel⟩
theorem ml_X6_159 : j_ML 0 "BackIndex$Maker" 159 mX3_addPath 1 := ⟨Or.inr ⟨"BackIndex", (j_mn4 155 (by decide +kernel) rfl)⟩, ⟨(j_me4 157 (by decide +kernel) rfl), (j_sel (n := 11) (by decide +kernel))⟩, cw_X3_addPath, (j_me1 13 (by decide +kernel) rfl), by decide +kernel, by decide +kernel, by decide +kernel⟩
theorem ml_X6_162 : j_ML 1 "BackIndex$Maker" 162 mX11_around 1 := ⟨Or.inr ⟨"BackIndex", (j_mn4 160 (by decide +kernel) rfl)⟩, (j_me4 161 (by decide +kernel) rfl), cw_X11_around, (j_me1 1 (by decide +kernel) rfl), by decide +kernel, by decide +kernel, by decide +kernel⟩
theorem ml_X6_168 : j_ML 1 "BackIndex$Maker" 168 mX11_headOf 2 := ⟨Or.inr ⟨"BackIndex", (j_mn4 153 (by decide +kernel) rfl)⟩, (j_me4 16 (by decide +kernel) rfl), cw_X11_headOf, (j_me1 1 (by decide +kernel) rfl), by decide +kernel, by decide +kernel, by decide +kernel⟩
theorem ml_X6_172 : j_ML 1 "BackIndex$Maker" 172 mX11_longer 2 := ⟨Or.inr ⟨"BackIndex", (j_mn4 154 (by decide +kernel) rfl)⟩, (j_me4 32 (by decide +kernel) rfl), cw_X11_longer, (j_me1 1 (by decide +kernel) rfl), by decide +kernel, by decide +kernel, by decide +kernel⟩
theorem ml_X6_179 : j_ML 0 "BackIndex$Maker" 179 mX7_isLead 1 := ⟨Or.inr ⟨"BackIndex", (j_mn4 171 (by decide +kernel) rfl)⟩, ⟨(j_me4 20 (by decide +kernel) rfl), (j_sel (n := 6) (by decide +kernel))⟩, cw_X7_isLead, (j_me1 6 (by decide +kernel) rfl), by decide +kernel, by decide +kernel, by decide +kernel⟩
theorem ml_X6_183 : j_ML 0 "BackIndex$Maker" 183 mX6_collect 3 := ⟨Or.inl (j_me4 172 (by decide +kernel) rfl), ⟨(j_me4 174 (by decide +kernel) rfl), (j_sel (n := 14) (by decide +kernel))⟩, cw_X6_collect, (j_me1 11 (by decide +kernel) rfl), by decide +kernel, by decide +kernel, by decide +kernel⟩
theorem ml_X6_187 : j_ML 0 "BackIndex$Maker" 187 mX6_standAlone 1 := ⟨Or.inl (j_me4 189 (by decide +kernel) rfl), ⟨(j_me4 191 (by decide +kernel) rfl), (j_sel (n := 14) (by decide +kernel))⟩, cw_X6_standAlone, (j_me1 11 (by decide +kernel) rfl), by decide +kernel, by decide +kernel, by decide +kernel⟩
theorem ml_X6_190 : j_ML 0 "BackIndex$Maker" 190 mX10_leaveOutInner 0 := ⟨Or.inr ⟨"BackIndex", (j_mn4 210 (by decide +kernel) rfl)⟩, ⟨(j_me4 212 (by decide +kernel) rfl), (j_sel (n := 3) (by decide +kernel))⟩, cw_X10_leaveOutInner, (j_me1 12 (by decide +kernel) rfl), by decide +kernel, by decide +kernel, by decide +kernel⟩
theorem ml_X6_196 : j_ML 0 "BackIndex$Maker" 196 mX10_leaveOutPage 1 := ⟨Or.inr ⟨"BackIndex", (j_mn4 218 (by decide +kernel) rfl)⟩, ⟨(j_me4 220 (by decide +kernel) rfl), (j_sel (n := 3) (by decide +kernel))⟩, cw_X10_leaveOutPage, (j_me1 12 (by decide +kernel) rfl), by decide +kernel, by decide +kernel, by decide +kernel⟩
theorem ml_X6_199 : j_ML 0 "BackIndex$Maker" 199 mX10_melt 1 := ⟨Or.inr ⟨"BackIndex", (j_mn4 222 (by decide +kernel) rfl)⟩, ⟨(j_me4 224 (by decide +kernel) rfl), (j_sel (n := 3) (by decide +kernel))⟩, cw_X10_melt, (j_me1 12 (by decide +kernel) rfl), by decide +kernel, by decide +kernel, by decide +kernel⟩
theorem ml_X6_208 : j_ML 0 "BackIndex$Maker" 208 mX3_addPlace 6 := ⟨Or.inr ⟨"BackIndex", (j_mn4 197 (by decide +kernel) rfl)⟩, ⟨(j_me4 199 (by decide +kernel) rfl), (j_sel (n := 11) (by decide +kernel))⟩, cw_X3_addPlace, (j_me1 13 (by decide +kernel) rfl), by decide +kernel, by decide +kernel, by decide +kernel⟩
theorem ml_X6_215 : j_ML 0 "BackIndex$Maker" 215 mX6_pageOf 1 := ⟨Or.inl (j_me4 176 (by decide +kernel) rfl), ⟨(j_me4 178 (by decide +kernel) rfl), (j_sel (n := 14) (by decide +kernel))⟩, cw_X6_pageOf, (j_me1 11 (by decide +kernel) rfl), by decide +kernel, by decide +kernel, by decide +kernel⟩
theorem ml_X6_221 : j_ML 0 "BackIndex$Maker" 221 mX10_add 2 := ⟨Or.inr ⟨"BackIndex", (j_mn4 181 (by decide +kernel) rfl)⟩, ⟨(j_me4 183 (by decide +kernel) rfl), (j_sel (n := 3) (by decide +kernel))⟩, cw_X10_add, (j_me1 12 (by decide +kernel) rfl), by decide +kernel, by decide +kernel, by decide +kernel⟩
theorem ml_X6_225 : j_ML 0 "BackIndex$Maker" 225 mX6_close 1 := ⟨Or.inl (j_me4 193 (by decide +kernel) rfl), ⟨(j_me4 195 (by decide +kernel) rfl), (j_sel (n := 14) (by decide +kernel))⟩, cw_X6_close, (j_me1 11 (by decide +kernel) rfl), by decide +kernel, by decide +kernel, by decide +kernel⟩
theorem ml_X6_231 : j_ML 1 "BackIndex$Maker" 231 mX11_pageOfGap 2 := ⟨Or.inr ⟨"BackIndex", (j_mn4 180 (by decide +kernel) rfl)⟩, (j_me3 35 (by decide +kernel) rfl), cw_X11_pageOfGap, (j_me1 1 (by decide +kernel) rfl), by decide +kernel, by decide +kernel, by decide +kernel⟩
theorem ml_X6_234 : j_ML 1 "BackIndex$Maker" 234 mX11_headsIn 1 := ⟨Or.inr ⟨"BackIndex", (j_mn4 231 (by decide +kernel) rfl)⟩, (j_me4 164 (by decide +kernel) rfl), cw_X11_headsIn, (j_me1 1 (by decide +kernel) rfl), by decide +kernel, by decide +kernel, by decide +kernel⟩
theorem ml_X6_237 : j_ML 0 "BackIndex$Maker" 237 mX6_findLeads 1 := ⟨Or.inl (j_me4 232 (by decide +kernel) rfl), ⟨(j_me4 234 (by decide +kernel) rfl), (j_sel (n := 14) (by decide +kernel))⟩, cw_X6_findLeads, (j_me1 11 (by decide +kernel) rfl), by decide +kernel, by decide +kernel, by decide +kernel⟩
theorem ml_X6_240 : j_ML 0 "BackIndex$Maker" 240 mX3_hasBody 1 := ⟨Or.inr ⟨"BackIndex", (j_mn4 237 (by decide +kernel) rfl)⟩, ⟨(j_me4 239 (by decide +kernel) rfl), (j_sel (n := 11) (by decide +kernel))⟩, cw_X3_hasBody, (j_me1 13 (by decide +kernel) rfl), by decide +kernel, by decide +kernel, by decide +kernel⟩
theorem ml_X6_243 : j_ML 0 "BackIndex$Maker" 243 mX6_addLeadsBy 3 := ⟨Or.inl (j_me5 14 (by decide +kernel) rfl), ⟨(j_me5 16 (by decide +kernel) rfl), (j_sel (n := 14) (by decide +kernel))⟩, cw_X6_addLeadsBy, (j_me1 11 (by decide +kernel) rfl), by decide +kernel, by decide +kernel, by decide +kernel⟩
theorem ml_X6_253 : j_ML 0 "BackIndex$Maker" 253 mX7_headAt 2 := ⟨Or.inr ⟨"BackIndex", (j_mn4 236 (by decide +kernel) rfl)⟩, ⟨(j_me4 9 (by decide +kernel) rfl), (j_sel (n := 6) (by decide +kernel))⟩, cw_X7_headAt, (j_me1 6 (by decide +kernel) rfl), by decide +kernel, by decide +kernel, by decide +kernel⟩
theorem ml_X6_256 : j_ML 0 "BackIndex$Maker" 256 mX3_addLead 2 := ⟨Or.inr ⟨"BackIndex", (j_mn5 18 (by decide +kernel) rfl)⟩, ⟨(j_me5 20 (by decide +kernel) rfl), (j_sel (n := 11) (by decide +kernel))⟩, cw_X3_addLead, (j_me1 13 (by decide +kernel) rfl), by decide +kernel, by decide +kernel, by decide +kernel⟩
theorem ol_X7_3 : Cond.methodLink "BackIndex$Marks" 3 objectInit ∈ j_wg := (j_me1 82 (by decide +kernel) rfl)
theorem ml_X7_32 : j_ML 1 "BackIndex$Marks" 32 mX11_pathOf 3 := ⟨Or.inr ⟨"BackIndex", (j_mn4 46 (by decide +kernel) rfl)⟩, (j_me4 47 (by decide +kernel) rfl), cw_X11_pathOf, (j_me1 1 (by decide +kernel) rfl), by decide +kernel, by decide +kernel, by decide +kernel⟩
theorem ml_X7_36 : j_ML 0 "BackIndex$Marks" 36 mX7_has 1 := ⟨Or.inl (j_me4 11 (by decide +kernel) rfl), ⟨(j_me4 13 (by decide +kernel) rfl), (j_sel (n := 6) (by decide +kernel))⟩, cw_X7_has, (j_me1 6 (by decide +kernel) rfl), by decide +kernel, by decide +kernel, by decide +kernel⟩
theorem ml_X7_40 : j_ML 1 "BackIndex$Marks" 40 mX11_headOf 2 := ⟨Or.inr ⟨"BackIndex", (j_mn4 15 (by decide +kernel) rfl)⟩, (j_me4 16 (by decide +kernel) rfl), cw_X11_headOf, (j_me1 1 (by decide +kernel) rfl), by decide +kernel, by decide +kernel, by decide +kernel⟩
theorem ml_X7_44 : j_ML 0 "BackIndex$Marks" 44 mX7_isLead 1 := ⟨Or.inl (j_me4 18 (by decide +kernel) rfl), ⟨(j_me4 20 (by decide +kernel) rfl), (j_sel (n := 6) (by decide +kernel))⟩, cw_X7_isLead, (j_me1 6 (by decide +kernel) rfl), by decide +kernel, by decide +kernel, by decide +kernel⟩
theorem ml_X7_47 : j_ML 0 "BackIndex$Marks" 47 mX7_headAt 2 := ⟨Or.inl (j_me4 7 (by decide +kernel) rfl), ⟨(j_me4 9 (by decide +kernel) rfl), (j_sel (n := 6) (by decide +kernel))⟩, cw_X7_headAt, (j_me1 6 (by decide +kernel) rfl), by decide +kernel, by decide +kernel, by decide +kernel⟩
theorem ml_X7_50 : j_ML 1 "BackIndex$Marks" 50 mX11_longer 2 := ⟨Or.inr ⟨"BackIndex", (j_mn4 31 (by decide +kernel) rfl)⟩, (j_me4 32 (by decide +kernel) rfl), cw_X11_longer, (j_me1 1 (by decide +kernel) rfl), by decide +kernel, by decide +kernel, by decide +kernel⟩
theorem ol_X7_53 : Cond.methodLink "BackIndex$Marks" 53 arraycopyName ∈ j_wg := (j_me2 187 (by decide +kernel) rfl)
theorem ol_X8_3 : Cond.methodLink "BackIndex$Parts" 3 objectInit ∈ j_wg := (j_me1 153 (by decide +kernel) rfl)
theorem ml_X8_34 : j_ML 0 "BackIndex$Parts" 34 mX8_partOf 1 := ⟨Or.inl (j_me3 17 (by decide +kernel) rfl), ⟨(j_me3 19 (by decide +kernel) rfl), (j_sel (n := 7) (by decide +kernel))⟩, cw_X8_partOf, (j_me1 8 (by decide +kernel) rfl), by decide +kernel, by decide +kernel, by decide +kernel⟩
theorem ml_X8_38 : j_ML 1 "BackIndex$Parts" 38 mJM_max 2 := ⟨Or.inl (j_me3 21 (by decide +kernel) rfl), (j_me1 45 (by decide +kernel) rfl), cw_JM_max, (j_me1 5 (by decide +kernel) rfl), by decide +kernel, by decide +kernel, by decide +kernel⟩
theorem ml_X8_44 : j_ML 0 "BackIndex$Parts" 44 mX8_formOf 1 := ⟨Or.inl (j_me3 45 (by decide +kernel) rfl), ⟨(j_me3 47 (by decide +kernel) rfl), (j_sel (n := 7) (by decide +kernel))⟩, cw_X8_formOf, (j_me1 8 (by decide +kernel) rfl), by decide +kernel, by decide +kernel, by decide +kernel⟩
theorem ml_X8_47 : j_ML 0 "BackIndex$Parts" 47 mX8_numberOf 2 := ⟨Or.inl (j_me3 41 (by decide +kernel) rfl), ⟨(j_me3 43 (by decide +kernel) rfl), (j_sel (n := 7) (by decide +kernel))⟩, cw_X8_numberOf, (j_me1 8 (by decide +kernel) rfl), by decide +kernel, by decide +kernel, by decide +kernel⟩
theorem ml_X8_50 : j_ML 0 "BackIndex$Parts" 50 mX8_writeRoman 1 := ⟨Or.inl (j_me3 49 (by decide +kernel) rfl), ⟨(j_me3 51 (by decide +kernel) rfl), (j_sel (n := 7) (by decide +kernel))⟩, cw_X8_writeRoman, (j_me1 8 (by decide +kernel) rfl), by decide +kernel, by decide +kernel, by decide +kernel⟩
theorem ml_X8_54 : j_ML 0 "BackIndex$Parts" 54 mX8_append 1 := ⟨Or.inl (j_me3 57 (by decide +kernel) rfl), ⟨(j_me3 59 (by decide +kernel) rfl), (j_sel (n := 7) (by decide +kernel))⟩, cw_X8_append, (j_me1 8 (by decide +kernel) rfl), by decide +kernel, by decide +kernel, by decide +kernel⟩
theorem ml_X8_57 : j_ML 0 "BackIndex$Parts" 57 mX8_writeWhole 1 := ⟨Or.inl (j_me3 63 (by decide +kernel) rfl), ⟨(j_me3 65 (by decide +kernel) rfl), (j_sel (n := 7) (by decide +kernel))⟩, cw_X8_writeWhole, (j_me1 8 (by decide +kernel) rfl), by decide +kernel, by decide +kernel, by decide +kernel⟩
theorem ol_X9_3 : Cond.methodLink "BackIndex$Rows" 3 objectInit ∈ j_wg := (j_me1 43 (by decide +kernel) rfl)
theorem ml_X9_9 : j_ML 1 "BackIndex$Rows" 9 mJM_max 2 := ⟨Or.inl (j_me1 44 (by decide +kernel) rfl), (j_me1 45 (by decide +kernel) rfl), cw_JM_max, (j_me1 5 (by decide +kernel) rfl), by decide +kernel, by decide +kernel, by decide +kernel⟩
theorem ml_X9_25 : j_ML 0 "BackIndex$Rows" 25 mX9_clear 1 := ⟨Or.inl (j_me3 138 (by decide +kernel) rfl), ⟨(j_me3 100 (by decide +kernel) rfl), (j_sel (n := 2) (by decide +kernel))⟩, cw_X9_clear, (j_me1 4 (by decide +kernel) rfl), by decide +kernel, by decide +kernel, by decide +kernel⟩
theorem ml_X9_29 : j_ML 0 "BackIndex$Rows" 29 mX9_countOf 1 := ⟨Or.inl (j_me3 114 (by decide +kernel) rfl), ⟨(j_me3 88 (by decide +kernel) rfl), (j_sel (n := 2) (by decide +kernel))⟩, cw_X9_countOf, (j_me1 4 (by decide +kernel) rfl), by decide +kernel, by decide +kernel, by decide +kernel⟩
theorem ml_X9_33 : j_ML 0 "BackIndex$Rows" 33 mX9_signAt 2 := ⟨Or.inl (j_me3 115 (by decide +kernel) rfl), ⟨(j_me3 117 (by decide +kernel) rfl), (j_sel (n := 2) (by decide +kernel))⟩, cw_X9_signAt, (j_me1 4 (by decide +kernel) rfl), by decide +kernel, by decide +kernel, by decide +kernel⟩
theorem ml_X9_36 : j_ML 0 "BackIndex$Rows" 36 mX9_append 2 := ⟨Or.inl (j_me3 139 (by decide +kernel) rfl), ⟨(j_me3 92 (by decide +kernel) rfl), (j_sel (n := 2) (by decide +kernel))⟩, cw_X9_append, (j_me1 4 (by decide +kernel) rfl), by decide +kernel, by decide +kernel, by decide +kernel⟩
theorem ml_X9_40 : j_ML 1 "BackIndex$Rows" 40 mJM_min 2 := ⟨Or.inl (j_me2 179 (by decide +kernel) rfl), (j_me2 180 (by decide +kernel) rfl), cw_JM_min, (j_me1 5 (by decide +kernel) rfl), by decide +kernel, by decide +kernel, by decide +kernel⟩
theorem ol_X9_43 : Cond.methodLink "BackIndex$Rows" 43 arraycopyName ∈ j_wg := (j_me2 182 (by decide +kernel) rfl)
theorem ml_X9_49 : j_ML 1 "BackIndex$Rows" 49 mX11_isLetter 1 := ⟨Or.inr ⟨"BackIndex", (j_mn3 158 (by decide +kernel) rfl)⟩, (j_me3 159 (by decide +kernel) rfl), cw_X11_isLetter, (j_me1 1 (by decide +kernel) rfl), by decide +kernel, by decide +kernel, by decide +kernel⟩
theorem ml_X9_53 : j_ML 1 "BackIndex$Rows" 53 mJI_compare 2 := ⟨Or.inl (j_me3 127 (by decide +kernel) rfl), (j_me3 128 (by decide +kernel) rfl), cw_JI_compare, (j_me1 16 (by decide +kernel) rfl), by decide +kernel, by decide +kernel, by decide +kernel⟩
theorem ml_X9_58 : j_ML 1 "BackIndex$Rows" 58 mX11_folded 1 := ⟨Or.inr ⟨"BackIndex", (j_mn3 173 (by decide +kernel) rfl)⟩, (j_me3 162 (by decide +kernel) rfl), cw_X11_folded, (j_me1 1 (by decide +kernel) rfl), by decide +kernel, by decide +kernel, by decide +kernel⟩
theorem ol_X10_3 : Cond.methodLink "BackIndex$Runs" 3 objectInit ∈ j_wg := (j_me1 231 (by decide +kernel) rfl)
theorem ml_X10_22 : j_ML 0 "BackIndex$Runs" 22 mX10_isAhead 3 := ⟨Or.inl (j_me4 185 (by decide +kernel) rfl), ⟨(j_me4 187 (by decide +kernel) rfl), (j_sel (n := 3) (by decide +kernel))⟩, cw_X10_isAhead, (j_me1 12 (by decide +kernel) rfl), by decide +kernel, by decide +kernel, by decide +kernel⟩
theorem ml_X10_26 : j_ML 0 "BackIndex$Runs" 26 mX10_keep 2 := ⟨Or.inl (j_me4 214 (by decide +kernel) rfl), ⟨(j_me4 216 (by decide +kernel) rfl), (j_sel (n := 3) (by decide +kernel))⟩, cw_X10_keep, (j_me1 12 (by decide +kernel) rfl), by decide +kernel, by decide +kernel, by decide +kernel⟩
theorem ml_X10_30 : j_ML 1 "BackIndex$Runs" 30 mJM_max 2 := ⟨Or.inl (j_me4 226 (by decide +kernel) rfl), (j_me1 45 (by decide +kernel) rfl), cw_JM_max, (j_me1 5 (by decide +kernel) rfl), by decide +kernel, by decide +kernel, by decide +kernel⟩
theorem ml_L_9 : j_ML 2 "BackIndexLaw" 9 mX11_init 0 := ⟨Or.inl (j_me1 20 (by decide +kernel) rfl), ⟨(j_me1 21 (by decide +kernel) rfl), rfl, rfl⟩, cw_X11_init, (j_me1 1 (by decide +kernel) rfl), by decide +kernel, by decide +kernel, by decide +kernel⟩
theorem ml_L_12 : j_ML 2 "BackIndexLaw" 12 mX12_init 0 := ⟨Or.inl (j_me5 170 (by decide +kernel) rfl), ⟨(j_me5 171 (by decide +kernel) rfl), rfl, rfl⟩, cw_X12_init, (j_me1 14 (by decide +kernel) rfl), by decide +kernel, by decide +kernel, by decide +kernel⟩
theorem ml_L_13 : j_ML 0 "BackIndexLaw" 13 mX11_put 2 := ⟨Or.inl (j_me2 151 (by decide +kernel) rfl), ⟨(j_me2 152 (by decide +kernel) rfl), (j_me2 153 (by decide +kernel) rfl)⟩, cw_X11_put, (j_me1 1 (by decide +kernel) rfl), by decide +kernel, by decide +kernel, by decide +kernel⟩
theorem ml_L_17 : j_ML 0 "BackIndexLaw" 17 mX12_put 2 := ⟨Or.inl (j_me6 98 (by decide +kernel) rfl), ⟨(j_me6 99 (by decide +kernel) rfl), (j_me6 100 (by decide +kernel) rfl)⟩, cw_X12_put, (j_me1 14 (by decide +kernel) rfl), by decide +kernel, by decide +kernel, by decide +kernel⟩
theorem ml_L_18 : j_ML 0 "BackIndexLaw" 18 mX11_take 1 := ⟨Or.inl (j_me2 198 (by decide +kernel) rfl), ⟨(j_me2 199 (by decide +kernel) rfl), (j_me2 200 (by decide +kernel) rfl)⟩, cw_X11_take, (j_me1 1 (by decide +kernel) rfl), by decide +kernel, by decide +kernel, by decide +kernel⟩
theorem ml_L_22 : j_ML 0 "BackIndexLaw" 22 mX12_take 1 := ⟨Or.inl (j_me6 125 (by decide +kernel) rfl), ⟨(j_me6 126 (by decide +kernel) rfl), (j_me6 127 (by decide +kernel) rfl)⟩, cw_X12_take, (j_me1 14 (by decide +kernel) rfl), by decide +kernel, by decide +kernel, by decide +kernel⟩
theorem ml_L_23 : j_ML 0 "BackIndexLaw" 23 mX11_move 3 := ⟨Or.inl (j_me2 211 (by decide +kernel) rfl), ⟨(j_me2 212 (by decide +kernel) rfl), (j_me2 213 (by decide +kernel) rfl)⟩, cw_X11_move, (j_me1 1 (by decide +kernel) rfl), by decide +kernel, by decide +kernel, by decide +kernel⟩
theorem ml_L_27 : j_ML 0 "BackIndexLaw" 27 mX12_move 3 := ⟨Or.inl (j_me6 129 (by decide +kernel) rfl), ⟨(j_me6 130 (by decide +kernel) rfl), (j_me6 131 (by decide +kernel) rfl)⟩, cw_X12_move, (j_me1 14 (by decide +kernel) rfl), by decide +kernel, by decide +kernel, by decide +kernel⟩
theorem ml_L_28 : j_ML 0 "BackIndexLaw" 28 mX11_word 1 := ⟨Or.inl (j_me2 238 (by decide +kernel) rfl), ⟨(j_me2 239 (by decide +kernel) rfl), (j_me3 0 (by decide +kernel) rfl)⟩, cw_X11_word, (j_me1 1 (by decide +kernel) rfl), by decide +kernel, by decide +kernel, by decide +kernel⟩
theorem ml_L_31 : j_ML 0 "BackIndexLaw" 31 mX12_word 1 := ⟨Or.inl (j_me6 137 (by decide +kernel) rfl), ⟨(j_me6 138 (by decide +kernel) rfl), (j_me6 139 (by decide +kernel) rfl)⟩, cw_X12_word, (j_me1 14 (by decide +kernel) rfl), by decide +kernel, by decide +kernel, by decide +kernel⟩
theorem ml_L_32 : j_ML 0 "BackIndexLaw" 32 mX11_flow 1 := ⟨Or.inl (j_me3 2 (by decide +kernel) rfl), ⟨(j_me3 3 (by decide +kernel) rfl), (j_me3 4 (by decide +kernel) rfl)⟩, cw_X11_flow, (j_me1 1 (by decide +kernel) rfl), by decide +kernel, by decide +kernel, by decide +kernel⟩
theorem ml_L_35 : j_ML 0 "BackIndexLaw" 35 mX12_flow 1 := ⟨Or.inl (j_me6 141 (by decide +kernel) rfl), ⟨(j_me6 142 (by decide +kernel) rfl), (j_me6 143 (by decide +kernel) rfl)⟩, cw_X12_flow, (j_me1 14 (by decide +kernel) rfl), by decide +kernel, by decide +kernel, by decide +kernel⟩
theorem ml_L_36 : j_ML 0 "BackIndexLaw" 36 mX11_part 4 := ⟨Or.inl (j_me3 6 (by decide +kernel) rfl), ⟨(j_me3 7 (by decide +kernel) rfl), (j_me3 8 (by decide +kernel) rfl)⟩, cw_X11_part, (j_me1 1 (by decide +kernel) rfl), by decide +kernel, by decide +kernel, by decide +kernel⟩
theorem ml_L_40 : j_ML 0 "BackIndexLaw" 40 mX12_part 4 := ⟨Or.inl (j_me6 145 (by decide +kernel) rfl), ⟨(j_me6 146 (by decide +kernel) rfl), (j_me6 147 (by decide +kernel) rfl)⟩, cw_X12_part, (j_me1 14 (by decide +kernel) rfl), by decide +kernel, by decide +kernel, by decide +kernel⟩
theorem ml_L_41 : j_ML 0 "BackIndexLaw" 41 mX11_label 1 := ⟨Or.inl (j_me3 22 (by decide +kernel) rfl), ⟨(j_me3 23 (by decide +kernel) rfl), (j_me3 24 (by decide +kernel) rfl)⟩, cw_X11_label, (j_me1 1 (by decide +kernel) rfl), by decide +kernel, by decide +kernel, by decide +kernel⟩
theorem ml_L_44 : j_ML 0 "BackIndexLaw" 44 mX12_label 1 := ⟨Or.inl (j_me6 149 (by decide +kernel) rfl), ⟨(j_me6 150 (by decide +kernel) rfl), (j_me6 151 (by decide +kernel) rfl)⟩, cw_X12_label, (j_me1 14 (by decide +kernel) rfl), by decide +kernel, by decide +kernel, by decide +kernel⟩
theorem ml_L_45 : j_ML 0 "BackIndexLaw" 45 mX11_labelSign 2 := ⟨Or.inl (j_me3 67 (by decide +kernel) rfl), ⟨(j_me3 68 (by decide +kernel) rfl), (j_me3 69 (by decide +kernel) rfl)⟩, cw_X11_labelSign, (j_me1 1 (by decide +kernel) rfl), by decide +kernel, by decide +kernel, by decide +kernel⟩
theorem ml_L_48 : j_ML 0 "BackIndexLaw" 48 mX12_labelSign 2 := ⟨Or.inl (j_me6 185 (by decide +kernel) rfl), ⟨(j_me6 186 (by decide +kernel) rfl), (j_me6 187 (by decide +kernel) rfl)⟩, cw_X12_labelSign, (j_me1 14 (by decide +kernel) rfl), by decide +kernel, by decide +kernel, by decide +kernel⟩
theorem ml_L_49 : j_ML 0 "BackIndexLaw" 49 mX11_labelled 3 := ⟨Or.inl (j_me3 71 (by decide +kernel) rfl), ⟨(j_me3 72 (by decide +kernel) rfl), (j_me3 73 (by decide +kernel) rfl)⟩, cw_X11_labelled, (j_me1 1 (by decide +kernel) rfl), by decide +kernel, by decide +kernel, by decide +kernel⟩
theorem ml_L_52 : j_ML 0 "BackIndexLaw" 52 mX12_labelled 3 := ⟨Or.inl (j_me6 189 (by decide +kernel) rfl), ⟨(j_me6 190 (by decide +kernel) rfl), (j_me6 191 (by decide +kernel) rfl)⟩, cw_X12_labelled, (j_me1 14 (by decide +kernel) rfl), by decide +kernel, by decide +kernel, by decide +kernel⟩
theorem ml_L_55 : j_ML 0 "BackIndexLaw" 55 mX11_name 2 := ⟨Or.inl (j_me3 79 (by decide +kernel) rfl), ⟨(j_me3 80 (by decide +kernel) rfl), (j_me3 81 (by decide +kernel) rfl)⟩, cw_X11_name, (j_me1 1 (by decide +kernel) rfl), by decide +kernel, by decide +kernel, by decide +kernel⟩
theorem ml_L_59 : j_ML 0 "BackIndexLaw" 59 mX12_name 2 := ⟨Or.inl (j_me6 193 (by decide +kernel) rfl), ⟨(j_me6 194 (by decide +kernel) rfl), (j_me6 195 (by decide +kernel) rfl)⟩, cw_X12_name, (j_me1 14 (by decide +kernel) rfl), by decide +kernel, by decide +kernel, by decide +kernel⟩
theorem ml_L_60 : j_ML 0 "BackIndexLaw" 60 mX11_unname 0 := ⟨Or.inl (j_me3 94 (by decide +kernel) rfl), ⟨(j_me3 95 (by decide +kernel) rfl), (j_me3 96 (by decide +kernel) rfl)⟩, cw_X11_unname, (j_me1 1 (by decide +kernel) rfl), by decide +kernel, by decide +kernel, by decide +kernel⟩
theorem ml_L_64 : j_ML 0 "BackIndexLaw" 64 mX12_unname 0 := ⟨Or.inl (j_me6 198 (by decide +kernel) rfl), ⟨(j_me6 199 (by decide +kernel) rfl), (j_me6 200 (by decide +kernel) rfl)⟩, cw_X12_unname, (j_me1 14 (by decide +kernel) rfl), by decide +kernel, by decide +kernel, by decide +kernel⟩
theorem ml_L_65 : j_ML 0 "BackIndexLaw" 65 mX11_head 0 := ⟨Or.inl (j_me3 102 (by decide +kernel) rfl), ⟨(j_me3 103 (by decide +kernel) rfl), (j_me3 104 (by decide +kernel) rfl)⟩, cw_X11_head, (j_me1 1 (by decide +kernel) rfl), by decide +kernel, by decide +kernel, by decide +kernel⟩
theorem ml_L_68 : j_ML 0 "BackIndexLaw" 68 mX12_head 0 := ⟨Or.inl (j_me6 202 (by decide +kernel) rfl), ⟨(j_me6 203 (by decide +kernel) rfl), (j_me6 204 (by decide +kernel) rfl)⟩, cw_X12_head, (j_me1 14 (by decide +kernel) rfl), by decide +kernel, by decide +kernel, by decide +kernel⟩
theorem ml_L_69 : j_ML 0 "BackIndexLaw" 69 mX11_sortAs 1 := ⟨Or.inl (j_me3 141 (by decide +kernel) rfl), ⟨(j_me3 142 (by decide +kernel) rfl), (j_me3 143 (by decide +kernel) rfl)⟩, cw_X11_sortAs, (j_me1 1 (by decide +kernel) rfl), by decide +kernel, by decide +kernel, by decide +kernel⟩
theorem ml_L_72 : j_ML 0 "BackIndexLaw" 72 mX12_sortAs 1 := ⟨Or.inl (j_me6 238 (by decide +kernel) rfl), ⟨(j_me6 239 (by decide +kernel) rfl), (j_me7 0 (by decide +kernel) rfl)⟩, cw_X12_sortAs, (j_me1 14 (by decide +kernel) rfl), by decide +kernel, by decide +kernel, by decide +kernel⟩
theorem ml_L_73 : j_ML 0 "BackIndexLaw" 73 mX11_pass 0 := ⟨Or.inl (j_me3 150 (by decide +kernel) rfl), ⟨(j_me3 151 (by decide +kernel) rfl), (j_me3 152 (by decide +kernel) rfl)⟩, cw_X11_pass, (j_me1 1 (by decide +kernel) rfl), by decide +kernel, by decide +kernel, by decide +kernel⟩
theorem ml_L_76 : j_ML 0 "BackIndexLaw" 76 mX12_pass 0 := ⟨Or.inl (j_me7 2 (by decide +kernel) rfl), ⟨(j_me7 3 (by decide +kernel) rfl), (j_me7 4 (by decide +kernel) rfl)⟩, cw_X12_pass, (j_me1 14 (by decide +kernel) rfl), by decide +kernel, by decide +kernel, by decide +kernel⟩
theorem ml_L_77 : j_ML 0 "BackIndexLaw" 77 mX11_about 2 := ⟨Or.inl (j_me3 179 (by decide +kernel) rfl), ⟨(j_me3 180 (by decide +kernel) rfl), (j_me3 181 (by decide +kernel) rfl)⟩, cw_X11_about, (j_me1 1 (by decide +kernel) rfl), by decide +kernel, by decide +kernel, by decide +kernel⟩
theorem ml_L_80 : j_ML 0 "BackIndexLaw" 80 mX12_about 2 := ⟨Or.inl (j_me7 12 (by decide +kernel) rfl), ⟨(j_me7 13 (by decide +kernel) rfl), (j_me7 14 (by decide +kernel) rfl)⟩, cw_X12_about, (j_me1 14 (by decide +kernel) rfl), by decide +kernel, by decide +kernel, by decide +kernel⟩
theorem ml_L_81 : j_ML 0 "BackIndexLaw" 81 mX11_sign 3 := ⟨Or.inl (j_me3 188 (by decide +kernel) rfl), ⟨(j_me3 189 (by decide +kernel) rfl), (j_me3 190 (by decide +kernel) rfl)⟩, cw_X11_sign, (j_me1 1 (by decide +kernel) rfl), by decide +kernel, by decide +kernel, by decide +kernel⟩
theorem ml_L_84 : j_ML 0 "BackIndexLaw" 84 mX12_sign 3 := ⟨Or.inl (j_me7 20 (by decide +kernel) rfl), ⟨(j_me7 21 (by decide +kernel) rfl), (j_me7 22 (by decide +kernel) rfl)⟩, cw_X12_sign, (j_me1 14 (by decide +kernel) rfl), by decide +kernel, by decide +kernel, by decide +kernel⟩
theorem ml_L_85 : j_ML 0 "BackIndexLaw" 85 mX11_compare 3 := ⟨Or.inl (j_me3 193 (by decide +kernel) rfl), ⟨(j_me3 194 (by decide +kernel) rfl), (j_me3 195 (by decide +kernel) rfl)⟩, cw_X11_compare, (j_me1 1 (by decide +kernel) rfl), by decide +kernel, by decide +kernel, by decide +kernel⟩
theorem ml_L_88 : j_ML 0 "BackIndexLaw" 88 mX12_compare 3 := ⟨Or.inl (j_me7 28 (by decide +kernel) rfl), ⟨(j_me7 29 (by decide +kernel) rfl), (j_me7 30 (by decide +kernel) rfl)⟩, cw_X12_compare, (j_me1 14 (by decide +kernel) rfl), by decide +kernel, by decide +kernel, by decide +kernel⟩
theorem ml_L_89 : j_ML 0 "BackIndexLaw" 89 mX11_rename 1 := ⟨Or.inl (j_me3 235 (by decide +kernel) rfl), ⟨(j_me3 236 (by decide +kernel) rfl), (j_me3 237 (by decide +kernel) rfl)⟩, cw_X11_rename, (j_me1 1 (by decide +kernel) rfl), by decide +kernel, by decide +kernel, by decide +kernel⟩
theorem ml_L_92 : j_ML 0 "BackIndexLaw" 92 mX12_rename 1 := ⟨Or.inl (j_me7 46 (by decide +kernel) rfl), ⟨(j_me7 47 (by decide +kernel) rfl), (j_me7 48 (by decide +kernel) rfl)⟩, cw_X12_rename, (j_me1 14 (by decide +kernel) rfl), by decide +kernel, by decide +kernel, by decide +kernel⟩
theorem ml_L_93 : j_ML 0 "BackIndexLaw" 93 mX11_meld 2 := ⟨Or.inl (j_me3 239 (by decide +kernel) rfl), ⟨(j_me4 0 (by decide +kernel) rfl), (j_me4 1 (by decide +kernel) rfl)⟩, cw_X11_meld, (j_me1 1 (by decide +kernel) rfl), by decide +kernel, by decide +kernel, by decide +kernel⟩
theorem ml_L_96 : j_ML 0 "BackIndexLaw" 96 mX12_meld 2 := ⟨Or.inl (j_me7 50 (by decide +kernel) rfl), ⟨(j_me7 51 (by decide +kernel) rfl), (j_me7 52 (by decide +kernel) rfl)⟩, cw_X12_meld, (j_me1 14 (by decide +kernel) rfl), by decide +kernel, by decide +kernel, by decide +kernel⟩
theorem ml_L_97 : j_ML 0 "BackIndexLaw" 97 mX11_mark 6 := ⟨Or.inl (j_me4 34 (by decide +kernel) rfl), ⟨(j_me4 35 (by decide +kernel) rfl), (j_me4 36 (by decide +kernel) rfl)⟩, cw_X11_mark, (j_me1 1 (by decide +kernel) rfl), by decide +kernel, by decide +kernel, by decide +kernel⟩
theorem ml_L_101 : j_ML 0 "BackIndexLaw" 101 mX12_mark 6 := ⟨Or.inl (j_me7 66 (by decide +kernel) rfl), ⟨(j_me7 67 (by decide +kernel) rfl), (j_me7 68 (by decide +kernel) rfl)⟩, cw_X12_mark, (j_me1 14 (by decide +kernel) rfl), by decide +kernel, by decide +kernel, by decide +kernel⟩
theorem ml_L_102 : j_ML 0 "BackIndexLaw" 102 mX11_see 4 := ⟨Or.inl (j_me4 50 (by decide +kernel) rfl), ⟨(j_me4 51 (by decide +kernel) rfl), (j_me4 52 (by decide +kernel) rfl)⟩, cw_X11_see, (j_me1 1 (by decide +kernel) rfl), by decide +kernel, by decide +kernel, by decide +kernel⟩
theorem ml_L_106 : j_ML 0 "BackIndexLaw" 106 mX12_see 4 := ⟨Or.inl (j_me7 74 (by decide +kernel) rfl), ⟨(j_me7 75 (by decide +kernel) rfl), (j_me7 76 (by decide +kernel) rfl)⟩, cw_X12_see, (j_me1 14 (by decide +kernel) rfl), by decide +kernel, by decide +kernel, by decide +kernel⟩
theorem ml_L_107 : j_ML 0 "BackIndexLaw" 107 mX11_drop 1 := ⟨Or.inl (j_me4 54 (by decide +kernel) rfl), ⟨(j_me4 55 (by decide +kernel) rfl), (j_me4 56 (by decide +kernel) rfl)⟩, cw_X11_drop, (j_me1 1 (by decide +kernel) rfl), by decide +kernel, by decide +kernel, by decide +kernel⟩
theorem ml_L_110 : j_ML 0 "BackIndexLaw" 110 mX12_drop 1 := ⟨Or.inl (j_me7 78 (by decide +kernel) rfl), ⟨(j_me7 79 (by decide +kernel) rfl), (j_me7 80 (by decide +kernel) rfl)⟩, cw_X12_drop, (j_me1 14 (by decide +kernel) rfl), by decide +kernel, by decide +kernel, by decide +kernel⟩
theorem ml_L_111 : j_ML 0 "BackIndexLaw" 111 mX11_marked 2 := ⟨Or.inl (j_me4 63 (by decide +kernel) rfl), ⟨(j_me4 64 (by decide +kernel) rfl), (j_me4 65 (by decide +kernel) rfl)⟩, cw_X11_marked, (j_me1 1 (by decide +kernel) rfl), by decide +kernel, by decide +kernel, by decide +kernel⟩
theorem ml_L_114 : j_ML 0 "BackIndexLaw" 114 mX12_marked 2 := ⟨Or.inl (j_me7 82 (by decide +kernel) rfl), ⟨(j_me7 83 (by decide +kernel) rfl), (j_me7 84 (by decide +kernel) rfl)⟩, cw_X12_marked, (j_me1 14 (by decide +kernel) rfl), by decide +kernel, by decide +kernel, by decide +kernel⟩
theorem ml_L_115 : j_ML 0 "BackIndexLaw" 115 mX11_tell 1 := ⟨Or.inl (j_me4 68 (by decide +kernel) rfl), ⟨(j_me4 69 (by decide +kernel) rfl), (j_me4 70 (by decide +kernel) rfl)⟩, cw_X11_tell, (j_me1 1 (by decide +kernel) rfl), by decide +kernel, by decide +kernel, by decide +kernel⟩
theorem ml_L_118 : j_ML 0 "BackIndexLaw" 118 mX12_tell 1 := ⟨Or.inl (j_me7 98 (by decide +kernel) rfl), ⟨(j_me7 99 (by decide +kernel) rfl), (j_me7 100 (by decide +kernel) rfl)⟩, cw_X12_tell, (j_me1 14 (by decide +kernel) rfl), by decide +kernel, by decide +kernel, by decide +kernel⟩
theorem ml_L_119 : j_ML 0 "BackIndexLaw" 119 mX11_show 1 := ⟨Or.inl (j_me4 96 (by decide +kernel) rfl), ⟨(j_me4 97 (by decide +kernel) rfl), (j_me4 98 (by decide +kernel) rfl)⟩, cw_X11_show, (j_me1 1 (by decide +kernel) rfl), by decide +kernel, by decide +kernel, by decide +kernel⟩
theorem ml_L_122 : j_ML 0 "BackIndexLaw" 122 mX12_show 1 := ⟨Or.inl (j_me7 106 (by decide +kernel) rfl), ⟨(j_me7 107 (by decide +kernel) rfl), (j_me7 108 (by decide +kernel) rfl)⟩, cw_X12_show, (j_me1 14 (by decide +kernel) rfl), by decide +kernel, by decide +kernel, by decide +kernel⟩
theorem ml_L_123 : j_ML 0 "BackIndexLaw" 123 mX11_build 3 := ⟨Or.inl (j_me4 112 (by decide +kernel) rfl), ⟨(j_me4 113 (by decide +kernel) rfl), (j_me4 114 (by decide +kernel) rfl)⟩, cw_X11_build, (j_me1 1 (by decide +kernel) rfl), by decide +kernel, by decide +kernel, by decide +kernel⟩
theorem ml_L_126 : j_ML 0 "BackIndexLaw" 126 mX12_build 3 := ⟨Or.inl (j_me7 110 (by decide +kernel) rfl), ⟨(j_me7 111 (by decide +kernel) rfl), (j_me7 112 (by decide +kernel) rfl)⟩, cw_X12_build, (j_me1 14 (by decide +kernel) rfl), by decide +kernel, by decide +kernel, by decide +kernel⟩
theorem ml_L_127 : j_ML 0 "BackIndexLaw" 127 mX11_entry 2 := ⟨Or.inl (j_me5 48 (by decide +kernel) rfl), ⟨(j_me5 49 (by decide +kernel) rfl), (j_me5 50 (by decide +kernel) rfl)⟩, cw_X11_entry, (j_me1 1 (by decide +kernel) rfl), by decide +kernel, by decide +kernel, by decide +kernel⟩
theorem ml_L_130 : j_ML 0 "BackIndexLaw" 130 mX12_entry 2 := ⟨Or.inl (j_me7 221 (by decide +kernel) rfl), ⟨(j_me7 222 (by decide +kernel) rfl), (j_me7 223 (by decide +kernel) rfl)⟩, cw_X12_entry, (j_me1 14 (by decide +kernel) rfl), by decide +kernel, by decide +kernel, by decide +kernel⟩
theorem ml_L_131 : j_ML 0 "BackIndexLaw" 131 mX11_place 3 := ⟨Or.inl (j_me5 59 (by decide +kernel) rfl), ⟨(j_me5 60 (by decide +kernel) rfl), (j_me5 61 (by decide +kernel) rfl)⟩, cw_X11_place, (j_me1 1 (by decide +kernel) rfl), by decide +kernel, by decide +kernel, by decide +kernel⟩
theorem ml_L_134 : j_ML 0 "BackIndexLaw" 134 mX12_place 3 := ⟨Or.inl (j_me7 229 (by decide +kernel) rfl), ⟨(j_me7 230 (by decide +kernel) rfl), (j_me7 231 (by decide +kernel) rfl)⟩, cw_X12_place, (j_me1 14 (by decide +kernel) rfl), by decide +kernel, by decide +kernel, by decide +kernel⟩
theorem ml_L_135 : j_ML 0 "BackIndexLaw" 135 mX11_sees 3 := ⟨Or.inl (j_me5 64 (by decide +kernel) rfl), ⟨(j_me5 65 (by decide +kernel) rfl), (j_me5 66 (by decide +kernel) rfl)⟩, cw_X11_sees, (j_me1 1 (by decide +kernel) rfl), by decide +kernel, by decide +kernel, by decide +kernel⟩
theorem ml_L_138 : j_ML 0 "BackIndexLaw" 138 mX12_sees 3 := ⟨Or.inl (j_me7 233 (by decide +kernel) rfl), ⟨(j_me7 234 (by decide +kernel) rfl), (j_me7 235 (by decide +kernel) rfl)⟩, cw_X12_sees, (j_me1 14 (by decide +kernel) rfl), by decide +kernel, by decide +kernel, by decide +kernel⟩
theorem ml_L_139 : j_ML 0 "BackIndexLaw" 139 mX11_find 3 := ⟨Or.inl (j_me5 69 (by decide +kernel) rfl), ⟨(j_me5 70 (by decide +kernel) rfl), (j_me5 71 (by decide +kernel) rfl)⟩, cw_X11_find, (j_me1 1 (by decide +kernel) rfl), by decide +kernel, by decide +kernel, by decide +kernel⟩
theorem ml_L_142 : j_ML 0 "BackIndexLaw" 142 mX12_find 3 := ⟨Or.inl (j_me7 237 (by decide +kernel) rfl), ⟨(j_me7 238 (by decide +kernel) rfl), (j_me7 239 (by decide +kernel) rfl)⟩, cw_X12_find, (j_me1 14 (by decide +kernel) rfl), by decide +kernel, by decide +kernel, by decide +kernel⟩
theorem ml_L_143 : j_ML 0 "BackIndexLaw" 143 mX11_first 0 := ⟨Or.inl (j_me5 75 (by decide +kernel) rfl), ⟨(j_me5 76 (by decide +kernel) rfl), (j_me5 77 (by decide +kernel) rfl)⟩, cw_X11_first, (j_me1 1 (by decide +kernel) rfl), by decide +kernel, by decide +kernel, by decide +kernel⟩
theorem ml_L_146 : j_ML 0 "BackIndexLaw" 146 mX12_first 0 := ⟨Or.inl (j_me8 1 (by decide +kernel) rfl), ⟨(j_me8 2 (by decide +kernel) rfl), (j_me8 3 (by decide +kernel) rfl)⟩, cw_X12_first, (j_me1 14 (by decide +kernel) rfl), by decide +kernel, by decide +kernel, by decide +kernel⟩
theorem ml_L_147 : j_ML 0 "BackIndexLaw" 147 mX11_unmatched 0 := ⟨Or.inl (j_me5 80 (by decide +kernel) rfl), ⟨(j_me5 81 (by decide +kernel) rfl), (j_me5 82 (by decide +kernel) rfl)⟩, cw_X11_unmatched, (j_me1 1 (by decide +kernel) rfl), by decide +kernel, by decide +kernel, by decide +kernel⟩
theorem ml_L_150 : j_ML 0 "BackIndexLaw" 150 mX12_unmatched 0 := ⟨Or.inl (j_me8 5 (by decide +kernel) rfl), ⟨(j_me8 6 (by decide +kernel) rfl), (j_me8 7 (by decide +kernel) rfl)⟩, cw_X12_unmatched, (j_me1 14 (by decide +kernel) rfl), by decide +kernel, by decide +kernel, by decide +kernel⟩
theorem ml_L_151 : j_ML 0 "BackIndexLaw" 151 mX11_unmatchedAt 1 := ⟨Or.inl (j_me5 84 (by decide +kernel) rfl), ⟨(j_me5 85 (by decide +kernel) rfl), (j_me5 86 (by decide +kernel) rfl)⟩, cw_X11_unmatchedAt, (j_me1 1 (by decide +kernel) rfl), by decide +kernel, by decide +kernel, by decide +kernel⟩
theorem ml_L_154 : j_ML 0 "BackIndexLaw" 154 mX12_unmatchedAt 1 := ⟨Or.inl (j_me8 9 (by decide +kernel) rfl), ⟨(j_me8 10 (by decide +kernel) rfl), (j_me8 11 (by decide +kernel) rfl)⟩, cw_X12_unmatchedAt, (j_me1 14 (by decide +kernel) rfl), by decide +kernel, by decide +kernel, by decide +kernel⟩
theorem ml_L_155 : j_ML 0 "BackIndexLaw" 155 mX11_led 1 := ⟨Or.inl (j_me5 88 (by decide +kernel) rfl), ⟨(j_me5 89 (by decide +kernel) rfl), (j_me5 90 (by decide +kernel) rfl)⟩, cw_X11_led, (j_me1 1 (by decide +kernel) rfl), by decide +kernel, by decide +kernel, by decide +kernel⟩
theorem ml_L_158 : j_ML 0 "BackIndexLaw" 158 mX12_led 1 := ⟨Or.inl (j_me8 13 (by decide +kernel) rfl), ⟨(j_me8 14 (by decide +kernel) rfl), (j_me8 15 (by decide +kernel) rfl)⟩, cw_X12_led, (j_me1 14 (by decide +kernel) rfl), by decide +kernel, by decide +kernel, by decide +kernel⟩
theorem ml_L_159 : j_ML 0 "BackIndexLaw" 159 mX11_changed 0 := ⟨Or.inl (j_me5 96 (by decide +kernel) rfl), ⟨(j_me5 97 (by decide +kernel) rfl), (j_me5 98 (by decide +kernel) rfl)⟩, cw_X11_changed, (j_me1 1 (by decide +kernel) rfl), by decide +kernel, by decide +kernel, by decide +kernel⟩
theorem ml_L_162 : j_ML 0 "BackIndexLaw" 162 mX12_changed 0 := ⟨Or.inl (j_me8 17 (by decide +kernel) rfl), ⟨(j_me8 18 (by decide +kernel) rfl), (j_me8 19 (by decide +kernel) rfl)⟩, cw_X12_changed, (j_me1 14 (by decide +kernel) rfl), by decide +kernel, by decide +kernel, by decide +kernel⟩
theorem ml_L_163 : j_ML 0 "BackIndexLaw" 163 mX11_shorten 3 := ⟨Or.inl (j_me5 108 (by decide +kernel) rfl), ⟨(j_me5 109 (by decide +kernel) rfl), (j_me5 110 (by decide +kernel) rfl)⟩, cw_X11_shorten, (j_me1 1 (by decide +kernel) rfl), by decide +kernel, by decide +kernel, by decide +kernel⟩
theorem ml_L_166 : j_ML 0 "BackIndexLaw" 166 mX12_shorten 3 := ⟨Or.inl (j_me8 21 (by decide +kernel) rfl), ⟨(j_me8 22 (by decide +kernel) rfl), (j_me8 23 (by decide +kernel) rfl)⟩, cw_X12_shorten, (j_me1 14 (by decide +kernel) rfl), by decide +kernel, by decide +kernel, by decide +kernel⟩
theorem ml_L_167 : j_ML 0 "BackIndexLaw" 167 mX11_unfold 3 := ⟨Or.inl (j_me5 124 (by decide +kernel) rfl), ⟨(j_me5 125 (by decide +kernel) rfl), (j_me5 126 (by decide +kernel) rfl)⟩, cw_X11_unfold, (j_me1 1 (by decide +kernel) rfl), by decide +kernel, by decide +kernel, by decide +kernel⟩
theorem ml_L_170 : j_ML 0 "BackIndexLaw" 170 mX12_unfold 3 := ⟨Or.inl (j_me8 32 (by decide +kernel) rfl), ⟨(j_me8 33 (by decide +kernel) rfl), (j_me8 34 (by decide +kernel) rfl)⟩, cw_X12_unfold, (j_me1 14 (by decide +kernel) rfl), by decide +kernel, by decide +kernel, by decide +kernel⟩
theorem ml_L_171 : j_ML 0 "BackIndexLaw" 171 mX11_undo 0 := ⟨Or.inl (j_me5 128 (by decide +kernel) rfl), ⟨(j_me5 129 (by decide +kernel) rfl), (j_me5 130 (by decide +kernel) rfl)⟩, cw_X11_undo, (j_me1 1 (by decide +kernel) rfl), by decide +kernel, by decide +kernel, by decide +kernel⟩
theorem ml_L_174 : j_ML 0 "BackIndexLaw" 174 mX12_undo 0 := ⟨Or.inl (j_me8 36 (by decide +kernel) rfl), ⟨(j_me8 37 (by decide +kernel) rfl), (j_me8 38 (by decide +kernel) rfl)⟩, cw_X12_undo, (j_me1 14 (by decide +kernel) rfl), by decide +kernel, by decide +kernel, by decide +kernel⟩
theorem ml_L_175 : j_ML 0 "BackIndexLaw" 175 mX11_tray 2 := ⟨Or.inl (j_me5 136 (by decide +kernel) rfl), ⟨(j_me5 137 (by decide +kernel) rfl), (j_me5 138 (by decide +kernel) rfl)⟩, cw_X11_tray, (j_me1 1 (by decide +kernel) rfl), by decide +kernel, by decide +kernel, by decide +kernel⟩
theorem ml_L_178 : j_ML 0 "BackIndexLaw" 178 mX12_tray 2 := ⟨Or.inl (j_me8 40 (by decide +kernel) rfl), ⟨(j_me8 41 (by decide +kernel) rfl), (j_me8 42 (by decide +kernel) rfl)⟩, cw_X12_tray, (j_me1 14 (by decide +kernel) rfl), by decide +kernel, by decide +kernel, by decide +kernel⟩
theorem ml_L_179 : j_ML 0 "BackIndexLaw" 179 mX11_taken 1 := ⟨Or.inl (j_me5 140 (by decide +kernel) rfl), ⟨(j_me5 141 (by decide +kernel) rfl), (j_me5 142 (by decide +kernel) rfl)⟩, cw_X11_taken, (j_me1 1 (by decide +kernel) rfl), by decide +kernel, by decide +kernel, by decide +kernel⟩
theorem ml_L_182 : j_ML 0 "BackIndexLaw" 182 mX12_taken 1 := ⟨Or.inl (j_me8 44 (by decide +kernel) rfl), ⟨(j_me8 45 (by decide +kernel) rfl), (j_me8 46 (by decide +kernel) rfl)⟩, cw_X12_taken, (j_me1 14 (by decide +kernel) rfl), by decide +kernel, by decide +kernel, by decide +kernel⟩
theorem ml_L_183 : j_ML 0 "BackIndexLaw" 183 mX11_match 5 := ⟨Or.inl (j_me5 144 (by decide +kernel) rfl), ⟨(j_me5 145 (by decide +kernel) rfl), (j_me5 146 (by decide +kernel) rfl)⟩, cw_X11_match, (j_me1 1 (by decide +kernel) rfl), by decide +kernel, by decide +kernel, by decide +kernel⟩
theorem ml_L_187 : j_ML 0 "BackIndexLaw" 187 mX12_match 5 := ⟨Or.inl (j_me8 48 (by decide +kernel) rfl), ⟨(j_me8 49 (by decide +kernel) rfl), (j_me8 50 (by decide +kernel) rfl)⟩, cw_X12_match, (j_me1 14 (by decide +kernel) rfl), by decide +kernel, by decide +kernel, by decide +kernel⟩
theorem ml_L_188 : j_ML 0 "BackIndexLaw" 188 mX11_trace 0 := ⟨Or.inl (j_me5 148 (by decide +kernel) rfl), ⟨(j_me5 149 (by decide +kernel) rfl), (j_me5 150 (by decide +kernel) rfl)⟩, cw_X11_trace, (j_me1 1 (by decide +kernel) rfl), by decide +kernel, by decide +kernel, by decide +kernel⟩
theorem ml_L_191 : j_ML 0 "BackIndexLaw" 191 mX12_trace 0 := ⟨Or.inl (j_me8 52 (by decide +kernel) rfl), ⟨(j_me8 53 (by decide +kernel) rfl), (j_me8 54 (by decide +kernel) rfl)⟩, cw_X12_trace, (j_me1 14 (by decide +kernel) rfl), by decide +kernel, by decide +kernel, by decide +kernel⟩
theorem ml_L_192 : j_ML 0 "BackIndexLaw" 192 mX11_fault 0 := ⟨Or.inl (j_me5 152 (by decide +kernel) rfl), ⟨(j_me5 153 (by decide +kernel) rfl), (j_me5 154 (by decide +kernel) rfl)⟩, cw_X11_fault, (j_me1 1 (by decide +kernel) rfl), by decide +kernel, by decide +kernel, by decide +kernel⟩
theorem ml_L_195 : j_ML 0 "BackIndexLaw" 195 mX12_fault 0 := ⟨Or.inl (j_me8 56 (by decide +kernel) rfl), ⟨(j_me8 57 (by decide +kernel) rfl), (j_me8 58 (by decide +kernel) rfl)⟩, cw_X12_fault, (j_me1 14 (by decide +kernel) rfl), by decide +kernel, by decide +kernel, by decide +kernel⟩
theorem ml_L_196 : j_ML 0 "BackIndexLaw" 196 mX11_told 1 := ⟨Or.inl (j_me5 156 (by decide +kernel) rfl), ⟨(j_me5 157 (by decide +kernel) rfl), (j_me5 158 (by decide +kernel) rfl)⟩, cw_X11_told, (j_me1 1 (by decide +kernel) rfl), by decide +kernel, by decide +kernel, by decide +kernel⟩
theorem ml_L_199 : j_ML 0 "BackIndexLaw" 199 mX12_told 1 := ⟨Or.inl (j_me8 60 (by decide +kernel) rfl), ⟨(j_me8 61 (by decide +kernel) rfl), (j_me8 62 (by decide +kernel) rfl)⟩, cw_X12_told, (j_me1 14 (by decide +kernel) rfl), by decide +kernel, by decide +kernel, by decide +kernel⟩
theorem ol_X12_1 : Cond.methodLink "BackIndexModel" 1 objectInit ∈ j_wg := (j_me5 173 (by decide +kernel) rfl)
theorem ml_X12_124 : j_ML 0 "BackIndexModel" 124 mX12_words 0 := ⟨Or.inl (j_me6 102 (by decide +kernel) rfl), ⟨(j_me6 104 (by decide +kernel) rfl), (j_sel (n := 54) (by decide +kernel))⟩, cw_X12_words, (j_me1 14 (by decide +kernel) rfl), by decide +kernel, by decide +kernel, by decide +kernel⟩
theorem ml_X12_128 : j_ML 1 "BackIndexModel" 128 mX12_within 3 := ⟨Or.inl (j_me6 106 (by decide +kernel) rfl), (j_me6 107 (by decide +kernel) rfl), cw_X12_within, (j_me1 14 (by decide +kernel) rfl), by decide +kernel, by decide +kernel, by decide +kernel⟩
theorem ml_X12_132 : j_ML 0 "BackIndexModel" 132 mX12_keep 0 := ⟨Or.inl (j_me6 109 (by decide +kernel) rfl), ⟨(j_me6 111 (by decide +kernel) rfl), (j_sel (n := 54) (by decide +kernel))⟩, cw_X12_keep, (j_me1 14 (by decide +kernel) rfl), by decide +kernel, by decide +kernel, by decide +kernel⟩
theorem ml_X12_135 : j_ML 0 "BackIndexModel" 135 mX12_marksEver 0 := ⟨Or.inl (j_me6 113 (by decide +kernel) rfl), ⟨(j_me6 115 (by decide +kernel) rfl), (j_sel (n := 54) (by decide +kernel))⟩, cw_X12_marksEver, (j_me1 14 (by decide +kernel) rfl), by decide +kernel, by decide +kernel, by decide +kernel⟩
theorem ml_X12_138 : j_ML 0 "BackIndexModel" 138 mX12_gapAt 1 := ⟨Or.inl (j_me6 117 (by decide +kernel) rfl), ⟨(j_me6 119 (by decide +kernel) rfl), (j_sel (n := 54) (by decide +kernel))⟩, cw_X12_gapAt, (j_me1 14 (by decide +kernel) rfl), by decide +kernel, by decide +kernel, by decide +kernel⟩
theorem ml_X12_142 : j_ML 0 "BackIndexModel" 142 mX12_fails 1 := ⟨Or.inl (j_me6 133 (by decide +kernel) rfl), ⟨(j_me6 135 (by decide +kernel) rfl), (j_sel (n := 54) (by decide +kernel))⟩, cw_X12_fails, (j_me1 14 (by decide +kernel) rfl), by decide +kernel, by decide +kernel, by decide +kernel⟩
theorem ml_X12_151 : j_ML 0 "BackIndexModel" 151 mX12_say 1 := ⟨Or.inl (j_me6 177 (by decide +kernel) rfl), ⟨(j_me6 179 (by decide +kernel) rfl), (j_sel (n := 54) (by decide +kernel))⟩, cw_X12_say, (j_me1 14 (by decide +kernel) rfl), by decide +kernel, by decide +kernel, by decide +kernel⟩
theorem ml_X12_158 : j_ML 0 "BackIndexModel" 158 mX12_partOf 1 := ⟨Or.inl (j_me6 165 (by decide +kernel) rfl), ⟨(j_me6 167 (by decide +kernel) rfl), (j_sel (n := 54) (by decide +kernel))⟩, cw_X12_partOf, (j_me1 14 (by decide +kernel) rfl), by decide +kernel, by decide +kernel, by decide +kernel⟩
theorem ml_X12_161 : j_ML 0 "BackIndexModel" 161 mX12_formOf 1 := ⟨Or.inl (j_me6 161 (by decide +kernel) rfl), ⟨(j_me6 163 (by decide +kernel) rfl), (j_sel (n := 54) (by decide +kernel))⟩, cw_X12_formOf, (j_me1 14 (by decide +kernel) rfl), by decide +kernel, by decide +kernel, by decide +kernel⟩
theorem ml_X12_164 : j_ML 0 "BackIndexModel" 164 mX12_numberOf 1 := ⟨Or.inl (j_me6 169 (by decide +kernel) rfl), ⟨(j_me6 171 (by decide +kernel) rfl), (j_sel (n := 54) (by decide +kernel))⟩, cw_X12_numberOf, (j_me1 14 (by decide +kernel) rfl), by decide +kernel, by decide +kernel, by decide +kernel⟩
theorem ml_X12_167 : j_ML 0 "BackIndexModel" 167 mX12_sayRoman 3 := ⟨Or.inl (j_me6 173 (by decide +kernel) rfl), ⟨(j_me6 175 (by decide +kernel) rfl), (j_sel (n := 54) (by decide +kernel))⟩, cw_X12_sayRoman, (j_me1 14 (by decide +kernel) rfl), by decide +kernel, by decide +kernel, by decide +kernel⟩
theorem ml_X12_171 : j_ML 0 "BackIndexModel" 171 mX12_sayTens 1 := ⟨Or.inl (j_me6 181 (by decide +kernel) rfl), ⟨(j_me6 183 (by decide +kernel) rfl), (j_sel (n := 54) (by decide +kernel))⟩, cw_X12_sayTens, (j_me1 14 (by decide +kernel) rfl), by decide +kernel, by decide +kernel, by decide +kernel⟩
theorem ml_X12_174 : j_ML 0 "BackIndexModel" 174 mX12_pages 0 := ⟨Or.inl (j_me6 153 (by decide +kernel) rfl), ⟨(j_me6 155 (by decide +kernel) rfl), (j_sel (n := 54) (by decide +kernel))⟩, cw_X12_pages, (j_me1 14 (by decide +kernel) rfl), by decide +kernel, by decide +kernel, by decide +kernel⟩
theorem ml_X12_177 : j_ML 0 "BackIndexModel" 177 mX12_makeLabel 1 := ⟨Or.inl (j_me6 157 (by decide +kernel) rfl), ⟨(j_me6 159 (by decide +kernel) rfl), (j_sel (n := 54) (by decide +kernel))⟩, cw_X12_makeLabel, (j_me1 14 (by decide +kernel) rfl), by decide +kernel, by decide +kernel, by decide +kernel⟩
theorem ml_X12_180 : j_ML 0 "BackIndexModel" 180 mX12_headsEver 0 := ⟨Or.inl (j_me6 214 (by decide +kernel) rfl), ⟨(j_me6 216 (by decide +kernel) rfl), (j_sel (n := 54) (by decide +kernel))⟩, cw_X12_headsEver, (j_me1 14 (by decide +kernel) rfl), by decide +kernel, by decide +kernel, by decide +kernel⟩
theorem ml_X12_183 : j_ML 0 "BackIndexModel" 183 mX12_headAt 1 := ⟨Or.inl (j_me6 222 (by decide +kernel) rfl), ⟨(j_me6 224 (by decide +kernel) rfl), (j_sel (n := 54) (by decide +kernel))⟩, cw_X12_headAt, (j_me1 14 (by decide +kernel) rfl), by decide +kernel, by decide +kernel, by decide +kernel⟩
theorem ml_X12_186 : j_ML 0 "BackIndexModel" 186 mX12_signsOf 1 := ⟨Or.inl (j_me6 226 (by decide +kernel) rfl), ⟨(j_me6 228 (by decide +kernel) rfl), (j_sel (n := 54) (by decide +kernel))⟩, cw_X12_signsOf, (j_me1 14 (by decide +kernel) rfl), by decide +kernel, by decide +kernel, by decide +kernel⟩
theorem ml_X12_189 : j_ML 0 "BackIndexModel" 189 mX12_signOf 2 := ⟨Or.inl (j_me6 230 (by decide +kernel) rfl), ⟨(j_me6 232 (by decide +kernel) rfl), (j_sel (n := 54) (by decide +kernel))⟩, cw_X12_signOf, (j_me1 14 (by decide +kernel) rfl), by decide +kernel, by decide +kernel, by decide +kernel⟩
theorem ml_X12_198 : j_ML 0 "BackIndexModel" 198 mX12_isTidy 0 := ⟨Or.inl (j_me6 210 (by decide +kernel) rfl), ⟨(j_me6 212 (by decide +kernel) rfl), (j_sel (n := 54) (by decide +kernel))⟩, cw_X12_isTidy, (j_me1 14 (by decide +kernel) rfl), by decide +kernel, by decide +kernel, by decide +kernel⟩
theorem ml_X12_202 : j_ML 0 "BackIndexModel" 202 mX12_isHead 1 := ⟨Or.inl (j_me6 218 (by decide +kernel) rfl), ⟨(j_me6 220 (by decide +kernel) rfl), (j_sel (n := 54) (by decide +kernel))⟩, cw_X12_isHead, (j_me1 14 (by decide +kernel) rfl), by decide +kernel, by decide +kernel, by decide +kernel⟩
theorem ml_X12_206 : j_ML 0 "BackIndexModel" 206 mX12_isFreeName 0 := ⟨Or.inl (j_me6 206 (by decide +kernel) rfl), ⟨(j_me6 208 (by decide +kernel) rfl), (j_sel (n := 54) (by decide +kernel))⟩, cw_X12_isFreeName, (j_me1 14 (by decide +kernel) rfl), by decide +kernel, by decide +kernel, by decide +kernel⟩
theorem ml_X12_209 : j_ML 0 "BackIndexModel" 209 mX12_nameTo 1 := ⟨Or.inl (j_me6 234 (by decide +kernel) rfl), ⟨(j_me6 236 (by decide +kernel) rfl), (j_sel (n := 54) (by decide +kernel))⟩, cw_X12_nameTo, (j_me1 14 (by decide +kernel) rfl), by decide +kernel, by decide +kernel, by decide +kernel⟩
theorem ml_X12_212 : j_ML 1 "BackIndexModel" 212 mX12_isLetter 1 := ⟨Or.inl (j_me7 6 (by decide +kernel) rfl), (j_me7 7 (by decide +kernel) rfl), cw_X12_isLetter, (j_me1 14 (by decide +kernel) rfl), by decide +kernel, by decide +kernel, by decide +kernel⟩
theorem ml_X12_218 : j_ML 1 "BackIndexModel" 218 mX12_small 1 := ⟨Or.inl (j_me7 9 (by decide +kernel) rfl), (j_me7 10 (by decide +kernel) rfl), cw_X12_small, (j_me1 14 (by decide +kernel) rfl), by decide +kernel, by decide +kernel, by decide +kernel⟩
theorem ml_X12_221 : j_ML 0 "BackIndexModel" 221 mX12_sortedLong 1 := ⟨Or.inl (j_me7 16 (by decide +kernel) rfl), ⟨(j_me7 18 (by decide +kernel) rfl), (j_sel (n := 54) (by decide +kernel))⟩, cw_X12_sortedLong, (j_me1 14 (by decide +kernel) rfl), by decide +kernel, by decide +kernel, by decide +kernel⟩
theorem ml_X12_224 : j_ML 0 "BackIndexModel" 224 mX12_sortedSign 2 := ⟨Or.inl (j_me7 24 (by decide +kernel) rfl), ⟨(j_me7 26 (by decide +kernel) rfl), (j_sel (n := 54) (by decide +kernel))⟩, cw_X12_sortedSign, (j_me1 14 (by decide +kernel) rfl), by decide +kernel, by decide +kernel, by decide +kernel⟩
theorem ml_X12_241 : j_ML 0 "BackIndexModel" 241 mX12_keyFrom 1 := ⟨Or.inl (j_me7 36 (by decide +kernel) rfl), ⟨(j_me7 38 (by decide +kernel) rfl), (j_sel (n := 54) (by decide +kernel))⟩, cw_X12_keyFrom, (j_me1 14 (by decide +kernel) rfl), by decide +kernel, by decide +kernel, by decide +kernel⟩
theorem ml_X12_244 : j_ML 0 "BackIndexModel" 244 mX12_bit 3 := ⟨Or.inl (j_me7 40 (by decide +kernel) rfl), ⟨(j_me7 42 (by decide +kernel) rfl), (j_sel (n := 54) (by decide +kernel))⟩, cw_X12_bit, (j_me1 14 (by decide +kernel) rfl), by decide +kernel, by decide +kernel, by decide +kernel⟩
theorem ml_X12_247 : j_ML 0 "BackIndexModel" 247 mX12_compared 3 := ⟨Or.inl (j_me7 32 (by decide +kernel) rfl), ⟨(j_me7 34 (by decide +kernel) rfl), (j_sel (n := 54) (by decide +kernel))⟩, cw_X12_compared, (j_me1 14 (by decide +kernel) rfl), by decide +kernel, by decide +kernel, by decide +kernel⟩
theorem ml_X12_251 : j_ML 0 "BackIndexModel" 251 mX12_markAt 1 := ⟨Or.inl (j_me6 121 (by decide +kernel) rfl), ⟨(j_me6 123 (by decide +kernel) rfl), (j_sel (n := 54) (by decide +kernel))⟩, cw_X12_markAt, (j_me1 14 (by decide +kernel) rfl), by decide +kernel, by decide +kernel, by decide +kernel⟩
theorem ml_X12_254 : j_ML 0 "BackIndexModel" 254 mX12_isMark 1 := ⟨Or.inl (j_me7 54 (by decide +kernel) rfl), ⟨(j_me7 56 (by decide +kernel) rfl), (j_sel (n := 54) (by decide +kernel))⟩, cw_X12_isMark, (j_me1 14 (by decide +kernel) rfl), by decide +kernel, by decide +kernel, by decide +kernel⟩
theorem ml_X12_257 : j_ML 0 "BackIndexModel" 257 mX12_kindOf 1 := ⟨Or.inl (j_me7 58 (by decide +kernel) rfl), ⟨(j_me7 60 (by decide +kernel) rfl), (j_sel (n := 54) (by decide +kernel))⟩, cw_X12_kindOf, (j_me1 14 (by decide +kernel) rfl), by decide +kernel, by decide +kernel, by decide +kernel⟩
theorem ml_X12_260 : j_ML 0 "BackIndexModel" 260 mX12_headOf 2 := ⟨Or.inl (j_me7 62 (by decide +kernel) rfl), ⟨(j_me7 64 (by decide +kernel) rfl), (j_sel (n := 54) (by decide +kernel))⟩, cw_X12_headOf, (j_me1 14 (by decide +kernel) rfl), by decide +kernel, by decide +kernel, by decide +kernel⟩
theorem ml_X12_263 : j_ML 0 "BackIndexModel" 263 mX12_comes 6 := ⟨Or.inl (j_me7 70 (by decide +kernel) rfl), ⟨(j_me7 72 (by decide +kernel) rfl), (j_sel (n := 54) (by decide +kernel))⟩, cw_X12_comes, (j_me1 14 (by decide +kernel) rfl), by decide +kernel, by decide +kernel, by decide +kernel⟩
theorem ml_X12_266 : j_ML 0 "BackIndexModel" 266 mX12_gapOf 1 := ⟨Or.inl (j_me7 86 (by decide +kernel) rfl), ⟨(j_me7 88 (by decide +kernel) rfl), (j_sel (n := 54) (by decide +kernel))⟩, cw_X12_gapOf, (j_me1 14 (by decide +kernel) rfl), by decide +kernel, by decide +kernel, by decide +kernel⟩
theorem ml_X12_269 : j_ML 0 "BackIndexModel" 269 mX12_noteOf 1 := ⟨Or.inl (j_me7 90 (by decide +kernel) rfl), ⟨(j_me7 92 (by decide +kernel) rfl), (j_sel (n := 54) (by decide +kernel))⟩, cw_X12_noteOf, (j_me1 14 (by decide +kernel) rfl), by decide +kernel, by decide +kernel, by decide +kernel⟩
theorem ml_X12_272 : j_ML 0 "BackIndexModel" 272 mX12_pageOf 1 := ⟨Or.inl (j_me7 94 (by decide +kernel) rfl), ⟨(j_me7 96 (by decide +kernel) rfl), (j_sel (n := 54) (by decide +kernel))⟩, cw_X12_pageOf, (j_me1 14 (by decide +kernel) rfl), by decide +kernel, by decide +kernel, by decide +kernel⟩
theorem ml_X12_278 : j_ML 0 "BackIndexModel" 278 mX12_begins 1 := ⟨Or.inl (j_me7 102 (by decide +kernel) rfl), ⟨(j_me7 104 (by decide +kernel) rfl), (j_sel (n := 54) (by decide +kernel))⟩, cw_X12_begins, (j_me1 14 (by decide +kernel) rfl), by decide +kernel, by decide +kernel, by decide +kernel⟩
theorem ml_X12_284 : j_ML 0 "BackIndexModel" 284 mX12_isPath 4 := ⟨Or.inl (j_me7 126 (by decide +kernel) rfl), ⟨(j_me7 128 (by decide +kernel) rfl), (j_sel (n := 54) (by decide +kernel))⟩, cw_X12_isPath, (j_me1 14 (by decide +kernel) rfl), by decide +kernel, by decide +kernel, by decide +kernel⟩
theorem ml_X12_288 : j_ML 0 "BackIndexModel" 288 mX12_entryOf 3 := ⟨Or.inl (j_me7 122 (by decide +kernel) rfl), ⟨(j_me7 124 (by decide +kernel) rfl), (j_sel (n := 54) (by decide +kernel))⟩, cw_X12_entryOf, (j_me1 14 (by decide +kernel) rfl), by decide +kernel, by decide +kernel, by decide +kernel⟩
theorem ml_X12_291 : j_ML 0 "BackIndexModel" 291 mX12_comparePaths 3 := ⟨Or.inl (j_me7 134 (by decide +kernel) rfl), ⟨(j_me7 136 (by decide +kernel) rfl), (j_sel (n := 54) (by decide +kernel))⟩, cw_X12_comparePaths, (j_me1 14 (by decide +kernel) rfl), by decide +kernel, by decide +kernel, by decide +kernel⟩
theorem ml_X12_300 : j_ML 0 "BackIndexModel" 300 mX12_addRun 2 := ⟨Or.inl (j_me7 150 (by decide +kernel) rfl), ⟨(j_me7 152 (by decide +kernel) rfl), (j_sel (n := 54) (by decide +kernel))⟩, cw_X12_addRun, (j_me1 14 (by decide +kernel) rfl), by decide +kernel, by decide +kernel, by decide +kernel⟩
theorem ml_X12_304 : j_ML 0 "BackIndexModel" 304 mX12_isOf 2 := ⟨Or.inl (j_me7 146 (by decide +kernel) rfl), ⟨(j_me7 148 (by decide +kernel) rfl), (j_sel (n := 54) (by decide +kernel))⟩, cw_X12_isOf, (j_me1 14 (by decide +kernel) rfl), by decide +kernel, by decide +kernel, by decide +kernel⟩
theorem ml_X12_308 : j_ML 0 "BackIndexModel" 308 mX12_isBehind 2 := ⟨Or.inl (j_me7 158 (by decide +kernel) rfl), ⟨(j_me7 160 (by decide +kernel) rfl), (j_sel (n := 54) (by decide +kernel))⟩, cw_X12_isBehind, (j_me1 14 (by decide +kernel) rfl), by decide +kernel, by decide +kernel, by decide +kernel⟩
theorem ml_X12_311 : j_ML 0 "BackIndexModel" 311 mX12_nextBound 2 := ⟨Or.inl (j_me7 154 (by decide +kernel) rfl), ⟨(j_me7 156 (by decide +kernel) rfl), (j_sel (n := 54) (by decide +kernel))⟩, cw_X12_nextBound, (j_me1 14 (by decide +kernel) rfl), by decide +kernel, by decide +kernel, by decide +kernel⟩
theorem ml_X12_314 : j_ML 0 "BackIndexModel" 314 mX12_unmatch 1 := ⟨Or.inl (j_me7 162 (by decide +kernel) rfl), ⟨(j_me7 164 (by decide +kernel) rfl), (j_sel (n := 54) (by decide +kernel))⟩, cw_X12_unmatch, (j_me1 14 (by decide +kernel) rfl), by decide +kernel, by decide +kernel, by decide +kernel⟩
theorem ml_X12_317 : j_ML 0 "BackIndexModel" 317 mX12_hasMain 2 := ⟨Or.inl (j_me7 170 (by decide +kernel) rfl), ⟨(j_me7 172 (by decide +kernel) rfl), (j_sel (n := 54) (by decide +kernel))⟩, cw_X12_hasMain, (j_me1 14 (by decide +kernel) rfl), by decide +kernel, by decide +kernel, by decide +kernel⟩
theorem ml_X12_320 : j_ML 0 "BackIndexModel" 320 mX12_outRun 1 := ⟨Or.inl (j_me7 174 (by decide +kernel) rfl), ⟨(j_me7 176 (by decide +kernel) rfl), (j_sel (n := 54) (by decide +kernel))⟩, cw_X12_outRun, (j_me1 14 (by decide +kernel) rfl), by decide +kernel, by decide +kernel, by decide +kernel⟩
theorem ml_X12_323 : j_ML 0 "BackIndexModel" 323 mX12_isPlaceBehind 5 := ⟨Or.inl (j_me7 182 (by decide +kernel) rfl), ⟨(j_me7 184 (by decide +kernel) rfl), (j_sel (n := 54) (by decide +kernel))⟩, cw_X12_isPlaceBehind, (j_me1 14 (by decide +kernel) rfl), by decide +kernel, by decide +kernel, by decide +kernel⟩
theorem ml_X12_330 : j_ML 1 "BackIndexModel" 330 mX12_rankOf 1 := ⟨Or.inl (j_me7 186 (by decide +kernel) rfl), (j_me7 187 (by decide +kernel) rfl), cw_X12_rankOf, (j_me1 14 (by decide +kernel) rfl), by decide +kernel, by decide +kernel, by decide +kernel⟩
theorem ml_X12_333 : j_ML 0 "BackIndexModel" 333 mX12_findRuns 1 := ⟨Or.inl (j_me7 142 (by decide +kernel) rfl), ⟨(j_me7 144 (by decide +kernel) rfl), (j_sel (n := 54) (by decide +kernel))⟩, cw_X12_findRuns, (j_me1 14 (by decide +kernel) rfl), by decide +kernel, by decide +kernel, by decide +kernel⟩
theorem ml_X12_336 : j_ML 0 "BackIndexModel" 336 mX12_thinRuns 2 := ⟨Or.inl (j_me7 166 (by decide +kernel) rfl), ⟨(j_me7 168 (by decide +kernel) rfl), (j_sel (n := 54) (by decide +kernel))⟩, cw_X12_thinRuns, (j_me1 14 (by decide +kernel) rfl), by decide +kernel, by decide +kernel, by decide +kernel⟩
theorem ml_X12_339 : j_ML 0 "BackIndexModel" 339 mX12_addPlace 6 := ⟨Or.inl (j_me7 178 (by decide +kernel) rfl), ⟨(j_me7 180 (by decide +kernel) rfl), (j_sel (n := 54) (by decide +kernel))⟩, cw_X12_addPlace, (j_me1 14 (by decide +kernel) rfl), by decide +kernel, by decide +kernel, by decide +kernel⟩
theorem ml_X12_346 : j_ML 0 "BackIndexModel" 346 mX12_deepOf 1 := ⟨Or.inl (j_me7 193 (by decide +kernel) rfl), ⟨(j_me7 195 (by decide +kernel) rfl), (j_sel (n := 54) (by decide +kernel))⟩, cw_X12_deepOf, (j_me1 14 (by decide +kernel) rfl), by decide +kernel, by decide +kernel, by decide +kernel⟩
theorem ml_X12_349 : j_ML 0 "BackIndexModel" 349 mX12_childrenOf 1 := ⟨Or.inl (j_me7 205 (by decide +kernel) rfl), ⟨(j_me7 207 (by decide +kernel) rfl), (j_sel (n := 54) (by decide +kernel))⟩, cw_X12_childrenOf, (j_me1 14 (by decide +kernel) rfl), by decide +kernel, by decide +kernel, by decide +kernel⟩
theorem ml_X12_352 : j_ML 0 "BackIndexModel" 352 mX12_addSee 4 := ⟨Or.inl (j_me7 197 (by decide +kernel) rfl), ⟨(j_me7 199 (by decide +kernel) rfl), (j_sel (n := 54) (by decide +kernel))⟩, cw_X12_addSee, (j_me1 14 (by decide +kernel) rfl), by decide +kernel, by decide +kernel, by decide +kernel⟩
theorem ml_X12_356 : j_ML 0 "BackIndexModel" 356 mX12_hasMore 1 := ⟨Or.inl (j_me7 201 (by decide +kernel) rfl), ⟨(j_me7 203 (by decide +kernel) rfl), (j_sel (n := 54) (by decide +kernel))⟩, cw_X12_hasMore, (j_me1 14 (by decide +kernel) rfl), by decide +kernel, by decide +kernel, by decide +kernel⟩
theorem ml_X12_362 : j_ML 0 "BackIndexModel" 362 mX12_isAsBefore 2 := ⟨Or.inl (j_me7 217 (by decide +kernel) rfl), ⟨(j_me7 219 (by decide +kernel) rfl), (j_sel (n := 54) (by decide +kernel))⟩, cw_X12_isAsBefore, (j_me1 14 (by decide +kernel) rfl), by decide +kernel, by decide +kernel, by decide +kernel⟩
theorem ml_X12_365 : j_ML 0 "BackIndexModel" 365 mX12_keepOld 0 := ⟨Or.inl (j_me7 114 (by decide +kernel) rfl), ⟨(j_me7 116 (by decide +kernel) rfl), (j_sel (n := 54) (by decide +kernel))⟩, cw_X12_keepOld, (j_me1 14 (by decide +kernel) rfl), by decide +kernel, by decide +kernel, by decide +kernel⟩
theorem ml_X12_368 : j_ML 0 "BackIndexModel" 368 mX12_addPath 3 := ⟨Or.inl (j_me7 118 (by decide +kernel) rfl), ⟨(j_me7 120 (by decide +kernel) rfl), (j_sel (n := 54) (by decide +kernel))⟩, cw_X12_addPath, (j_me1 14 (by decide +kernel) rfl), by decide +kernel, by decide +kernel, by decide +kernel⟩
theorem ml_X12_371 : j_ML 0 "BackIndexModel" 371 mX12_sortPaths 1 := ⟨Or.inl (j_me7 130 (by decide +kernel) rfl), ⟨(j_me7 132 (by decide +kernel) rfl), (j_sel (n := 54) (by decide +kernel))⟩, cw_X12_sortPaths, (j_me1 14 (by decide +kernel) rfl), by decide +kernel, by decide +kernel, by decide +kernel⟩
theorem ml_X12_374 : j_ML 0 "BackIndexModel" 374 mX12_findPlaces 3 := ⟨Or.inl (j_me7 138 (by decide +kernel) rfl), ⟨(j_me7 140 (by decide +kernel) rfl), (j_sel (n := 54) (by decide +kernel))⟩, cw_X12_findPlaces, (j_me1 14 (by decide +kernel) rfl), by decide +kernel, by decide +kernel, by decide +kernel⟩
theorem ml_X12_377 : j_ML 0 "BackIndexModel" 377 mX12_findSees 2 := ⟨Or.inl (j_me7 189 (by decide +kernel) rfl), ⟨(j_me7 191 (by decide +kernel) rfl), (j_sel (n := 54) (by decide +kernel))⟩, cw_X12_findSees, (j_me1 14 (by decide +kernel) rfl), by decide +kernel, by decide +kernel, by decide +kernel⟩
theorem ml_X12_380 : j_ML 0 "BackIndexModel" 380 mX12_ledTo 1 := ⟨Or.inl (j_me7 209 (by decide +kernel) rfl), ⟨(j_me7 211 (by decide +kernel) rfl), (j_sel (n := 54) (by decide +kernel))⟩, cw_X12_ledTo, (j_me1 14 (by decide +kernel) rfl), by decide +kernel, by decide +kernel, by decide +kernel⟩
theorem ml_X12_383 : j_ML 0 "BackIndexModel" 383 mX12_countChanged 0 := ⟨Or.inl (j_me7 213 (by decide +kernel) rfl), ⟨(j_me7 215 (by decide +kernel) rfl), (j_sel (n := 54) (by decide +kernel))⟩, cw_X12_countChanged, (j_me1 14 (by decide +kernel) rfl), by decide +kernel, by decide +kernel, by decide +kernel⟩
theorem ml_X12_389 : j_ML 0 "BackIndexModel" 389 mX12_isEntry 1 := ⟨Or.inl (j_me7 225 (by decide +kernel) rfl), ⟨(j_me7 227 (by decide +kernel) rfl), (j_sel (n := 54) (by decide +kernel))⟩, cw_X12_isEntry, (j_me1 14 (by decide +kernel) rfl), by decide +kernel, by decide +kernel, by decide +kernel⟩
theorem ml_X12_393 : j_ML 1 "BackIndexModel" 393 mX12_digitsOf 1 := ⟨Or.inl (j_me8 26 (by decide +kernel) rfl), (j_me8 27 (by decide +kernel) rfl), cw_X12_digitsOf, (j_me1 14 (by decide +kernel) rfl), by decide +kernel, by decide +kernel, by decide +kernel⟩
theorem ml_X12_396 : j_ML 1 "BackIndexModel" 396 mX12_tenTo 1 := ⟨Or.inl (j_me8 29 (by decide +kernel) rfl), (j_me8 30 (by decide +kernel) rfl), cw_X12_tenTo, (j_me1 14 (by decide +kernel) rfl), by decide +kernel, by decide +kernel, by decide +kernel⟩
theorem kn_X11 : Cond.initialized "BackIndex" ∈ j_wg := (j_me1 1 (by decide +kernel) rfl)
theorem kn_X4 : Cond.initialized "BackIndex$Kept" ∈ j_wg := (j_me1 2 (by decide +kernel) rfl)
theorem kn_X2 : Cond.initialized "BackIndex$Heads" ∈ j_wg := (j_me1 3 (by decide +kernel) rfl)
theorem kn_X9 : Cond.initialized "BackIndex$Rows" ∈ j_wg := (j_me1 4 (by decide +kernel) rfl)
theorem kn_X7 : Cond.initialized "BackIndex$Marks" ∈ j_wg := (j_me1 6 (by decide +kernel) rfl)
theorem kn_X0 : Cond.initialized "BackIndex$Acts" ∈ j_wg := (j_me1 7 (by decide +kernel) rfl)
theorem kn_X8 : Cond.initialized "BackIndex$Parts" ∈ j_wg := (j_me1 8 (by decide +kernel) rfl)
theorem kn_X5 : Cond.initialized "BackIndex$Keys" ∈ j_wg := (j_me1 9 (by decide +kernel) rfl)
theorem kn_X1 : Cond.initialized "BackIndex$Bits" ∈ j_wg := (j_me1 10 (by decide +kernel) rfl)
theorem kn_X6 : Cond.initialized "BackIndex$Maker" ∈ j_wg := (j_me1 11 (by decide +kernel) rfl)
theorem kn_X10 : Cond.initialized "BackIndex$Runs" ∈ j_wg := (j_me1 12 (by decide +kernel) rfl)
theorem kn_X3 : Cond.initialized "BackIndex$Index" ∈ j_wg := (j_me1 13 (by decide +kernel) rfl)
theorem kn_X12 : Cond.initialized "BackIndexModel" ∈ j_wg := (j_me1 14 (by decide +kernel) rfl)
theorem kn_sys : Cond.initialized "java/lang/System" ∈ j_wg := (j_me1 15 (by decide +kernel) rfl)
theorem kl_L_7 : Cond.classLink "BackIndexLaw" 7 "BackIndex" ∈ j_wg := (j_me1 18 (by decide +kernel) rfl)
theorem ki_X11 : Cond.instantiable "BackIndex" 15 ∈ j_wg := (j_me1 19 (by decide +kernel) rfl)
theorem kl_X11_9 : Cond.classLink "BackIndex" 9 "BackIndex$Kept" ∈ j_wg := (j_me1 26 (by decide +kernel) rfl)
theorem ki_X4 : Cond.instantiable "BackIndex$Kept" 4 ∈ j_wg := (j_me1 27 (by decide +kernel) rfl)
theorem kl_X4_19 : Cond.classLink "BackIndex$Kept" 19 "BackIndex$Heads" ∈ j_wg := (j_me1 32 (by decide +kernel) rfl)
theorem ki_X2 : Cond.instantiable "BackIndex$Heads" 4 ∈ j_wg := (j_me1 33 (by decide +kernel) rfl)
theorem kl_X2_9 : Cond.classLink "BackIndex$Heads" 9 "BackIndex$Rows" ∈ j_wg := (j_me1 38 (by decide +kernel) rfl)
theorem ki_X9 : Cond.instantiable "BackIndex$Rows" 2 ∈ j_wg := (j_me1 39 (by decide +kernel) rfl)
theorem ka_int : Cond.arrayClass .int ∈ j_wg := (j_me1 54 (by decide +kernel) rfl)
theorem ka_byte : Cond.arrayClass .byte ∈ j_wg := (j_me1 55 (by decide +kernel) rfl)
theorem ka_boolean : Cond.arrayClass .boolean ∈ j_wg := (j_me1 76 (by decide +kernel) rfl)
theorem kl_X4_26 : Cond.classLink "BackIndex$Kept" 26 "BackIndex$Marks" ∈ j_wg := (j_me1 77 (by decide +kernel) rfl)
theorem ki_X7 : Cond.instantiable "BackIndex$Marks" 6 ∈ j_wg := (j_me1 78 (by decide +kernel) rfl)
theorem kl_X11_26 : Cond.classLink "BackIndex" 26 "BackIndex$Acts" ∈ j_wg := (j_me1 129 (by decide +kernel) rfl)
theorem ki_X0 : Cond.instantiable "BackIndex$Acts" 3 ∈ j_wg := (j_me1 130 (by decide +kernel) rfl)
theorem kl_X0_9 : Cond.classLink "BackIndex$Acts" 9 "BackIndex$Kept" ∈ j_wg := (j_me1 135 (by decide +kernel) rfl)
theorem kl_X11_33 : Cond.classLink "BackIndex" 33 "BackIndex$Parts" ∈ j_wg := (j_me1 148 (by decide +kernel) rfl)
theorem ki_X8 : Cond.instantiable "BackIndex$Parts" 7 ∈ j_wg := (j_me1 149 (by decide +kernel) rfl)
theorem kl_X11_40 : Cond.classLink "BackIndex" 40 "BackIndex$Rows" ∈ j_wg := (j_me1 178 (by decide +kernel) rfl)
theorem kl_X11_49 : Cond.classLink "BackIndex" 49 "BackIndex$Keys" ∈ j_wg := (j_me1 180 (by decide +kernel) rfl)
theorem ki_X5 : Cond.instantiable "BackIndex$Keys" 4 ∈ j_wg := (j_me1 181 (by decide +kernel) rfl)
theorem kl_X5_9 : Cond.classLink "BackIndex$Keys" 9 "BackIndex$Rows" ∈ j_wg := (j_me1 186 (by decide +kernel) rfl)
theorem kl_X5_24 : Cond.classLink "BackIndex$Keys" 24 "BackIndex$Bits" ∈ j_wg := (j_me1 188 (by decide +kernel) rfl)
theorem ki_X1 : Cond.instantiable "BackIndex$Bits" 3 ∈ j_wg := (j_me1 189 (by decide +kernel) rfl)
theorem kl_X11_56 : Cond.classLink "BackIndex" 56 "BackIndex$Maker" ∈ j_wg := (j_me1 220 (by decide +kernel) rfl)
theorem ki_X6 : Cond.instantiable "BackIndex$Maker" 14 ∈ j_wg := (j_me1 221 (by decide +kernel) rfl)
theorem kl_X6_35 : Cond.classLink "BackIndex$Maker" 35 "BackIndex$Runs" ∈ j_wg := (j_me1 226 (by decide +kernel) rfl)
theorem ki_X10 : Cond.instantiable "BackIndex$Runs" 3 ∈ j_wg := (j_me1 227 (by decide +kernel) rfl)
theorem kl_X11_65 : Cond.classLink "BackIndex" 65 "BackIndex$Index" ∈ j_wg := (j_me2 48 (by decide +kernel) rfl)
theorem ki_X3 : Cond.instantiable "BackIndex$Index" 11 ∈ j_wg := (j_me2 49 (by decide +kernel) rfl)
theorem kl_X3_43 : Cond.classLink "BackIndex$Index" 43 "BackIndex$Rows" ∈ j_wg := (j_me2 54 (by decide +kernel) rfl)
theorem kl_L_10 : Cond.classLink "BackIndexLaw" 10 "BackIndexModel" ∈ j_wg := (j_me5 168 (by decide +kernel) rfl)
theorem ki_X12 : Cond.instantiable "BackIndexModel" 54 ∈ j_wg := (j_me5 169 (by decide +kernel) rfl)
theorem ka_char : Cond.arrayClass .char ∈ j_wg := (j_me8 65 (by decide +kernel) rfl)
theorem kc_X1_43 : Cond.constantLong "BackIndex$Bits" 43 (Int64.ofInt 10) ∈ j_wg := (j_me3 226 (by decide +kernel) rfl)
theorem kc_X1_45 : Cond.constantLong "BackIndex$Bits" 45 (Int64.ofInt 48) ∈ j_wg := (j_me3 227 (by decide +kernel) rfl)
theorem kc_X11_343 : Cond.constant "BackIndex" 343 (Int32.ofInt 999999) ∈ j_wg := (j_me5 112 (by decide +kernel) rfl)
theorem kc_X12_13 : Cond.constant "BackIndexModel" 13 (Int32.ofInt 69320) ∈ j_wg := (j_me5 174 (by decide +kernel) rfl)
theorem kc_X12_193 : Cond.constantLong "BackIndexModel" 193 (Int64.ofInt 255) ∈ j_wg := (j_me6 197 (by decide +kernel) rfl)
theorem kc_X12_237 : Cond.constantLong "BackIndexModel" 237 (Int64.ofInt 10) ∈ j_wg := (j_me7 44 (by decide +kernel) rfl)
theorem kc_X12_239 : Cond.constantLong "BackIndexModel" 239 (Int64.ofInt 48) ∈ j_wg := (j_me7 45 (by decide +kernel) rfl)
theorem kc_X12_392 : Cond.constant "BackIndexModel" 392 (Int32.ofInt 999999) ∈ j_wg := (j_me8 25 (by decide +kernel) rfl)
theorem kc_L_53 : Cond.constantLong "BackIndexLaw" 53 (Int64.ofInt 4294967295) ∈ j_wg := (j_me8 64 (by decide +kernel) rfl)
theorem kw_nat : Cond.native arraycopyName ∈ j_wg := (j_me2 170 (by decide +kernel) rfl)
theorem kw_stat : Cond.static arraycopyName ∈ j_wg := (j_me2 169 (by decide +kernel) rfl)
theorem kw_oin : Cond.instanceMethod objectInit ∈ j_wg := (j_me1 24 (by decide +kernel) rfl)
theorem kw_oco : Cond.code objectInit ⟨#[0xb1]⟩ 1 none ∈ j_wg := (j_me1 25 rfl rfl)
