/-! METHODS and their words. Written by wip/whole/gen/meths.py -/
def m_B_init : jm_Mt := (⟨"BargainTree", "<init>", "()V"⟩, prog_1_method_1_code, 1, none, [])
def m_B_told : jm_Mt := (⟨"BargainTree", "told", "(II)I"⟩, prog_1_method_8_code, 4, (some .int), [])
def m_B_isLetter : jm_Mt := (⟨"BargainTree", "isLetter", "(I)Z"⟩, prog_1_method_20_code, 2, (some .boolean), [])
def m_L_contentCount : jm_Mt := (⟨"BargainTree$Letter", "contentCount", "()I"⟩, prog_4_method_2_code, 3, (some .int), [])
def m_L_contentAt : jm_Mt := (⟨"BargainTree$Letter", "contentAt", "(I)I"⟩, prog_4_method_3_code, 2, (some .int), [])
def m_B_done : jm_Mt := (⟨"BargainTree", "done", "()I"⟩, prog_1_method_11_code, 5, (some .int), [])
def m_P_foundNone : jm_Mt := (⟨"BargainTree$Part", "foundNone", "()Z"⟩, prog_6_method_2_code, 1, (some .boolean), [])
def m_A_isSettled : jm_Mt := (⟨"BargainTree$Agent", "isSettled", "()Z"⟩, prog_2_method_3_code, 1, (some .boolean), [])
def m_B_value : jm_Mt := (⟨"BargainTree", "value", "(I)I"⟩, prog_1_method_12_code, 2, (some .int), [])
def m_B_isAgent : jm_Mt := (⟨"BargainTree", "isAgent", "(I)Z"⟩, prog_1_method_18_code, 2, (some .boolean), [])
def m_B_total : jm_Mt := (⟨"BargainTree", "total", "()I"⟩, prog_1_method_13_code, 3, (some .int), [])
def m_A_isRoot : jm_Mt := (⟨"BargainTree$Agent", "isRoot", "()Z"⟩, prog_2_method_2_code, 1, (some .boolean), [])
def m_B_parent : jm_Mt := (⟨"BargainTree", "parent", "(I)I"⟩, prog_1_method_14_code, 2, (some .int), [])
def m_B_separator : jm_Mt := (⟨"BargainTree", "separator", "(I)I"⟩, prog_1_method_15_code, 2, (some .int), [])
def m_B_entries : jm_Mt := (⟨"BargainTree", "entries", "(I)I"⟩, prog_1_method_16_code, 2, (some .int), [])
def m_B_tables : jm_Mt := (⟨"BargainTree", "tables", "()I"⟩, prog_1_method_17_code, 1, (some .int), [])
def m_W_agent : jm_Mt := (⟨"BargainTreeLaw", "agent", "(LBargainTree;I[J)I"⟩, method_3_code, 4, (some .int), [(0, 9, 12, 13), (0, 9, 15, 15)])
def m_B_agent : jm_Mt := (⟨"BargainTree", "agent", "(I)I"⟩, prog_1_method_2_code, 2, (some .int), [])
def m_A_init : jm_Mt := (⟨"BargainTree$Agent", "<init>", "(II)V"⟩, prog_2_method_1_code, 3, none, [])
def m_W_own : jm_Mt := (⟨"BargainTreeLaw", "own", "(LBargainTree;III)I"⟩, method_4_code, 5, (some .int), [(0, 7, 10, 13), (0, 7, 14, 15)])
def m_B_own : jm_Mt := (⟨"BargainTree", "own", "(III)V"⟩, prog_1_method_3_code, 4, none, [])
def m_B_isValue : jm_Mt := (⟨"BargainTree", "isValue", "(II)Z"⟩, prog_1_method_19_code, 3, (some .boolean), [])
def m_B_isCost : jm_Mt := (⟨"BargainTree", "isCost", "(I)Z"⟩, prog_1_method_21_code, 1, (some .boolean), [])
def m_W_pair : jm_Mt := (⟨"BargainTreeLaw", "pair", "(LBargainTree;II[J)I"⟩, method_5_code, 5, (some .int), [(0, 10, 13, 13), (0, 10, 17, 15)])
def m_B_pair : jm_Mt := (⟨"BargainTree", "pair", "(II)I"⟩, prog_1_method_4_code, 3, (some .int), [])
def m_B_pairOf : jm_Mt := (⟨"BargainTree", "pairOf", "(II)LBargainTree$Pair;"⟩, prog_1_method_25_code, 4, (some (.object "BargainTree$Pair")), [])
def m_J_min : jm_Mt := (⟨"java/lang/Math", "min", "(II)I"⟩, prog_17_method_69_code, 2, (some .int), [])
def m_J_max : jm_Mt := (⟨"java/lang/Math", "max", "(II)I"⟩, prog_17_method_65_code, 2, (some .int), [])
def m_Q_init : jm_Mt := (⟨"BargainTree$Pair", "<init>", "(II)V"⟩, prog_5_method_1_code, 3, none, [])
def m_W_cost : jm_Mt := (⟨"BargainTreeLaw", "cost", "(LBargainTree;IIIII)I"⟩, method_6_code, 7, (some .int), [(0, 11, 14, 13), (0, 11, 18, 15)])
def m_B_cost : jm_Mt := (⟨"BargainTree", "cost", "(IIIII)V"⟩, prog_1_method_5_code, 7, none, [])
def m_B_pairWith : jm_Mt := (⟨"BargainTree", "pairWith", "(IIII)LBargainTree$Pair;"⟩, prog_1_method_26_code, 5, (some (.object "BargainTree$Pair")), [])
def m_Q_place : jm_Mt := (⟨"BargainTree$Pair", "place", "(III)I"⟩, prog_5_method_2_code, 4, (some .int), [])
def m_W_start : jm_Mt := (⟨"BargainTreeLaw", "start", "(LBargainTree;[J)I"⟩, method_7_code, 3, (some .int), [(0, 8, 11, 15)])
def m_B_start : jm_Mt := (⟨"BargainTree", "start", "()I"⟩, prog_1_method_6_code, 3, (some .int), [])
def m_B_findParts : jm_Mt := (⟨"BargainTree", "findParts", "()V"⟩, prog_1_method_27_code, 3, none, [])
def m_B_partOf : jm_Mt := (⟨"BargainTree", "partOf", "(I)I"⟩, prog_1_method_29_code, 5, (some .int), [])
def m_B_contains : jm_Mt := (⟨"BargainTree", "contains", "(II)Z"⟩, prog_1_method_22_code, 2, (some .boolean), [])
def m_B_mostJoined : jm_Mt := (⟨"BargainTree", "mostJoined", "(I)I"⟩, prog_1_method_30_code, 6, (some .int), [])
def m_J_bitCount : jm_Mt := (⟨"java/lang/Integer", "bitCount", "(I)I"⟩, prog_16_method_49_code, 1, (some .int), [])
def m_P_init : jm_Mt := (⟨"BargainTree$Part", "<init>", "(LBargainTree$Agent;)V"⟩, prog_6_method_1_code, 2, none, [])
def m_B_join : jm_Mt := (⟨"BargainTree", "join", "(ILBargainTree$Part;)V"⟩, prog_1_method_28_code, 4, none, [])
def m_B_hold : jm_Mt := (⟨"BargainTree", "hold", "(LBargainTree$Agent;)Z"⟩, prog_1_method_35_code, 3, (some .boolean), [])
def m_A_addChild : jm_Mt := (⟨"BargainTree$Agent", "addChild", "(LBargainTree$Agent;)V"⟩, prog_2_method_4_code, 2, none, [])
def m_C_init : jm_Mt := (⟨"BargainTree$Child", "<init>", "(LBargainTree$Agent;)V"⟩, prog_3_method_1_code, 2, none, [])
def m_B_sendToken : jm_Mt := (⟨"BargainTree", "sendToken", "(LBargainTree$Agent;)V"⟩, prog_1_method_44_code, 2, none, [])
def m_L_init : jm_Mt := (⟨"BargainTree$Letter", "<init>", "(IIII[I)V"⟩, prog_4_method_1_code, 6, none, [])
def m_B_send : jm_Mt := (⟨"BargainTree", "send", "(LBargainTree$Letter;)V"⟩, prog_1_method_48_code, 2, none, [])
def m_A_findSeparator : jm_Mt := (⟨"BargainTree$Agent", "findSeparator", "()V"⟩, prog_2_method_7_code, 2, none, [])
def m_B_sendBack : jm_Mt := (⟨"BargainTree", "sendBack", "(LBargainTree$Agent;)V"⟩, prog_1_method_45_code, 2, none, [])
def m_A_hasAllTables : jm_Mt := (⟨"BargainTree$Agent", "hasAllTables", "()Z"⟩, prog_2_method_6_code, 2, (some .boolean), [])
def m_B_makeTable : jm_Mt := (⟨"BargainTree", "makeTable", "(LBargainTree$Agent;I)V"⟩, prog_1_method_36_code, 6, none, [])
def m_B_tableSize : jm_Mt := (⟨"BargainTree", "tableSize", "(I)I"⟩, prog_1_method_37_code, 4, (some .int), [])
def m_B_tryEntry : jm_Mt := (⟨"BargainTree", "tryEntry", "(II)V"⟩, prog_1_method_38_code, 5, none, [])
def m_B_leastCost : jm_Mt := (⟨"BargainTree", "leastCost", "(LBargainTree$Agent;)I"⟩, prog_1_method_40_code, 4, (some .int), [])
def m_B_costWith : jm_Mt := (⟨"BargainTree", "costWith", "(LBargainTree$Agent;[I)I"⟩, prog_1_method_41_code, 6, (some .int), [])
def m_Q_joinsUpwards : jm_Mt := (⟨"BargainTree$Pair", "joinsUpwards", "(LBargainTree$Agent;)Z"⟩, prog_5_method_3_code, 2, (some .boolean), [])
def m_B_plus : jm_Mt := (⟨"BargainTree", "plus", "(II)I"⟩, prog_1_method_23_code, 2, (some .int), [])
def m_B_entryAt : jm_Mt := (⟨"BargainTree", "entryAt", "([II[I)I"⟩, prog_1_method_39_code, 7, (some .int), [])
def m_B_lesser : jm_Mt := (⟨"BargainTree", "lesser", "(II)I"⟩, prog_1_method_24_code, 2, (some .int), [])
def m_B_nothingTold : jm_Mt := (⟨"BargainTree", "nothingTold", "()[I"⟩, prog_1_method_42_code, 1, (some (.array .int)), [])
def m_J_fill : jm_Mt := (⟨"java/util/Arrays", "fill", "([II)V"⟩, prog_21_method_103_code, 4, none, [])
def m_B_choose : jm_Mt := (⟨"BargainTree", "choose", "(LBargainTree$Agent;I[I)V"⟩, prog_1_method_43_code, 7, none, [])
def m_B_sendChoices : jm_Mt := (⟨"BargainTree", "sendChoices", "(LBargainTree$Agent;)V"⟩, prog_1_method_47_code, 3, none, [])
def m_B_sendTable : jm_Mt := (⟨"BargainTree", "sendTable", "(LBargainTree$Agent;)V"⟩, prog_1_method_46_code, 2, none, [])
def m_W_letter : jm_Mt := (⟨"BargainTreeLaw", "letter", "(LBargainTree;II[J)I"⟩, method_8_code, 5, (some .int), [(0, 10, 13, 13), (0, 10, 17, 36), (0, 10, 21, 15)])
def m_B_letter : jm_Mt := (⟨"BargainTree", "letter", "(II)I"⟩, prog_1_method_7_code, 4, (some .int), [])
def m_B_takeOut : jm_Mt := (⟨"BargainTree", "takeOut", "(I)V"⟩, prog_1_method_49_code, 3, none, [])
def m_B_deliver : jm_Mt := (⟨"BargainTree", "deliver", "(LBargainTree$Letter;)V"⟩, prog_1_method_31_code, 3, none, [])
def m_B_takesToken : jm_Mt := (⟨"BargainTree", "takesToken", "(LBargainTree$Agent;LBargainTree$Letter;)Z"⟩, prog_1_method_32_code, 3, (some .boolean), [])
def m_B_takesBack : jm_Mt := (⟨"BargainTree", "takesBack", "(LBargainTree$Agent;LBargainTree$Letter;)Z"⟩, prog_1_method_33_code, 3, (some .boolean), [])
def m_B_takesTable : jm_Mt := (⟨"BargainTree", "takesTable", "(LBargainTree$Agent;LBargainTree$Letter;)Z"⟩, prog_1_method_34_code, 4, (some .boolean), [])
def m_A_childWith : jm_Mt := (⟨"BargainTree$Agent", "childWith", "(I)LBargainTree$Child;"⟩, prog_2_method_5_code, 3, (some (.object "BargainTree$Child")), [])
def m_W_again : jm_Mt := (⟨"BargainTreeLaw", "again", "(LBargainTree;I[J)I"⟩, method_9_code, 4, (some .int), [(0, 9, 12, 13), (0, 9, 15, 15)])
def m_B_again : jm_Mt := (⟨"BargainTree", "again", "(I)I"⟩, prog_1_method_9_code, 3, (some .int), [])
def m_W_change : jm_Mt := (⟨"BargainTreeLaw", "change", "(LBargainTree;IIIII[J)I"⟩, method_10_code, 8, (some .int), [(0, 16, 19, 13), (0, 16, 23, 15)])
def m_B_change : jm_Mt := (⟨"BargainTree", "change", "(IIIII)I"⟩, prog_1_method_10_code, 9, (some .int), [])
def m_M_init : jm_Mt := (⟨"BargainTreeModel", "<init>", "()V"⟩, prog_9_method_1_code, 2, none, [])
def m_M_thrown : jm_Mt := (⟨"BargainTreeModel", "thrown", "()I"⟩, prog_9_method_2_code, 1, (some .int), [])
def m_M_agent : jm_Mt := (⟨"BargainTreeModel", "agent", "(I)I"⟩, prog_9_method_10_code, 2, (some .int), [])
def m_M_within : jm_Mt := (⟨"BargainTreeModel", "within", "(III)Z"⟩, prog_9_method_4_code, 3, (some .boolean), [])
def m_M_own : jm_Mt := (⟨"BargainTreeModel", "own", "(III)V"⟩, prog_9_method_11_code, 4, none, [])
def m_M_isValue : jm_Mt := (⟨"BargainTreeModel", "isValue", "(II)Z"⟩, prog_9_method_8_code, 3, (some .boolean), [])
def m_M_isAgent : jm_Mt := (⟨"BargainTreeModel", "isAgent", "(I)Z"⟩, prog_9_method_7_code, 2, (some .boolean), [])
def m_M_isCost : jm_Mt := (⟨"BargainTreeModel", "isCost", "(I)Z"⟩, prog_9_method_9_code, 1, (some .boolean), [])
def m_M_pair : jm_Mt := (⟨"BargainTreeModel", "pair", "(II)I"⟩, prog_9_method_13_code, 3, (some .int), [])
def m_M_pairOf : jm_Mt := (⟨"BargainTreeModel", "pairOf", "(II)I"⟩, prog_9_method_12_code, 4, (some .int), [])
def m_M_cost : jm_Mt := (⟨"BargainTreeModel", "cost", "(IIIII)V"⟩, prog_9_method_16_code, 6, none, [])
def m_M_isPairCost : jm_Mt := (⟨"BargainTreeModel", "isPairCost", "(IIIII)Z"⟩, prog_9_method_14_code, 6, (some .boolean), [])
def m_M_setCost : jm_Mt := (⟨"BargainTreeModel", "setCost", "(IIIII)V"⟩, prog_9_method_15_code, 8, none, [])
def m_M_start : jm_Mt := (⟨"BargainTreeModel", "start", "()I"⟩, prog_9_method_19_code, 3, (some .int), [])
def m_M_findPart : jm_Mt := (⟨"BargainTreeModel", "findPart", "(I)V"⟩, prog_9_method_18_code, 5, none, [])
def m_M_has : jm_Mt := (⟨"BargainTreeModel", "has", "(II)Z"⟩, prog_9_method_5_code, 2, (some .boolean), [])
def m_M_goesBefore : jm_Mt := (⟨"BargainTreeModel", "goesBefore", "(II)Z"⟩, prog_9_method_17_code, 5, (some .boolean), [])
def m_M_bits : jm_Mt := (⟨"BargainTreeModel", "bits", "(I)I"⟩, prog_9_method_6_code, 3, (some .int), [])
def m_M_receiveToken : jm_Mt := (⟨"BargainTreeModel", "receiveToken", "(III)V"⟩, prog_9_method_24_code, 4, none, [])
def m_M_hold : jm_Mt := (⟨"BargainTreeModel", "hold", "(I)V"⟩, prog_9_method_25_code, 5, none, [])
def m_M_post : jm_Mt := (⟨"BargainTreeModel", "post", "(IIII)I"⟩, prog_9_method_20_code, 5, (some .int), [])
def m_M_work : jm_Mt := (⟨"BargainTreeModel", "work", "(II)V"⟩, prog_9_method_32_code, 3, none, [])
def m_M_hasAll : jm_Mt := (⟨"BargainTreeModel", "hasAll", "(I)Z"⟩, prog_9_method_31_code, 4, (some .boolean), [])
def m_M_width : jm_Mt := (⟨"BargainTreeModel", "width", "(I)I"⟩, prog_9_method_29_code, 4, (some .int), [])
def m_M_make : jm_Mt := (⟨"BargainTreeModel", "make", "(II)V"⟩, prog_9_method_30_code, 7, none, [])
def m_M_best : jm_Mt := (⟨"BargainTreeModel", "best", "(I)I"⟩, prog_9_method_28_code, 5, (some .int), [])
def m_M_costNow : jm_Mt := (⟨"BargainTreeModel", "costNow", "(I)I"⟩, prog_9_method_27_code, 5, (some .int), [])
def m_M_placeIn : jm_Mt := (⟨"BargainTreeModel", "placeIn", "(I)I"⟩, prog_9_method_26_code, 5, (some .int), [])
def m_M_postTable : jm_Mt := (⟨"BargainTreeModel", "postTable", "(I)V"⟩, prog_9_method_21_code, 4, none, [])
def m_M_choose : jm_Mt := (⟨"BargainTreeModel", "choose", "(II)V"⟩, prog_9_method_33_code, 4, none, [])
def m_M_postChoices : jm_Mt := (⟨"BargainTreeModel", "postChoices", "(I)V"⟩, prog_9_method_22_code, 5, none, [])
def m_M_letter : jm_Mt := (⟨"BargainTreeModel", "letter", "(II)I"⟩, prog_9_method_35_code, 4, (some .int), [])
def m_M_copyLetter : jm_Mt := (⟨"BargainTreeModel", "copyLetter", "(II)V"⟩, prog_9_method_23_code, 4, none, [])
def m_M_deliver : jm_Mt := (⟨"BargainTreeModel", "deliver", "()V"⟩, prog_9_method_34_code, 4, none, [])
def m_M_told : jm_Mt := (⟨"BargainTreeModel", "told", "(II)I"⟩, prog_9_method_36_code, 3, (some .int), [])
def m_M_entryOf : jm_Mt := (⟨"BargainTreeModel", "entryOf", "(II)I"⟩, prog_9_method_37_code, 4, (some .int), [])
def m_M_again : jm_Mt := (⟨"BargainTreeModel", "again", "(I)I"⟩, prog_9_method_38_code, 3, (some .int), [])
def m_M_change : jm_Mt := (⟨"BargainTreeModel", "change", "(IIIII)I"⟩, prog_9_method_42_code, 8, (some .int), [])
def m_M_state : jm_Mt := (⟨"BargainTreeModel", "state", "()I"⟩, prog_9_method_41_code, 5, (some .int), [])
def m_M_isLost : jm_Mt := (⟨"BargainTreeModel", "isLost", "(I)Z"⟩, prog_9_method_40_code, 2, (some .boolean), [])
def m_M_isSettled : jm_Mt := (⟨"BargainTreeModel", "isSettled", "(I)Z"⟩, prog_9_method_39_code, 2, (some .boolean), [])
def m_M_done : jm_Mt := (⟨"BargainTreeModel", "done", "()I"⟩, prog_9_method_43_code, 1, (some .int), [])
def m_M_value : jm_Mt := (⟨"BargainTreeModel", "value", "(I)I"⟩, prog_9_method_44_code, 2, (some .int), [])
def m_M_total : jm_Mt := (⟨"BargainTreeModel", "total", "()I"⟩, prog_9_method_45_code, 3, (some .int), [])
def m_M_parent : jm_Mt := (⟨"BargainTreeModel", "parent", "(I)I"⟩, prog_9_method_46_code, 2, (some .int), [])
def m_M_separator : jm_Mt := (⟨"BargainTreeModel", "separator", "(I)I"⟩, prog_9_method_47_code, 2, (some .int), [])
def m_M_entries : jm_Mt := (⟨"BargainTreeModel", "entries", "(I)I"⟩, prog_9_method_48_code, 2, (some .int), [])
def m_M_tables : jm_Mt := (⟨"BargainTreeModel", "tables", "()I"⟩, prog_9_method_49_code, 1, (some .int), [])
def m_W_law : jm_Mt := (⟨"BargainTreeLaw", "law", "([I)Z"⟩, code, maxLocals, ret, [])
theorem nv_B_init : jm_NV m_B_init 0 := ⟨jm_in (List.mem_of_getElem? (i := 1) (by decide +kernel)) (by decide +kernel), jm_in (List.mem_of_getElem? (i := 23) (by decide +kernel)) (by decide +kernel), ⟨by decide, by decide⟩, by decide +kernel, by decide⟩
theorem iw_B_init : Cond.instanceMethod m_B_init.1 ∈ jm_ws := jm_in (List.mem_of_getElem? (i := 22) (by decide +kernel)) (by decide +kernel)
theorem nv_B_told : jm_NV m_B_told 2 := ⟨jm_in (List.mem_of_getElem? (i := 1) (by decide +kernel)) (by decide +kernel), jm_in (List.mem_of_getElem? (i := 65) (by decide +kernel)) (by decide +kernel), ⟨by decide, by decide⟩, by decide +kernel, by decide⟩
theorem iw_B_told : Cond.instanceMethod m_B_told.1 ∈ jm_ws := jm_in (List.mem_of_getElem? (i := 63) (by decide +kernel)) (by decide +kernel)
theorem ew_B_told : Cond.selects "BargainTree" m_B_told.1 m_B_told.1 ∈ jm_ws := jm_in (List.mem_of_getElem? (i := 64) (by decide +kernel)) (by decide +kernel)
theorem nv_B_isLetter : jm_NV m_B_isLetter 1 := ⟨jm_in (List.mem_of_getElem? (i := 1) (by decide +kernel)) (by decide +kernel), jm_in (List.mem_of_getElem? (i := 69) (by decide +kernel)) (by decide +kernel), ⟨by decide, by decide⟩, by decide +kernel, by decide⟩
theorem iw_B_isLetter : Cond.instanceMethod m_B_isLetter.1 ∈ jm_ws := jm_in (List.mem_of_getElem? (i := 68) (by decide +kernel)) (by decide +kernel)
theorem ew_B_isLetter : Cond.selects "BargainTree" m_B_isLetter.1 m_B_isLetter.1 ∈ jm_ws := jm_inP (List.mem_of_getElem? (i := 0) (by decide +kernel)) (by decide +kernel)
theorem nv_L_contentCount : jm_NV m_L_contentCount 0 := ⟨jm_in (List.mem_of_getElem? (i := 16) (by decide +kernel)) (by decide +kernel), jm_in (List.mem_of_getElem? (i := 73) (by decide +kernel)) (by decide +kernel), ⟨by decide, by decide⟩, by decide +kernel, by decide⟩
theorem iw_L_contentCount : Cond.instanceMethod m_L_contentCount.1 ∈ jm_ws := jm_in (List.mem_of_getElem? (i := 71) (by decide +kernel)) (by decide +kernel)
theorem ew_L_contentCount : Cond.selects "BargainTree$Letter" m_L_contentCount.1 m_L_contentCount.1 ∈ jm_ws := jm_in (List.mem_of_getElem? (i := 72) (by decide +kernel)) (by decide +kernel)
theorem nv_L_contentAt : jm_NV m_L_contentAt 1 := ⟨jm_in (List.mem_of_getElem? (i := 16) (by decide +kernel)) (by decide +kernel), jm_in (List.mem_of_getElem? (i := 77) (by decide +kernel)) (by decide +kernel), ⟨by decide, by decide⟩, by decide +kernel, by decide⟩
theorem iw_L_contentAt : Cond.instanceMethod m_L_contentAt.1 ∈ jm_ws := jm_in (List.mem_of_getElem? (i := 75) (by decide +kernel)) (by decide +kernel)
theorem ew_L_contentAt : Cond.selects "BargainTree$Letter" m_L_contentAt.1 m_L_contentAt.1 ∈ jm_ws := jm_in (List.mem_of_getElem? (i := 76) (by decide +kernel)) (by decide +kernel)
theorem nv_B_done : jm_NV m_B_done 0 := ⟨jm_in (List.mem_of_getElem? (i := 1) (by decide +kernel)) (by decide +kernel), jm_in (List.mem_of_getElem? (i := 81) (by decide +kernel)) (by decide +kernel), ⟨by decide, by decide⟩, by decide +kernel, by decide⟩
theorem iw_B_done : Cond.instanceMethod m_B_done.1 ∈ jm_ws := jm_in (List.mem_of_getElem? (i := 79) (by decide +kernel)) (by decide +kernel)
theorem ew_B_done : Cond.selects "BargainTree" m_B_done.1 m_B_done.1 ∈ jm_ws := jm_in (List.mem_of_getElem? (i := 80) (by decide +kernel)) (by decide +kernel)
theorem nv_P_foundNone : jm_NV m_P_foundNone 0 := ⟨jm_in (List.mem_of_getElem? (i := 13) (by decide +kernel)) (by decide +kernel), jm_in (List.mem_of_getElem? (i := 85) (by decide +kernel)) (by decide +kernel), ⟨by decide, by decide⟩, by decide +kernel, by decide⟩
theorem iw_P_foundNone : Cond.instanceMethod m_P_foundNone.1 ∈ jm_ws := jm_in (List.mem_of_getElem? (i := 83) (by decide +kernel)) (by decide +kernel)
theorem ew_P_foundNone : Cond.selects "BargainTree$Part" m_P_foundNone.1 m_P_foundNone.1 ∈ jm_ws := jm_in (List.mem_of_getElem? (i := 84) (by decide +kernel)) (by decide +kernel)
theorem nv_A_isSettled : jm_NV m_A_isSettled 0 := ⟨jm_in (List.mem_of_getElem? (i := 8) (by decide +kernel)) (by decide +kernel), jm_in (List.mem_of_getElem? (i := 89) (by decide +kernel)) (by decide +kernel), ⟨by decide, by decide⟩, by decide +kernel, by decide⟩
theorem iw_A_isSettled : Cond.instanceMethod m_A_isSettled.1 ∈ jm_ws := jm_in (List.mem_of_getElem? (i := 87) (by decide +kernel)) (by decide +kernel)
theorem ew_A_isSettled : Cond.selects "BargainTree$Agent" m_A_isSettled.1 m_A_isSettled.1 ∈ jm_ws := jm_in (List.mem_of_getElem? (i := 88) (by decide +kernel)) (by decide +kernel)
theorem nv_B_value : jm_NV m_B_value 1 := ⟨jm_in (List.mem_of_getElem? (i := 1) (by decide +kernel)) (by decide +kernel), jm_in (List.mem_of_getElem? (i := 93) (by decide +kernel)) (by decide +kernel), ⟨by decide, by decide⟩, by decide +kernel, by decide⟩
theorem iw_B_value : Cond.instanceMethod m_B_value.1 ∈ jm_ws := jm_in (List.mem_of_getElem? (i := 91) (by decide +kernel)) (by decide +kernel)
theorem ew_B_value : Cond.selects "BargainTree" m_B_value.1 m_B_value.1 ∈ jm_ws := jm_in (List.mem_of_getElem? (i := 92) (by decide +kernel)) (by decide +kernel)
theorem nv_B_isAgent : jm_NV m_B_isAgent 1 := ⟨jm_in (List.mem_of_getElem? (i := 1) (by decide +kernel)) (by decide +kernel), jm_in (List.mem_of_getElem? (i := 97) (by decide +kernel)) (by decide +kernel), ⟨by decide, by decide⟩, by decide +kernel, by decide⟩
theorem iw_B_isAgent : Cond.instanceMethod m_B_isAgent.1 ∈ jm_ws := jm_in (List.mem_of_getElem? (i := 96) (by decide +kernel)) (by decide +kernel)
theorem ew_B_isAgent : Cond.selects "BargainTree" m_B_isAgent.1 m_B_isAgent.1 ∈ jm_ws := jm_inP (List.mem_of_getElem? (i := 1) (by decide +kernel)) (by decide +kernel)
theorem nv_B_total : jm_NV m_B_total 0 := ⟨jm_in (List.mem_of_getElem? (i := 1) (by decide +kernel)) (by decide +kernel), jm_in (List.mem_of_getElem? (i := 101) (by decide +kernel)) (by decide +kernel), ⟨by decide, by decide⟩, by decide +kernel, by decide⟩
theorem iw_B_total : Cond.instanceMethod m_B_total.1 ∈ jm_ws := jm_in (List.mem_of_getElem? (i := 99) (by decide +kernel)) (by decide +kernel)
theorem ew_B_total : Cond.selects "BargainTree" m_B_total.1 m_B_total.1 ∈ jm_ws := jm_in (List.mem_of_getElem? (i := 100) (by decide +kernel)) (by decide +kernel)
theorem nv_A_isRoot : jm_NV m_A_isRoot 0 := ⟨jm_in (List.mem_of_getElem? (i := 8) (by decide +kernel)) (by decide +kernel), jm_in (List.mem_of_getElem? (i := 106) (by decide +kernel)) (by decide +kernel), ⟨by decide, by decide⟩, by decide +kernel, by decide⟩
theorem iw_A_isRoot : Cond.instanceMethod m_A_isRoot.1 ∈ jm_ws := jm_in (List.mem_of_getElem? (i := 104) (by decide +kernel)) (by decide +kernel)
theorem ew_A_isRoot : Cond.selects "BargainTree$Agent" m_A_isRoot.1 m_A_isRoot.1 ∈ jm_ws := jm_in (List.mem_of_getElem? (i := 105) (by decide +kernel)) (by decide +kernel)
theorem nv_B_parent : jm_NV m_B_parent 1 := ⟨jm_in (List.mem_of_getElem? (i := 1) (by decide +kernel)) (by decide +kernel), jm_in (List.mem_of_getElem? (i := 110) (by decide +kernel)) (by decide +kernel), ⟨by decide, by decide⟩, by decide +kernel, by decide⟩
theorem iw_B_parent : Cond.instanceMethod m_B_parent.1 ∈ jm_ws := jm_in (List.mem_of_getElem? (i := 108) (by decide +kernel)) (by decide +kernel)
theorem ew_B_parent : Cond.selects "BargainTree" m_B_parent.1 m_B_parent.1 ∈ jm_ws := jm_in (List.mem_of_getElem? (i := 109) (by decide +kernel)) (by decide +kernel)
theorem nv_B_separator : jm_NV m_B_separator 1 := ⟨jm_in (List.mem_of_getElem? (i := 1) (by decide +kernel)) (by decide +kernel), jm_in (List.mem_of_getElem? (i := 114) (by decide +kernel)) (by decide +kernel), ⟨by decide, by decide⟩, by decide +kernel, by decide⟩
theorem iw_B_separator : Cond.instanceMethod m_B_separator.1 ∈ jm_ws := jm_in (List.mem_of_getElem? (i := 112) (by decide +kernel)) (by decide +kernel)
theorem ew_B_separator : Cond.selects "BargainTree" m_B_separator.1 m_B_separator.1 ∈ jm_ws := jm_in (List.mem_of_getElem? (i := 113) (by decide +kernel)) (by decide +kernel)
theorem nv_B_entries : jm_NV m_B_entries 1 := ⟨jm_in (List.mem_of_getElem? (i := 1) (by decide +kernel)) (by decide +kernel), jm_in (List.mem_of_getElem? (i := 120) (by decide +kernel)) (by decide +kernel), ⟨by decide, by decide⟩, by decide +kernel, by decide⟩
theorem iw_B_entries : Cond.instanceMethod m_B_entries.1 ∈ jm_ws := jm_in (List.mem_of_getElem? (i := 118) (by decide +kernel)) (by decide +kernel)
theorem ew_B_entries : Cond.selects "BargainTree" m_B_entries.1 m_B_entries.1 ∈ jm_ws := jm_in (List.mem_of_getElem? (i := 119) (by decide +kernel)) (by decide +kernel)
theorem nv_B_tables : jm_NV m_B_tables 0 := ⟨jm_in (List.mem_of_getElem? (i := 1) (by decide +kernel)) (by decide +kernel), jm_in (List.mem_of_getElem? (i := 124) (by decide +kernel)) (by decide +kernel), ⟨by decide, by decide⟩, by decide +kernel, by decide⟩
theorem iw_B_tables : Cond.instanceMethod m_B_tables.1 ∈ jm_ws := jm_in (List.mem_of_getElem? (i := 122) (by decide +kernel)) (by decide +kernel)
theorem ew_B_tables : Cond.selects "BargainTree" m_B_tables.1 m_B_tables.1 ∈ jm_ws := jm_in (List.mem_of_getElem? (i := 123) (by decide +kernel)) (by decide +kernel)
theorem nv_W_agent : jm_NV m_W_agent 3 := ⟨jm_in (List.mem_of_getElem? (i := 0) (by decide +kernel)) (by decide +kernel), jm_in (List.mem_of_getElem? (i := 127) (by decide +kernel)) (by decide +kernel), ⟨by decide, by decide⟩, by decide +kernel, by decide⟩
theorem sw_W_agent : Cond.static m_W_agent.1 ∈ jm_ws := jm_in (List.mem_of_getElem? (i := 126) (by decide +kernel)) (by decide +kernel)
theorem nv_B_agent : jm_NV m_B_agent 1 := ⟨jm_in (List.mem_of_getElem? (i := 1) (by decide +kernel)) (by decide +kernel), jm_in (List.mem_of_getElem? (i := 133) (by decide +kernel)) (by decide +kernel), ⟨by decide, by decide⟩, by decide +kernel, by decide⟩
theorem iw_B_agent : Cond.instanceMethod m_B_agent.1 ∈ jm_ws := jm_in (List.mem_of_getElem? (i := 131) (by decide +kernel)) (by decide +kernel)
theorem ew_B_agent : Cond.selects "BargainTree" m_B_agent.1 m_B_agent.1 ∈ jm_ws := jm_in (List.mem_of_getElem? (i := 132) (by decide +kernel)) (by decide +kernel)
theorem nv_A_init : jm_NV m_A_init 2 := ⟨jm_in (List.mem_of_getElem? (i := 8) (by decide +kernel)) (by decide +kernel), jm_in (List.mem_of_getElem? (i := 221) (by decide +kernel)) (by decide +kernel), ⟨by decide, by decide⟩, by decide +kernel, by decide⟩
theorem iw_A_init : Cond.instanceMethod m_A_init.1 ∈ jm_ws := jm_in (List.mem_of_getElem? (i := 220) (by decide +kernel)) (by decide +kernel)
theorem nv_W_own : jm_NV m_W_own 4 := ⟨jm_in (List.mem_of_getElem? (i := 0) (by decide +kernel)) (by decide +kernel), jm_in (List.mem_of_getElem? (i := 299) (by decide +kernel)) (by decide +kernel), ⟨by decide, by decide⟩, by decide +kernel, by decide⟩
theorem sw_W_own : Cond.static m_W_own.1 ∈ jm_ws := jm_in (List.mem_of_getElem? (i := 298) (by decide +kernel)) (by decide +kernel)
theorem nv_B_own : jm_NV m_B_own 3 := ⟨jm_in (List.mem_of_getElem? (i := 1) (by decide +kernel)) (by decide +kernel), jm_in (List.mem_of_getElem? (i := 303) (by decide +kernel)) (by decide +kernel), ⟨by decide, by decide⟩, by decide +kernel, by decide⟩
theorem iw_B_own : Cond.instanceMethod m_B_own.1 ∈ jm_ws := jm_in (List.mem_of_getElem? (i := 301) (by decide +kernel)) (by decide +kernel)
theorem ew_B_own : Cond.selects "BargainTree" m_B_own.1 m_B_own.1 ∈ jm_ws := jm_in (List.mem_of_getElem? (i := 302) (by decide +kernel)) (by decide +kernel)
theorem nv_B_isValue : jm_NV m_B_isValue 2 := ⟨jm_in (List.mem_of_getElem? (i := 1) (by decide +kernel)) (by decide +kernel), jm_in (List.mem_of_getElem? (i := 307) (by decide +kernel)) (by decide +kernel), ⟨by decide, by decide⟩, by decide +kernel, by decide⟩
theorem iw_B_isValue : Cond.instanceMethod m_B_isValue.1 ∈ jm_ws := jm_in (List.mem_of_getElem? (i := 306) (by decide +kernel)) (by decide +kernel)
theorem ew_B_isValue : Cond.selects "BargainTree" m_B_isValue.1 m_B_isValue.1 ∈ jm_ws := jm_inP (List.mem_of_getElem? (i := 3) (by decide +kernel)) (by decide +kernel)
theorem nv_B_isCost : jm_NV m_B_isCost 1 := ⟨jm_in (List.mem_of_getElem? (i := 1) (by decide +kernel)) (by decide +kernel), jm_in (List.mem_of_getElem? (i := 310) (by decide +kernel)) (by decide +kernel), ⟨by decide, by decide⟩, by decide +kernel, by decide⟩
theorem sw_B_isCost : Cond.static m_B_isCost.1 ∈ jm_ws := jm_in (List.mem_of_getElem? (i := 309) (by decide +kernel)) (by decide +kernel)
theorem nv_W_pair : jm_NV m_W_pair 4 := ⟨jm_in (List.mem_of_getElem? (i := 0) (by decide +kernel)) (by decide +kernel), jm_in (List.mem_of_getElem? (i := 315) (by decide +kernel)) (by decide +kernel), ⟨by decide, by decide⟩, by decide +kernel, by decide⟩
theorem sw_W_pair : Cond.static m_W_pair.1 ∈ jm_ws := jm_in (List.mem_of_getElem? (i := 314) (by decide +kernel)) (by decide +kernel)
theorem nv_B_pair : jm_NV m_B_pair 2 := ⟨jm_in (List.mem_of_getElem? (i := 1) (by decide +kernel)) (by decide +kernel), jm_in (List.mem_of_getElem? (i := 319) (by decide +kernel)) (by decide +kernel), ⟨by decide, by decide⟩, by decide +kernel, by decide⟩
theorem iw_B_pair : Cond.instanceMethod m_B_pair.1 ∈ jm_ws := jm_in (List.mem_of_getElem? (i := 317) (by decide +kernel)) (by decide +kernel)
theorem ew_B_pair : Cond.selects "BargainTree" m_B_pair.1 m_B_pair.1 ∈ jm_ws := jm_in (List.mem_of_getElem? (i := 318) (by decide +kernel)) (by decide +kernel)
theorem nv_B_pairOf : jm_NV m_B_pairOf 2 := ⟨jm_in (List.mem_of_getElem? (i := 1) (by decide +kernel)) (by decide +kernel), jm_in (List.mem_of_getElem? (i := 324) (by decide +kernel)) (by decide +kernel), ⟨by decide, by decide⟩, by decide +kernel, by decide⟩
theorem iw_B_pairOf : Cond.instanceMethod m_B_pairOf.1 ∈ jm_ws := jm_in (List.mem_of_getElem? (i := 323) (by decide +kernel)) (by decide +kernel)
theorem ew_B_pairOf : Cond.selects "BargainTree" m_B_pairOf.1 m_B_pairOf.1 ∈ jm_ws := jm_inP (List.mem_of_getElem? (i := 4) (by decide +kernel)) (by decide +kernel)
theorem nv_J_min : jm_NV m_J_min 2 := ⟨jm_in (List.mem_of_getElem? (i := 11) (by decide +kernel)) (by decide +kernel), jm_in (List.mem_of_getElem? (i := 327) (by decide +kernel)) (by decide +kernel), ⟨by decide, by decide⟩, by decide +kernel, by decide⟩
theorem sw_J_min : Cond.static m_J_min.1 ∈ jm_ws := jm_in (List.mem_of_getElem? (i := 326) (by decide +kernel)) (by decide +kernel)
theorem nv_J_max : jm_NV m_J_max 2 := ⟨jm_in (List.mem_of_getElem? (i := 11) (by decide +kernel)) (by decide +kernel), jm_in (List.mem_of_getElem? (i := 330) (by decide +kernel)) (by decide +kernel), ⟨by decide, by decide⟩, by decide +kernel, by decide⟩
theorem sw_J_max : Cond.static m_J_max.1 ∈ jm_ws := jm_in (List.mem_of_getElem? (i := 329) (by decide +kernel)) (by decide +kernel)
theorem nv_Q_init : jm_NV m_Q_init 2 := ⟨jm_in (List.mem_of_getElem? (i := 12) (by decide +kernel)) (by decide +kernel), jm_in (List.mem_of_getElem? (i := 335) (by decide +kernel)) (by decide +kernel), ⟨by decide, by decide⟩, by decide +kernel, by decide⟩
theorem iw_Q_init : Cond.instanceMethod m_Q_init.1 ∈ jm_ws := jm_in (List.mem_of_getElem? (i := 334) (by decide +kernel)) (by decide +kernel)
theorem nv_W_cost : jm_NV m_W_cost 6 := ⟨jm_in (List.mem_of_getElem? (i := 0) (by decide +kernel)) (by decide +kernel), jm_in (List.mem_of_getElem? (i := 352) (by decide +kernel)) (by decide +kernel), ⟨by decide, by decide⟩, by decide +kernel, by decide⟩
theorem sw_W_cost : Cond.static m_W_cost.1 ∈ jm_ws := jm_in (List.mem_of_getElem? (i := 351) (by decide +kernel)) (by decide +kernel)
theorem nv_B_cost : jm_NV m_B_cost 5 := ⟨jm_in (List.mem_of_getElem? (i := 1) (by decide +kernel)) (by decide +kernel), jm_in (List.mem_of_getElem? (i := 356) (by decide +kernel)) (by decide +kernel), ⟨by decide, by decide⟩, by decide +kernel, by decide⟩
theorem iw_B_cost : Cond.instanceMethod m_B_cost.1 ∈ jm_ws := jm_in (List.mem_of_getElem? (i := 354) (by decide +kernel)) (by decide +kernel)
theorem ew_B_cost : Cond.selects "BargainTree" m_B_cost.1 m_B_cost.1 ∈ jm_ws := jm_in (List.mem_of_getElem? (i := 355) (by decide +kernel)) (by decide +kernel)
theorem nv_B_pairWith : jm_NV m_B_pairWith 4 := ⟨jm_in (List.mem_of_getElem? (i := 1) (by decide +kernel)) (by decide +kernel), jm_in (List.mem_of_getElem? (i := 360) (by decide +kernel)) (by decide +kernel), ⟨by decide, by decide⟩, by decide +kernel, by decide⟩
theorem iw_B_pairWith : Cond.instanceMethod m_B_pairWith.1 ∈ jm_ws := jm_in (List.mem_of_getElem? (i := 359) (by decide +kernel)) (by decide +kernel)
theorem ew_B_pairWith : Cond.selects "BargainTree" m_B_pairWith.1 m_B_pairWith.1 ∈ jm_ws := jm_inP (List.mem_of_getElem? (i := 5) (by decide +kernel)) (by decide +kernel)
theorem nv_Q_place : jm_NV m_Q_place 3 := ⟨jm_in (List.mem_of_getElem? (i := 12) (by decide +kernel)) (by decide +kernel), jm_in (List.mem_of_getElem? (i := 365) (by decide +kernel)) (by decide +kernel), ⟨by decide, by decide⟩, by decide +kernel, by decide⟩
theorem iw_Q_place : Cond.instanceMethod m_Q_place.1 ∈ jm_ws := jm_in (List.mem_of_getElem? (i := 363) (by decide +kernel)) (by decide +kernel)
theorem ew_Q_place : Cond.selects "BargainTree$Pair" m_Q_place.1 m_Q_place.1 ∈ jm_ws := jm_in (List.mem_of_getElem? (i := 364) (by decide +kernel)) (by decide +kernel)
theorem nv_W_start : jm_NV m_W_start 2 := ⟨jm_in (List.mem_of_getElem? (i := 0) (by decide +kernel)) (by decide +kernel), jm_in (List.mem_of_getElem? (i := 368) (by decide +kernel)) (by decide +kernel), ⟨by decide, by decide⟩, by decide +kernel, by decide⟩
theorem sw_W_start : Cond.static m_W_start.1 ∈ jm_ws := jm_in (List.mem_of_getElem? (i := 367) (by decide +kernel)) (by decide +kernel)
theorem nv_B_start : jm_NV m_B_start 0 := ⟨jm_in (List.mem_of_getElem? (i := 1) (by decide +kernel)) (by decide +kernel), jm_in (List.mem_of_getElem? (i := 372) (by decide +kernel)) (by decide +kernel), ⟨by decide, by decide⟩, by decide +kernel, by decide⟩
theorem iw_B_start : Cond.instanceMethod m_B_start.1 ∈ jm_ws := jm_in (List.mem_of_getElem? (i := 370) (by decide +kernel)) (by decide +kernel)
theorem ew_B_start : Cond.selects "BargainTree" m_B_start.1 m_B_start.1 ∈ jm_ws := jm_in (List.mem_of_getElem? (i := 371) (by decide +kernel)) (by decide +kernel)
theorem nv_B_findParts : jm_NV m_B_findParts 0 := ⟨jm_in (List.mem_of_getElem? (i := 1) (by decide +kernel)) (by decide +kernel), jm_in (List.mem_of_getElem? (i := 377) (by decide +kernel)) (by decide +kernel), ⟨by decide, by decide⟩, by decide +kernel, by decide⟩
theorem iw_B_findParts : Cond.instanceMethod m_B_findParts.1 ∈ jm_ws := jm_in (List.mem_of_getElem? (i := 376) (by decide +kernel)) (by decide +kernel)
theorem ew_B_findParts : Cond.selects "BargainTree" m_B_findParts.1 m_B_findParts.1 ∈ jm_ws := jm_inP (List.mem_of_getElem? (i := 6) (by decide +kernel)) (by decide +kernel)
theorem nv_B_partOf : jm_NV m_B_partOf 1 := ⟨jm_in (List.mem_of_getElem? (i := 1) (by decide +kernel)) (by decide +kernel), jm_in (List.mem_of_getElem? (i := 381) (by decide +kernel)) (by decide +kernel), ⟨by decide, by decide⟩, by decide +kernel, by decide⟩
theorem iw_B_partOf : Cond.instanceMethod m_B_partOf.1 ∈ jm_ws := jm_in (List.mem_of_getElem? (i := 380) (by decide +kernel)) (by decide +kernel)
theorem ew_B_partOf : Cond.selects "BargainTree" m_B_partOf.1 m_B_partOf.1 ∈ jm_ws := jm_inP (List.mem_of_getElem? (i := 7) (by decide +kernel)) (by decide +kernel)
theorem nv_B_contains : jm_NV m_B_contains 2 := ⟨jm_in (List.mem_of_getElem? (i := 1) (by decide +kernel)) (by decide +kernel), jm_in (List.mem_of_getElem? (i := 384) (by decide +kernel)) (by decide +kernel), ⟨by decide, by decide⟩, by decide +kernel, by decide⟩
theorem sw_B_contains : Cond.static m_B_contains.1 ∈ jm_ws := jm_in (List.mem_of_getElem? (i := 383) (by decide +kernel)) (by decide +kernel)
theorem nv_B_mostJoined : jm_NV m_B_mostJoined 1 := ⟨jm_in (List.mem_of_getElem? (i := 1) (by decide +kernel)) (by decide +kernel), jm_in (List.mem_of_getElem? (i := 390) (by decide +kernel)) (by decide +kernel), ⟨by decide, by decide⟩, by decide +kernel, by decide⟩
theorem iw_B_mostJoined : Cond.instanceMethod m_B_mostJoined.1 ∈ jm_ws := jm_in (List.mem_of_getElem? (i := 389) (by decide +kernel)) (by decide +kernel)
theorem ew_B_mostJoined : Cond.selects "BargainTree" m_B_mostJoined.1 m_B_mostJoined.1 ∈ jm_ws := jm_inP (List.mem_of_getElem? (i := 8) (by decide +kernel)) (by decide +kernel)
theorem nv_J_bitCount : jm_NV m_J_bitCount 1 := ⟨jm_in (List.mem_of_getElem? (i := 14) (by decide +kernel)) (by decide +kernel), jm_in (List.mem_of_getElem? (i := 393) (by decide +kernel)) (by decide +kernel), ⟨by decide, by decide⟩, by decide +kernel, by decide⟩
theorem sw_J_bitCount : Cond.static m_J_bitCount.1 ∈ jm_ws := jm_in (List.mem_of_getElem? (i := 392) (by decide +kernel)) (by decide +kernel)
theorem nv_P_init : jm_NV m_P_init 1 := ⟨jm_in (List.mem_of_getElem? (i := 13) (by decide +kernel)) (by decide +kernel), jm_in (List.mem_of_getElem? (i := 399) (by decide +kernel)) (by decide +kernel), ⟨by decide, by decide⟩, by decide +kernel, by decide⟩
theorem iw_P_init : Cond.instanceMethod m_P_init.1 ∈ jm_ws := jm_in (List.mem_of_getElem? (i := 398) (by decide +kernel)) (by decide +kernel)
theorem nv_B_join : jm_NV m_B_join 2 := ⟨jm_in (List.mem_of_getElem? (i := 1) (by decide +kernel)) (by decide +kernel), jm_in (List.mem_of_getElem? (i := 418) (by decide +kernel)) (by decide +kernel), ⟨by decide, by decide⟩, by decide +kernel, by decide⟩
theorem iw_B_join : Cond.instanceMethod m_B_join.1 ∈ jm_ws := jm_in (List.mem_of_getElem? (i := 417) (by decide +kernel)) (by decide +kernel)
theorem ew_B_join : Cond.selects "BargainTree" m_B_join.1 m_B_join.1 ∈ jm_ws := jm_inP (List.mem_of_getElem? (i := 9) (by decide +kernel)) (by decide +kernel)
theorem nv_B_hold : jm_NV m_B_hold 1 := ⟨jm_in (List.mem_of_getElem? (i := 1) (by decide +kernel)) (by decide +kernel), jm_in (List.mem_of_getElem? (i := 422) (by decide +kernel)) (by decide +kernel), ⟨by decide, by decide⟩, by decide +kernel, by decide⟩
theorem iw_B_hold : Cond.instanceMethod m_B_hold.1 ∈ jm_ws := jm_in (List.mem_of_getElem? (i := 421) (by decide +kernel)) (by decide +kernel)
theorem ew_B_hold : Cond.selects "BargainTree" m_B_hold.1 m_B_hold.1 ∈ jm_ws := jm_inP (List.mem_of_getElem? (i := 10) (by decide +kernel)) (by decide +kernel)
theorem nv_A_addChild : jm_NV m_A_addChild 1 := ⟨jm_in (List.mem_of_getElem? (i := 8) (by decide +kernel)) (by decide +kernel), jm_in (List.mem_of_getElem? (i := 426) (by decide +kernel)) (by decide +kernel), ⟨by decide, by decide⟩, by decide +kernel, by decide⟩
theorem iw_A_addChild : Cond.instanceMethod m_A_addChild.1 ∈ jm_ws := jm_in (List.mem_of_getElem? (i := 424) (by decide +kernel)) (by decide +kernel)
theorem ew_A_addChild : Cond.selects "BargainTree$Agent" m_A_addChild.1 m_A_addChild.1 ∈ jm_ws := jm_in (List.mem_of_getElem? (i := 425) (by decide +kernel)) (by decide +kernel)
theorem nv_C_init : jm_NV m_C_init 1 := ⟨jm_in (List.mem_of_getElem? (i := 15) (by decide +kernel)) (by decide +kernel), jm_in (List.mem_of_getElem? (i := 430) (by decide +kernel)) (by decide +kernel), ⟨by decide, by decide⟩, by decide +kernel, by decide⟩
theorem iw_C_init : Cond.instanceMethod m_C_init.1 ∈ jm_ws := jm_in (List.mem_of_getElem? (i := 429) (by decide +kernel)) (by decide +kernel)
theorem nv_B_sendToken : jm_NV m_B_sendToken 1 := ⟨jm_in (List.mem_of_getElem? (i := 1) (by decide +kernel)) (by decide +kernel), jm_in (List.mem_of_getElem? (i := 450) (by decide +kernel)) (by decide +kernel), ⟨by decide, by decide⟩, by decide +kernel, by decide⟩
theorem iw_B_sendToken : Cond.instanceMethod m_B_sendToken.1 ∈ jm_ws := jm_in (List.mem_of_getElem? (i := 449) (by decide +kernel)) (by decide +kernel)
theorem ew_B_sendToken : Cond.selects "BargainTree" m_B_sendToken.1 m_B_sendToken.1 ∈ jm_ws := jm_inP (List.mem_of_getElem? (i := 11) (by decide +kernel)) (by decide +kernel)
theorem nv_L_init : jm_NV m_L_init 5 := ⟨jm_in (List.mem_of_getElem? (i := 16) (by decide +kernel)) (by decide +kernel), jm_in (List.mem_of_getElem? (i := 454) (by decide +kernel)) (by decide +kernel), ⟨by decide, by decide⟩, by decide +kernel, by decide⟩
theorem iw_L_init : Cond.instanceMethod m_L_init.1 ∈ jm_ws := jm_in (List.mem_of_getElem? (i := 453) (by decide +kernel)) (by decide +kernel)
theorem nv_B_send : jm_NV m_B_send 1 := ⟨jm_in (List.mem_of_getElem? (i := 1) (by decide +kernel)) (by decide +kernel), jm_in (List.mem_of_getElem? (i := 480) (by decide +kernel)) (by decide +kernel), ⟨by decide, by decide⟩, by decide +kernel, by decide⟩
theorem iw_B_send : Cond.instanceMethod m_B_send.1 ∈ jm_ws := jm_in (List.mem_of_getElem? (i := 479) (by decide +kernel)) (by decide +kernel)
theorem ew_B_send : Cond.selects "BargainTree" m_B_send.1 m_B_send.1 ∈ jm_ws := jm_inP (List.mem_of_getElem? (i := 12) (by decide +kernel)) (by decide +kernel)
theorem nv_A_findSeparator : jm_NV m_A_findSeparator 0 := ⟨jm_in (List.mem_of_getElem? (i := 8) (by decide +kernel)) (by decide +kernel), jm_in (List.mem_of_getElem? (i := 484) (by decide +kernel)) (by decide +kernel), ⟨by decide, by decide⟩, by decide +kernel, by decide⟩
theorem iw_A_findSeparator : Cond.instanceMethod m_A_findSeparator.1 ∈ jm_ws := jm_in (List.mem_of_getElem? (i := 482) (by decide +kernel)) (by decide +kernel)
theorem ew_A_findSeparator : Cond.selects "BargainTree$Agent" m_A_findSeparator.1 m_A_findSeparator.1 ∈ jm_ws := jm_in (List.mem_of_getElem? (i := 483) (by decide +kernel)) (by decide +kernel)
theorem nv_B_sendBack : jm_NV m_B_sendBack 1 := ⟨jm_in (List.mem_of_getElem? (i := 1) (by decide +kernel)) (by decide +kernel), jm_in (List.mem_of_getElem? (i := 488) (by decide +kernel)) (by decide +kernel), ⟨by decide, by decide⟩, by decide +kernel, by decide⟩
theorem iw_B_sendBack : Cond.instanceMethod m_B_sendBack.1 ∈ jm_ws := jm_in (List.mem_of_getElem? (i := 487) (by decide +kernel)) (by decide +kernel)
theorem ew_B_sendBack : Cond.selects "BargainTree" m_B_sendBack.1 m_B_sendBack.1 ∈ jm_ws := jm_inP (List.mem_of_getElem? (i := 13) (by decide +kernel)) (by decide +kernel)
theorem nv_A_hasAllTables : jm_NV m_A_hasAllTables 0 := ⟨jm_in (List.mem_of_getElem? (i := 8) (by decide +kernel)) (by decide +kernel), jm_in (List.mem_of_getElem? (i := 492) (by decide +kernel)) (by decide +kernel), ⟨by decide, by decide⟩, by decide +kernel, by decide⟩
theorem iw_A_hasAllTables : Cond.instanceMethod m_A_hasAllTables.1 ∈ jm_ws := jm_in (List.mem_of_getElem? (i := 490) (by decide +kernel)) (by decide +kernel)
theorem ew_A_hasAllTables : Cond.selects "BargainTree$Agent" m_A_hasAllTables.1 m_A_hasAllTables.1 ∈ jm_ws := jm_in (List.mem_of_getElem? (i := 491) (by decide +kernel)) (by decide +kernel)
theorem nv_B_makeTable : jm_NV m_B_makeTable 2 := ⟨jm_in (List.mem_of_getElem? (i := 1) (by decide +kernel)) (by decide +kernel), jm_in (List.mem_of_getElem? (i := 496) (by decide +kernel)) (by decide +kernel), ⟨by decide, by decide⟩, by decide +kernel, by decide⟩
theorem iw_B_makeTable : Cond.instanceMethod m_B_makeTable.1 ∈ jm_ws := jm_in (List.mem_of_getElem? (i := 495) (by decide +kernel)) (by decide +kernel)
theorem ew_B_makeTable : Cond.selects "BargainTree" m_B_makeTable.1 m_B_makeTable.1 ∈ jm_ws := jm_inP (List.mem_of_getElem? (i := 14) (by decide +kernel)) (by decide +kernel)
theorem nv_B_tableSize : jm_NV m_B_tableSize 1 := ⟨jm_in (List.mem_of_getElem? (i := 1) (by decide +kernel)) (by decide +kernel), jm_in (List.mem_of_getElem? (i := 500) (by decide +kernel)) (by decide +kernel), ⟨by decide, by decide⟩, by decide +kernel, by decide⟩
theorem iw_B_tableSize : Cond.instanceMethod m_B_tableSize.1 ∈ jm_ws := jm_in (List.mem_of_getElem? (i := 499) (by decide +kernel)) (by decide +kernel)
theorem ew_B_tableSize : Cond.selects "BargainTree" m_B_tableSize.1 m_B_tableSize.1 ∈ jm_ws := jm_inP (List.mem_of_getElem? (i := 15) (by decide +kernel)) (by decide +kernel)
theorem nv_B_tryEntry : jm_NV m_B_tryEntry 2 := ⟨jm_in (List.mem_of_getElem? (i := 1) (by decide +kernel)) (by decide +kernel), jm_in (List.mem_of_getElem? (i := 504) (by decide +kernel)) (by decide +kernel), ⟨by decide, by decide⟩, by decide +kernel, by decide⟩
theorem iw_B_tryEntry : Cond.instanceMethod m_B_tryEntry.1 ∈ jm_ws := jm_in (List.mem_of_getElem? (i := 503) (by decide +kernel)) (by decide +kernel)
theorem ew_B_tryEntry : Cond.selects "BargainTree" m_B_tryEntry.1 m_B_tryEntry.1 ∈ jm_ws := jm_inP (List.mem_of_getElem? (i := 16) (by decide +kernel)) (by decide +kernel)
theorem nv_B_leastCost : jm_NV m_B_leastCost 1 := ⟨jm_in (List.mem_of_getElem? (i := 1) (by decide +kernel)) (by decide +kernel), jm_in (List.mem_of_getElem? (i := 508) (by decide +kernel)) (by decide +kernel), ⟨by decide, by decide⟩, by decide +kernel, by decide⟩
theorem iw_B_leastCost : Cond.instanceMethod m_B_leastCost.1 ∈ jm_ws := jm_in (List.mem_of_getElem? (i := 507) (by decide +kernel)) (by decide +kernel)
theorem ew_B_leastCost : Cond.selects "BargainTree" m_B_leastCost.1 m_B_leastCost.1 ∈ jm_ws := jm_inP (List.mem_of_getElem? (i := 17) (by decide +kernel)) (by decide +kernel)
theorem nv_B_costWith : jm_NV m_B_costWith 2 := ⟨jm_in (List.mem_of_getElem? (i := 1) (by decide +kernel)) (by decide +kernel), jm_in (List.mem_of_getElem? (i := 512) (by decide +kernel)) (by decide +kernel), ⟨by decide, by decide⟩, by decide +kernel, by decide⟩
theorem iw_B_costWith : Cond.instanceMethod m_B_costWith.1 ∈ jm_ws := jm_in (List.mem_of_getElem? (i := 511) (by decide +kernel)) (by decide +kernel)
theorem ew_B_costWith : Cond.selects "BargainTree" m_B_costWith.1 m_B_costWith.1 ∈ jm_ws := jm_inP (List.mem_of_getElem? (i := 18) (by decide +kernel)) (by decide +kernel)
theorem nv_Q_joinsUpwards : jm_NV m_Q_joinsUpwards 1 := ⟨jm_in (List.mem_of_getElem? (i := 12) (by decide +kernel)) (by decide +kernel), jm_in (List.mem_of_getElem? (i := 516) (by decide +kernel)) (by decide +kernel), ⟨by decide, by decide⟩, by decide +kernel, by decide⟩
theorem iw_Q_joinsUpwards : Cond.instanceMethod m_Q_joinsUpwards.1 ∈ jm_ws := jm_in (List.mem_of_getElem? (i := 514) (by decide +kernel)) (by decide +kernel)
theorem ew_Q_joinsUpwards : Cond.selects "BargainTree$Pair" m_Q_joinsUpwards.1 m_Q_joinsUpwards.1 ∈ jm_ws := jm_in (List.mem_of_getElem? (i := 515) (by decide +kernel)) (by decide +kernel)
theorem nv_B_plus : jm_NV m_B_plus 2 := ⟨jm_in (List.mem_of_getElem? (i := 1) (by decide +kernel)) (by decide +kernel), jm_in (List.mem_of_getElem? (i := 520) (by decide +kernel)) (by decide +kernel), ⟨by decide, by decide⟩, by decide +kernel, by decide⟩
theorem sw_B_plus : Cond.static m_B_plus.1 ∈ jm_ws := jm_in (List.mem_of_getElem? (i := 519) (by decide +kernel)) (by decide +kernel)
theorem nv_B_entryAt : jm_NV m_B_entryAt 3 := ⟨jm_in (List.mem_of_getElem? (i := 1) (by decide +kernel)) (by decide +kernel), jm_in (List.mem_of_getElem? (i := 524) (by decide +kernel)) (by decide +kernel), ⟨by decide, by decide⟩, by decide +kernel, by decide⟩
theorem iw_B_entryAt : Cond.instanceMethod m_B_entryAt.1 ∈ jm_ws := jm_in (List.mem_of_getElem? (i := 523) (by decide +kernel)) (by decide +kernel)
theorem ew_B_entryAt : Cond.selects "BargainTree" m_B_entryAt.1 m_B_entryAt.1 ∈ jm_ws := jm_inP (List.mem_of_getElem? (i := 19) (by decide +kernel)) (by decide +kernel)
theorem nv_B_lesser : jm_NV m_B_lesser 2 := ⟨jm_in (List.mem_of_getElem? (i := 1) (by decide +kernel)) (by decide +kernel), jm_in (List.mem_of_getElem? (i := 527) (by decide +kernel)) (by decide +kernel), ⟨by decide, by decide⟩, by decide +kernel, by decide⟩
theorem sw_B_lesser : Cond.static m_B_lesser.1 ∈ jm_ws := jm_in (List.mem_of_getElem? (i := 526) (by decide +kernel)) (by decide +kernel)
theorem nv_B_nothingTold : jm_NV m_B_nothingTold 0 := ⟨jm_in (List.mem_of_getElem? (i := 1) (by decide +kernel)) (by decide +kernel), jm_in (List.mem_of_getElem? (i := 530) (by decide +kernel)) (by decide +kernel), ⟨by decide, by decide⟩, by decide +kernel, by decide⟩
theorem sw_B_nothingTold : Cond.static m_B_nothingTold.1 ∈ jm_ws := jm_in (List.mem_of_getElem? (i := 529) (by decide +kernel)) (by decide +kernel)
theorem nv_J_fill : jm_NV m_J_fill 2 := ⟨jm_in (List.mem_of_getElem? (i := 17) (by decide +kernel)) (by decide +kernel), jm_in (List.mem_of_getElem? (i := 533) (by decide +kernel)) (by decide +kernel), ⟨by decide, by decide⟩, by decide +kernel, by decide⟩
theorem sw_J_fill : Cond.static m_J_fill.1 ∈ jm_ws := jm_in (List.mem_of_getElem? (i := 532) (by decide +kernel)) (by decide +kernel)
theorem nv_B_choose : jm_NV m_B_choose 3 := ⟨jm_in (List.mem_of_getElem? (i := 1) (by decide +kernel)) (by decide +kernel), jm_in (List.mem_of_getElem? (i := 537) (by decide +kernel)) (by decide +kernel), ⟨by decide, by decide⟩, by decide +kernel, by decide⟩
theorem iw_B_choose : Cond.instanceMethod m_B_choose.1 ∈ jm_ws := jm_in (List.mem_of_getElem? (i := 536) (by decide +kernel)) (by decide +kernel)
theorem ew_B_choose : Cond.selects "BargainTree" m_B_choose.1 m_B_choose.1 ∈ jm_ws := jm_inP (List.mem_of_getElem? (i := 20) (by decide +kernel)) (by decide +kernel)
theorem nv_B_sendChoices : jm_NV m_B_sendChoices 1 := ⟨jm_in (List.mem_of_getElem? (i := 1) (by decide +kernel)) (by decide +kernel), jm_in (List.mem_of_getElem? (i := 548) (by decide +kernel)) (by decide +kernel), ⟨by decide, by decide⟩, by decide +kernel, by decide⟩
theorem iw_B_sendChoices : Cond.instanceMethod m_B_sendChoices.1 ∈ jm_ws := jm_in (List.mem_of_getElem? (i := 547) (by decide +kernel)) (by decide +kernel)
theorem ew_B_sendChoices : Cond.selects "BargainTree" m_B_sendChoices.1 m_B_sendChoices.1 ∈ jm_ws := jm_inP (List.mem_of_getElem? (i := 21) (by decide +kernel)) (by decide +kernel)
theorem nv_B_sendTable : jm_NV m_B_sendTable 1 := ⟨jm_in (List.mem_of_getElem? (i := 1) (by decide +kernel)) (by decide +kernel), jm_in (List.mem_of_getElem? (i := 552) (by decide +kernel)) (by decide +kernel), ⟨by decide, by decide⟩, by decide +kernel, by decide⟩
theorem iw_B_sendTable : Cond.instanceMethod m_B_sendTable.1 ∈ jm_ws := jm_in (List.mem_of_getElem? (i := 551) (by decide +kernel)) (by decide +kernel)
theorem ew_B_sendTable : Cond.selects "BargainTree" m_B_sendTable.1 m_B_sendTable.1 ∈ jm_ws := jm_inP (List.mem_of_getElem? (i := 22) (by decide +kernel)) (by decide +kernel)
theorem nv_W_letter : jm_NV m_W_letter 4 := ⟨jm_in (List.mem_of_getElem? (i := 0) (by decide +kernel)) (by decide +kernel), jm_in (List.mem_of_getElem? (i := 555) (by decide +kernel)) (by decide +kernel), ⟨by decide, by decide⟩, by decide +kernel, by decide⟩
theorem sw_W_letter : Cond.static m_W_letter.1 ∈ jm_ws := jm_in (List.mem_of_getElem? (i := 554) (by decide +kernel)) (by decide +kernel)
theorem nv_B_letter : jm_NV m_B_letter 2 := ⟨jm_in (List.mem_of_getElem? (i := 1) (by decide +kernel)) (by decide +kernel), jm_in (List.mem_of_getElem? (i := 560) (by decide +kernel)) (by decide +kernel), ⟨by decide, by decide⟩, by decide +kernel, by decide⟩
theorem iw_B_letter : Cond.instanceMethod m_B_letter.1 ∈ jm_ws := jm_in (List.mem_of_getElem? (i := 558) (by decide +kernel)) (by decide +kernel)
theorem ew_B_letter : Cond.selects "BargainTree" m_B_letter.1 m_B_letter.1 ∈ jm_ws := jm_in (List.mem_of_getElem? (i := 559) (by decide +kernel)) (by decide +kernel)
theorem nv_B_takeOut : jm_NV m_B_takeOut 1 := ⟨jm_in (List.mem_of_getElem? (i := 1) (by decide +kernel)) (by decide +kernel), jm_in (List.mem_of_getElem? (i := 582) (by decide +kernel)) (by decide +kernel), ⟨by decide, by decide⟩, by decide +kernel, by decide⟩
theorem iw_B_takeOut : Cond.instanceMethod m_B_takeOut.1 ∈ jm_ws := jm_in (List.mem_of_getElem? (i := 581) (by decide +kernel)) (by decide +kernel)
theorem ew_B_takeOut : Cond.selects "BargainTree" m_B_takeOut.1 m_B_takeOut.1 ∈ jm_ws := jm_inP (List.mem_of_getElem? (i := 23) (by decide +kernel)) (by decide +kernel)
theorem nv_B_deliver : jm_NV m_B_deliver 1 := ⟨jm_in (List.mem_of_getElem? (i := 1) (by decide +kernel)) (by decide +kernel), jm_in (List.mem_of_getElem? (i := 586) (by decide +kernel)) (by decide +kernel), ⟨by decide, by decide⟩, by decide +kernel, by decide⟩
theorem iw_B_deliver : Cond.instanceMethod m_B_deliver.1 ∈ jm_ws := jm_in (List.mem_of_getElem? (i := 585) (by decide +kernel)) (by decide +kernel)
theorem ew_B_deliver : Cond.selects "BargainTree" m_B_deliver.1 m_B_deliver.1 ∈ jm_ws := jm_inP (List.mem_of_getElem? (i := 24) (by decide +kernel)) (by decide +kernel)
theorem nv_B_takesToken : jm_NV m_B_takesToken 2 := ⟨jm_in (List.mem_of_getElem? (i := 1) (by decide +kernel)) (by decide +kernel), jm_in (List.mem_of_getElem? (i := 590) (by decide +kernel)) (by decide +kernel), ⟨by decide, by decide⟩, by decide +kernel, by decide⟩
theorem iw_B_takesToken : Cond.instanceMethod m_B_takesToken.1 ∈ jm_ws := jm_in (List.mem_of_getElem? (i := 589) (by decide +kernel)) (by decide +kernel)
theorem ew_B_takesToken : Cond.selects "BargainTree" m_B_takesToken.1 m_B_takesToken.1 ∈ jm_ws := jm_inP (List.mem_of_getElem? (i := 25) (by decide +kernel)) (by decide +kernel)
theorem nv_B_takesBack : jm_NV m_B_takesBack 2 := ⟨jm_in (List.mem_of_getElem? (i := 1) (by decide +kernel)) (by decide +kernel), jm_in (List.mem_of_getElem? (i := 595) (by decide +kernel)) (by decide +kernel), ⟨by decide, by decide⟩, by decide +kernel, by decide⟩
theorem iw_B_takesBack : Cond.instanceMethod m_B_takesBack.1 ∈ jm_ws := jm_in (List.mem_of_getElem? (i := 594) (by decide +kernel)) (by decide +kernel)
theorem ew_B_takesBack : Cond.selects "BargainTree" m_B_takesBack.1 m_B_takesBack.1 ∈ jm_ws := jm_inP (List.mem_of_getElem? (i := 26) (by decide +kernel)) (by decide +kernel)
theorem nv_B_takesTable : jm_NV m_B_takesTable 2 := ⟨jm_in (List.mem_of_getElem? (i := 1) (by decide +kernel)) (by decide +kernel), jm_in (List.mem_of_getElem? (i := 599) (by decide +kernel)) (by decide +kernel), ⟨by decide, by decide⟩, by decide +kernel, by decide⟩
theorem iw_B_takesTable : Cond.instanceMethod m_B_takesTable.1 ∈ jm_ws := jm_in (List.mem_of_getElem? (i := 598) (by decide +kernel)) (by decide +kernel)
theorem ew_B_takesTable : Cond.selects "BargainTree" m_B_takesTable.1 m_B_takesTable.1 ∈ jm_ws := jm_inP (List.mem_of_getElem? (i := 27) (by decide +kernel)) (by decide +kernel)
theorem nv_A_childWith : jm_NV m_A_childWith 1 := ⟨jm_in (List.mem_of_getElem? (i := 8) (by decide +kernel)) (by decide +kernel), jm_in (List.mem_of_getElem? (i := 603) (by decide +kernel)) (by decide +kernel), ⟨by decide, by decide⟩, by decide +kernel, by decide⟩
theorem iw_A_childWith : Cond.instanceMethod m_A_childWith.1 ∈ jm_ws := jm_in (List.mem_of_getElem? (i := 601) (by decide +kernel)) (by decide +kernel)
theorem ew_A_childWith : Cond.selects "BargainTree$Agent" m_A_childWith.1 m_A_childWith.1 ∈ jm_ws := jm_in (List.mem_of_getElem? (i := 602) (by decide +kernel)) (by decide +kernel)
theorem nv_W_again : jm_NV m_W_again 3 := ⟨jm_in (List.mem_of_getElem? (i := 0) (by decide +kernel)) (by decide +kernel), jm_in (List.mem_of_getElem? (i := 606) (by decide +kernel)) (by decide +kernel), ⟨by decide, by decide⟩, by decide +kernel, by decide⟩
theorem sw_W_again : Cond.static m_W_again.1 ∈ jm_ws := jm_in (List.mem_of_getElem? (i := 605) (by decide +kernel)) (by decide +kernel)
theorem nv_B_again : jm_NV m_B_again 1 := ⟨jm_in (List.mem_of_getElem? (i := 1) (by decide +kernel)) (by decide +kernel), jm_in (List.mem_of_getElem? (i := 610) (by decide +kernel)) (by decide +kernel), ⟨by decide, by decide⟩, by decide +kernel, by decide⟩
theorem iw_B_again : Cond.instanceMethod m_B_again.1 ∈ jm_ws := jm_in (List.mem_of_getElem? (i := 608) (by decide +kernel)) (by decide +kernel)
theorem ew_B_again : Cond.selects "BargainTree" m_B_again.1 m_B_again.1 ∈ jm_ws := jm_in (List.mem_of_getElem? (i := 609) (by decide +kernel)) (by decide +kernel)
theorem nv_W_change : jm_NV m_W_change 7 := ⟨jm_in (List.mem_of_getElem? (i := 0) (by decide +kernel)) (by decide +kernel), jm_in (List.mem_of_getElem? (i := 615) (by decide +kernel)) (by decide +kernel), ⟨by decide, by decide⟩, by decide +kernel, by decide⟩
theorem sw_W_change : Cond.static m_W_change.1 ∈ jm_ws := jm_in (List.mem_of_getElem? (i := 614) (by decide +kernel)) (by decide +kernel)
theorem nv_B_change : jm_NV m_B_change 5 := ⟨jm_in (List.mem_of_getElem? (i := 1) (by decide +kernel)) (by decide +kernel), jm_in (List.mem_of_getElem? (i := 619) (by decide +kernel)) (by decide +kernel), ⟨by decide, by decide⟩, by decide +kernel, by decide⟩
theorem iw_B_change : Cond.instanceMethod m_B_change.1 ∈ jm_ws := jm_in (List.mem_of_getElem? (i := 617) (by decide +kernel)) (by decide +kernel)
theorem ew_B_change : Cond.selects "BargainTree" m_B_change.1 m_B_change.1 ∈ jm_ws := jm_in (List.mem_of_getElem? (i := 618) (by decide +kernel)) (by decide +kernel)
theorem nv_M_init : jm_NV m_M_init 0 := ⟨jm_in (List.mem_of_getElem? (i := 2) (by decide +kernel)) (by decide +kernel), jm_in (List.mem_of_getElem? (i := 625) (by decide +kernel)) (by decide +kernel), ⟨by decide, by decide⟩, by decide +kernel, by decide⟩
theorem iw_M_init : Cond.instanceMethod m_M_init.1 ∈ jm_ws := jm_in (List.mem_of_getElem? (i := 624) (by decide +kernel)) (by decide +kernel)
theorem nv_M_thrown : jm_NV m_M_thrown 0 := ⟨jm_in (List.mem_of_getElem? (i := 2) (by decide +kernel)) (by decide +kernel), jm_in (List.mem_of_getElem? (i := 758) (by decide +kernel)) (by decide +kernel), ⟨by decide, by decide⟩, by decide +kernel, by decide⟩
theorem iw_M_thrown : Cond.instanceMethod m_M_thrown.1 ∈ jm_ws := jm_in (List.mem_of_getElem? (i := 756) (by decide +kernel)) (by decide +kernel)
theorem ew_M_thrown : Cond.selects "BargainTreeModel" m_M_thrown.1 m_M_thrown.1 ∈ jm_ws := jm_in (List.mem_of_getElem? (i := 757) (by decide +kernel)) (by decide +kernel)
theorem nv_M_agent : jm_NV m_M_agent 1 := ⟨jm_in (List.mem_of_getElem? (i := 2) (by decide +kernel)) (by decide +kernel), jm_in (List.mem_of_getElem? (i := 762) (by decide +kernel)) (by decide +kernel), ⟨by decide, by decide⟩, by decide +kernel, by decide⟩
theorem iw_M_agent : Cond.instanceMethod m_M_agent.1 ∈ jm_ws := jm_in (List.mem_of_getElem? (i := 760) (by decide +kernel)) (by decide +kernel)
theorem ew_M_agent : Cond.selects "BargainTreeModel" m_M_agent.1 m_M_agent.1 ∈ jm_ws := jm_in (List.mem_of_getElem? (i := 761) (by decide +kernel)) (by decide +kernel)
theorem nv_M_within : jm_NV m_M_within 3 := ⟨jm_in (List.mem_of_getElem? (i := 2) (by decide +kernel)) (by decide +kernel), jm_in (List.mem_of_getElem? (i := 765) (by decide +kernel)) (by decide +kernel), ⟨by decide, by decide⟩, by decide +kernel, by decide⟩
theorem sw_M_within : Cond.static m_M_within.1 ∈ jm_ws := jm_in (List.mem_of_getElem? (i := 764) (by decide +kernel)) (by decide +kernel)
theorem nv_M_own : jm_NV m_M_own 3 := ⟨jm_in (List.mem_of_getElem? (i := 2) (by decide +kernel)) (by decide +kernel), jm_in (List.mem_of_getElem? (i := 769) (by decide +kernel)) (by decide +kernel), ⟨by decide, by decide⟩, by decide +kernel, by decide⟩
theorem iw_M_own : Cond.instanceMethod m_M_own.1 ∈ jm_ws := jm_in (List.mem_of_getElem? (i := 767) (by decide +kernel)) (by decide +kernel)
theorem ew_M_own : Cond.selects "BargainTreeModel" m_M_own.1 m_M_own.1 ∈ jm_ws := jm_in (List.mem_of_getElem? (i := 768) (by decide +kernel)) (by decide +kernel)
theorem nv_M_isValue : jm_NV m_M_isValue 2 := ⟨jm_in (List.mem_of_getElem? (i := 2) (by decide +kernel)) (by decide +kernel), jm_in (List.mem_of_getElem? (i := 773) (by decide +kernel)) (by decide +kernel), ⟨by decide, by decide⟩, by decide +kernel, by decide⟩
theorem iw_M_isValue : Cond.instanceMethod m_M_isValue.1 ∈ jm_ws := jm_in (List.mem_of_getElem? (i := 772) (by decide +kernel)) (by decide +kernel)
theorem ew_M_isValue : Cond.selects "BargainTreeModel" m_M_isValue.1 m_M_isValue.1 ∈ jm_ws := jm_inP (List.mem_of_getElem? (i := 28) (by decide +kernel)) (by decide +kernel)
theorem nv_M_isAgent : jm_NV m_M_isAgent 1 := ⟨jm_in (List.mem_of_getElem? (i := 2) (by decide +kernel)) (by decide +kernel), jm_in (List.mem_of_getElem? (i := 777) (by decide +kernel)) (by decide +kernel), ⟨by decide, by decide⟩, by decide +kernel, by decide⟩
theorem iw_M_isAgent : Cond.instanceMethod m_M_isAgent.1 ∈ jm_ws := jm_in (List.mem_of_getElem? (i := 776) (by decide +kernel)) (by decide +kernel)
theorem ew_M_isAgent : Cond.selects "BargainTreeModel" m_M_isAgent.1 m_M_isAgent.1 ∈ jm_ws := jm_inP (List.mem_of_getElem? (i := 29) (by decide +kernel)) (by decide +kernel)
theorem nv_M_isCost : jm_NV m_M_isCost 1 := ⟨jm_in (List.mem_of_getElem? (i := 2) (by decide +kernel)) (by decide +kernel), jm_in (List.mem_of_getElem? (i := 780) (by decide +kernel)) (by decide +kernel), ⟨by decide, by decide⟩, by decide +kernel, by decide⟩
theorem sw_M_isCost : Cond.static m_M_isCost.1 ∈ jm_ws := jm_in (List.mem_of_getElem? (i := 779) (by decide +kernel)) (by decide +kernel)
theorem nv_M_pair : jm_NV m_M_pair 2 := ⟨jm_in (List.mem_of_getElem? (i := 2) (by decide +kernel)) (by decide +kernel), jm_in (List.mem_of_getElem? (i := 785) (by decide +kernel)) (by decide +kernel), ⟨by decide, by decide⟩, by decide +kernel, by decide⟩
theorem iw_M_pair : Cond.instanceMethod m_M_pair.1 ∈ jm_ws := jm_in (List.mem_of_getElem? (i := 783) (by decide +kernel)) (by decide +kernel)
theorem ew_M_pair : Cond.selects "BargainTreeModel" m_M_pair.1 m_M_pair.1 ∈ jm_ws := jm_in (List.mem_of_getElem? (i := 784) (by decide +kernel)) (by decide +kernel)
theorem nv_M_pairOf : jm_NV m_M_pairOf 2 := ⟨jm_in (List.mem_of_getElem? (i := 2) (by decide +kernel)) (by decide +kernel), jm_in (List.mem_of_getElem? (i := 789) (by decide +kernel)) (by decide +kernel), ⟨by decide, by decide⟩, by decide +kernel, by decide⟩
theorem iw_M_pairOf : Cond.instanceMethod m_M_pairOf.1 ∈ jm_ws := jm_in (List.mem_of_getElem? (i := 788) (by decide +kernel)) (by decide +kernel)
theorem ew_M_pairOf : Cond.selects "BargainTreeModel" m_M_pairOf.1 m_M_pairOf.1 ∈ jm_ws := jm_inP (List.mem_of_getElem? (i := 30) (by decide +kernel)) (by decide +kernel)
theorem nv_M_cost : jm_NV m_M_cost 5 := ⟨jm_in (List.mem_of_getElem? (i := 2) (by decide +kernel)) (by decide +kernel), jm_in (List.mem_of_getElem? (i := 793) (by decide +kernel)) (by decide +kernel), ⟨by decide, by decide⟩, by decide +kernel, by decide⟩
theorem iw_M_cost : Cond.instanceMethod m_M_cost.1 ∈ jm_ws := jm_in (List.mem_of_getElem? (i := 791) (by decide +kernel)) (by decide +kernel)
theorem ew_M_cost : Cond.selects "BargainTreeModel" m_M_cost.1 m_M_cost.1 ∈ jm_ws := jm_in (List.mem_of_getElem? (i := 792) (by decide +kernel)) (by decide +kernel)
theorem nv_M_isPairCost : jm_NV m_M_isPairCost 5 := ⟨jm_in (List.mem_of_getElem? (i := 2) (by decide +kernel)) (by decide +kernel), jm_in (List.mem_of_getElem? (i := 797) (by decide +kernel)) (by decide +kernel), ⟨by decide, by decide⟩, by decide +kernel, by decide⟩
theorem iw_M_isPairCost : Cond.instanceMethod m_M_isPairCost.1 ∈ jm_ws := jm_in (List.mem_of_getElem? (i := 796) (by decide +kernel)) (by decide +kernel)
theorem ew_M_isPairCost : Cond.selects "BargainTreeModel" m_M_isPairCost.1 m_M_isPairCost.1 ∈ jm_ws := jm_inP (List.mem_of_getElem? (i := 31) (by decide +kernel)) (by decide +kernel)
theorem nv_M_setCost : jm_NV m_M_setCost 5 := ⟨jm_in (List.mem_of_getElem? (i := 2) (by decide +kernel)) (by decide +kernel), jm_in (List.mem_of_getElem? (i := 801) (by decide +kernel)) (by decide +kernel), ⟨by decide, by decide⟩, by decide +kernel, by decide⟩
theorem iw_M_setCost : Cond.instanceMethod m_M_setCost.1 ∈ jm_ws := jm_in (List.mem_of_getElem? (i := 800) (by decide +kernel)) (by decide +kernel)
theorem ew_M_setCost : Cond.selects "BargainTreeModel" m_M_setCost.1 m_M_setCost.1 ∈ jm_ws := jm_inP (List.mem_of_getElem? (i := 32) (by decide +kernel)) (by decide +kernel)
theorem nv_M_start : jm_NV m_M_start 0 := ⟨jm_in (List.mem_of_getElem? (i := 2) (by decide +kernel)) (by decide +kernel), jm_in (List.mem_of_getElem? (i := 805) (by decide +kernel)) (by decide +kernel), ⟨by decide, by decide⟩, by decide +kernel, by decide⟩
theorem iw_M_start : Cond.instanceMethod m_M_start.1 ∈ jm_ws := jm_in (List.mem_of_getElem? (i := 803) (by decide +kernel)) (by decide +kernel)
theorem ew_M_start : Cond.selects "BargainTreeModel" m_M_start.1 m_M_start.1 ∈ jm_ws := jm_in (List.mem_of_getElem? (i := 804) (by decide +kernel)) (by decide +kernel)
theorem nv_M_findPart : jm_NV m_M_findPart 1 := ⟨jm_in (List.mem_of_getElem? (i := 2) (by decide +kernel)) (by decide +kernel), jm_in (List.mem_of_getElem? (i := 809) (by decide +kernel)) (by decide +kernel), ⟨by decide, by decide⟩, by decide +kernel, by decide⟩
theorem iw_M_findPart : Cond.instanceMethod m_M_findPart.1 ∈ jm_ws := jm_in (List.mem_of_getElem? (i := 808) (by decide +kernel)) (by decide +kernel)
theorem ew_M_findPart : Cond.selects "BargainTreeModel" m_M_findPart.1 m_M_findPart.1 ∈ jm_ws := jm_inP (List.mem_of_getElem? (i := 33) (by decide +kernel)) (by decide +kernel)
theorem nv_M_has : jm_NV m_M_has 2 := ⟨jm_in (List.mem_of_getElem? (i := 2) (by decide +kernel)) (by decide +kernel), jm_in (List.mem_of_getElem? (i := 812) (by decide +kernel)) (by decide +kernel), ⟨by decide, by decide⟩, by decide +kernel, by decide⟩
theorem sw_M_has : Cond.static m_M_has.1 ∈ jm_ws := jm_in (List.mem_of_getElem? (i := 811) (by decide +kernel)) (by decide +kernel)
theorem nv_M_goesBefore : jm_NV m_M_goesBefore 2 := ⟨jm_in (List.mem_of_getElem? (i := 2) (by decide +kernel)) (by decide +kernel), jm_in (List.mem_of_getElem? (i := 816) (by decide +kernel)) (by decide +kernel), ⟨by decide, by decide⟩, by decide +kernel, by decide⟩
theorem iw_M_goesBefore : Cond.instanceMethod m_M_goesBefore.1 ∈ jm_ws := jm_in (List.mem_of_getElem? (i := 815) (by decide +kernel)) (by decide +kernel)
theorem ew_M_goesBefore : Cond.selects "BargainTreeModel" m_M_goesBefore.1 m_M_goesBefore.1 ∈ jm_ws := jm_inP (List.mem_of_getElem? (i := 34) (by decide +kernel)) (by decide +kernel)
theorem nv_M_bits : jm_NV m_M_bits 1 := ⟨jm_in (List.mem_of_getElem? (i := 2) (by decide +kernel)) (by decide +kernel), jm_in (List.mem_of_getElem? (i := 819) (by decide +kernel)) (by decide +kernel), ⟨by decide, by decide⟩, by decide +kernel, by decide⟩
theorem sw_M_bits : Cond.static m_M_bits.1 ∈ jm_ws := jm_in (List.mem_of_getElem? (i := 818) (by decide +kernel)) (by decide +kernel)
theorem nv_M_receiveToken : jm_NV m_M_receiveToken 3 := ⟨jm_in (List.mem_of_getElem? (i := 2) (by decide +kernel)) (by decide +kernel), jm_in (List.mem_of_getElem? (i := 823) (by decide +kernel)) (by decide +kernel), ⟨by decide, by decide⟩, by decide +kernel, by decide⟩
theorem iw_M_receiveToken : Cond.instanceMethod m_M_receiveToken.1 ∈ jm_ws := jm_in (List.mem_of_getElem? (i := 822) (by decide +kernel)) (by decide +kernel)
theorem ew_M_receiveToken : Cond.selects "BargainTreeModel" m_M_receiveToken.1 m_M_receiveToken.1 ∈ jm_ws := jm_inP (List.mem_of_getElem? (i := 35) (by decide +kernel)) (by decide +kernel)
theorem nv_M_hold : jm_NV m_M_hold 1 := ⟨jm_in (List.mem_of_getElem? (i := 2) (by decide +kernel)) (by decide +kernel), jm_in (List.mem_of_getElem? (i := 827) (by decide +kernel)) (by decide +kernel), ⟨by decide, by decide⟩, by decide +kernel, by decide⟩
theorem iw_M_hold : Cond.instanceMethod m_M_hold.1 ∈ jm_ws := jm_in (List.mem_of_getElem? (i := 826) (by decide +kernel)) (by decide +kernel)
theorem ew_M_hold : Cond.selects "BargainTreeModel" m_M_hold.1 m_M_hold.1 ∈ jm_ws := jm_inP (List.mem_of_getElem? (i := 36) (by decide +kernel)) (by decide +kernel)
theorem nv_M_post : jm_NV m_M_post 4 := ⟨jm_in (List.mem_of_getElem? (i := 2) (by decide +kernel)) (by decide +kernel), jm_in (List.mem_of_getElem? (i := 831) (by decide +kernel)) (by decide +kernel), ⟨by decide, by decide⟩, by decide +kernel, by decide⟩
theorem iw_M_post : Cond.instanceMethod m_M_post.1 ∈ jm_ws := jm_in (List.mem_of_getElem? (i := 830) (by decide +kernel)) (by decide +kernel)
theorem ew_M_post : Cond.selects "BargainTreeModel" m_M_post.1 m_M_post.1 ∈ jm_ws := jm_inP (List.mem_of_getElem? (i := 37) (by decide +kernel)) (by decide +kernel)
theorem nv_M_work : jm_NV m_M_work 2 := ⟨jm_in (List.mem_of_getElem? (i := 2) (by decide +kernel)) (by decide +kernel), jm_in (List.mem_of_getElem? (i := 835) (by decide +kernel)) (by decide +kernel), ⟨by decide, by decide⟩, by decide +kernel, by decide⟩
theorem iw_M_work : Cond.instanceMethod m_M_work.1 ∈ jm_ws := jm_in (List.mem_of_getElem? (i := 834) (by decide +kernel)) (by decide +kernel)
theorem ew_M_work : Cond.selects "BargainTreeModel" m_M_work.1 m_M_work.1 ∈ jm_ws := jm_inP (List.mem_of_getElem? (i := 38) (by decide +kernel)) (by decide +kernel)
theorem nv_M_hasAll : jm_NV m_M_hasAll 1 := ⟨jm_in (List.mem_of_getElem? (i := 2) (by decide +kernel)) (by decide +kernel), jm_in (List.mem_of_getElem? (i := 839) (by decide +kernel)) (by decide +kernel), ⟨by decide, by decide⟩, by decide +kernel, by decide⟩
theorem iw_M_hasAll : Cond.instanceMethod m_M_hasAll.1 ∈ jm_ws := jm_in (List.mem_of_getElem? (i := 838) (by decide +kernel)) (by decide +kernel)
theorem ew_M_hasAll : Cond.selects "BargainTreeModel" m_M_hasAll.1 m_M_hasAll.1 ∈ jm_ws := jm_inP (List.mem_of_getElem? (i := 39) (by decide +kernel)) (by decide +kernel)
theorem nv_M_width : jm_NV m_M_width 1 := ⟨jm_in (List.mem_of_getElem? (i := 2) (by decide +kernel)) (by decide +kernel), jm_in (List.mem_of_getElem? (i := 843) (by decide +kernel)) (by decide +kernel), ⟨by decide, by decide⟩, by decide +kernel, by decide⟩
theorem iw_M_width : Cond.instanceMethod m_M_width.1 ∈ jm_ws := jm_in (List.mem_of_getElem? (i := 842) (by decide +kernel)) (by decide +kernel)
theorem ew_M_width : Cond.selects "BargainTreeModel" m_M_width.1 m_M_width.1 ∈ jm_ws := jm_inP (List.mem_of_getElem? (i := 40) (by decide +kernel)) (by decide +kernel)
theorem nv_M_make : jm_NV m_M_make 2 := ⟨jm_in (List.mem_of_getElem? (i := 2) (by decide +kernel)) (by decide +kernel), jm_in (List.mem_of_getElem? (i := 847) (by decide +kernel)) (by decide +kernel), ⟨by decide, by decide⟩, by decide +kernel, by decide⟩
theorem iw_M_make : Cond.instanceMethod m_M_make.1 ∈ jm_ws := jm_in (List.mem_of_getElem? (i := 846) (by decide +kernel)) (by decide +kernel)
theorem ew_M_make : Cond.selects "BargainTreeModel" m_M_make.1 m_M_make.1 ∈ jm_ws := jm_inP (List.mem_of_getElem? (i := 41) (by decide +kernel)) (by decide +kernel)
theorem nv_M_best : jm_NV m_M_best 1 := ⟨jm_in (List.mem_of_getElem? (i := 2) (by decide +kernel)) (by decide +kernel), jm_in (List.mem_of_getElem? (i := 851) (by decide +kernel)) (by decide +kernel), ⟨by decide, by decide⟩, by decide +kernel, by decide⟩
theorem iw_M_best : Cond.instanceMethod m_M_best.1 ∈ jm_ws := jm_in (List.mem_of_getElem? (i := 850) (by decide +kernel)) (by decide +kernel)
theorem ew_M_best : Cond.selects "BargainTreeModel" m_M_best.1 m_M_best.1 ∈ jm_ws := jm_inP (List.mem_of_getElem? (i := 42) (by decide +kernel)) (by decide +kernel)
theorem nv_M_costNow : jm_NV m_M_costNow 1 := ⟨jm_in (List.mem_of_getElem? (i := 2) (by decide +kernel)) (by decide +kernel), jm_in (List.mem_of_getElem? (i := 855) (by decide +kernel)) (by decide +kernel), ⟨by decide, by decide⟩, by decide +kernel, by decide⟩
theorem iw_M_costNow : Cond.instanceMethod m_M_costNow.1 ∈ jm_ws := jm_in (List.mem_of_getElem? (i := 854) (by decide +kernel)) (by decide +kernel)
theorem ew_M_costNow : Cond.selects "BargainTreeModel" m_M_costNow.1 m_M_costNow.1 ∈ jm_ws := jm_inP (List.mem_of_getElem? (i := 43) (by decide +kernel)) (by decide +kernel)
theorem nv_M_placeIn : jm_NV m_M_placeIn 1 := ⟨jm_in (List.mem_of_getElem? (i := 2) (by decide +kernel)) (by decide +kernel), jm_in (List.mem_of_getElem? (i := 859) (by decide +kernel)) (by decide +kernel), ⟨by decide, by decide⟩, by decide +kernel, by decide⟩
theorem iw_M_placeIn : Cond.instanceMethod m_M_placeIn.1 ∈ jm_ws := jm_in (List.mem_of_getElem? (i := 858) (by decide +kernel)) (by decide +kernel)
theorem ew_M_placeIn : Cond.selects "BargainTreeModel" m_M_placeIn.1 m_M_placeIn.1 ∈ jm_ws := jm_inP (List.mem_of_getElem? (i := 44) (by decide +kernel)) (by decide +kernel)
theorem nv_M_postTable : jm_NV m_M_postTable 1 := ⟨jm_in (List.mem_of_getElem? (i := 2) (by decide +kernel)) (by decide +kernel), jm_in (List.mem_of_getElem? (i := 863) (by decide +kernel)) (by decide +kernel), ⟨by decide, by decide⟩, by decide +kernel, by decide⟩
theorem iw_M_postTable : Cond.instanceMethod m_M_postTable.1 ∈ jm_ws := jm_in (List.mem_of_getElem? (i := 862) (by decide +kernel)) (by decide +kernel)
theorem ew_M_postTable : Cond.selects "BargainTreeModel" m_M_postTable.1 m_M_postTable.1 ∈ jm_ws := jm_inP (List.mem_of_getElem? (i := 45) (by decide +kernel)) (by decide +kernel)
theorem nv_M_choose : jm_NV m_M_choose 2 := ⟨jm_in (List.mem_of_getElem? (i := 2) (by decide +kernel)) (by decide +kernel), jm_in (List.mem_of_getElem? (i := 867) (by decide +kernel)) (by decide +kernel), ⟨by decide, by decide⟩, by decide +kernel, by decide⟩
theorem iw_M_choose : Cond.instanceMethod m_M_choose.1 ∈ jm_ws := jm_in (List.mem_of_getElem? (i := 866) (by decide +kernel)) (by decide +kernel)
theorem ew_M_choose : Cond.selects "BargainTreeModel" m_M_choose.1 m_M_choose.1 ∈ jm_ws := jm_inP (List.mem_of_getElem? (i := 46) (by decide +kernel)) (by decide +kernel)
theorem nv_M_postChoices : jm_NV m_M_postChoices 1 := ⟨jm_in (List.mem_of_getElem? (i := 2) (by decide +kernel)) (by decide +kernel), jm_in (List.mem_of_getElem? (i := 871) (by decide +kernel)) (by decide +kernel), ⟨by decide, by decide⟩, by decide +kernel, by decide⟩
theorem iw_M_postChoices : Cond.instanceMethod m_M_postChoices.1 ∈ jm_ws := jm_in (List.mem_of_getElem? (i := 870) (by decide +kernel)) (by decide +kernel)
theorem ew_M_postChoices : Cond.selects "BargainTreeModel" m_M_postChoices.1 m_M_postChoices.1 ∈ jm_ws := jm_inP (List.mem_of_getElem? (i := 47) (by decide +kernel)) (by decide +kernel)
theorem nv_M_letter : jm_NV m_M_letter 2 := ⟨jm_in (List.mem_of_getElem? (i := 2) (by decide +kernel)) (by decide +kernel), jm_in (List.mem_of_getElem? (i := 875) (by decide +kernel)) (by decide +kernel), ⟨by decide, by decide⟩, by decide +kernel, by decide⟩
theorem iw_M_letter : Cond.instanceMethod m_M_letter.1 ∈ jm_ws := jm_in (List.mem_of_getElem? (i := 873) (by decide +kernel)) (by decide +kernel)
theorem ew_M_letter : Cond.selects "BargainTreeModel" m_M_letter.1 m_M_letter.1 ∈ jm_ws := jm_in (List.mem_of_getElem? (i := 874) (by decide +kernel)) (by decide +kernel)
theorem nv_M_copyLetter : jm_NV m_M_copyLetter 2 := ⟨jm_in (List.mem_of_getElem? (i := 2) (by decide +kernel)) (by decide +kernel), jm_in (List.mem_of_getElem? (i := 879) (by decide +kernel)) (by decide +kernel), ⟨by decide, by decide⟩, by decide +kernel, by decide⟩
theorem iw_M_copyLetter : Cond.instanceMethod m_M_copyLetter.1 ∈ jm_ws := jm_in (List.mem_of_getElem? (i := 878) (by decide +kernel)) (by decide +kernel)
theorem ew_M_copyLetter : Cond.selects "BargainTreeModel" m_M_copyLetter.1 m_M_copyLetter.1 ∈ jm_ws := jm_inP (List.mem_of_getElem? (i := 48) (by decide +kernel)) (by decide +kernel)
theorem nv_M_deliver : jm_NV m_M_deliver 0 := ⟨jm_in (List.mem_of_getElem? (i := 2) (by decide +kernel)) (by decide +kernel), jm_in (List.mem_of_getElem? (i := 883) (by decide +kernel)) (by decide +kernel), ⟨by decide, by decide⟩, by decide +kernel, by decide⟩
theorem iw_M_deliver : Cond.instanceMethod m_M_deliver.1 ∈ jm_ws := jm_in (List.mem_of_getElem? (i := 882) (by decide +kernel)) (by decide +kernel)
theorem ew_M_deliver : Cond.selects "BargainTreeModel" m_M_deliver.1 m_M_deliver.1 ∈ jm_ws := jm_inP (List.mem_of_getElem? (i := 49) (by decide +kernel)) (by decide +kernel)
theorem nv_M_told : jm_NV m_M_told 2 := ⟨jm_in (List.mem_of_getElem? (i := 2) (by decide +kernel)) (by decide +kernel), jm_in (List.mem_of_getElem? (i := 887) (by decide +kernel)) (by decide +kernel), ⟨by decide, by decide⟩, by decide +kernel, by decide⟩
theorem iw_M_told : Cond.instanceMethod m_M_told.1 ∈ jm_ws := jm_in (List.mem_of_getElem? (i := 885) (by decide +kernel)) (by decide +kernel)
theorem ew_M_told : Cond.selects "BargainTreeModel" m_M_told.1 m_M_told.1 ∈ jm_ws := jm_in (List.mem_of_getElem? (i := 886) (by decide +kernel)) (by decide +kernel)
theorem nv_M_entryOf : jm_NV m_M_entryOf 2 := ⟨jm_in (List.mem_of_getElem? (i := 2) (by decide +kernel)) (by decide +kernel), jm_in (List.mem_of_getElem? (i := 891) (by decide +kernel)) (by decide +kernel), ⟨by decide, by decide⟩, by decide +kernel, by decide⟩
theorem iw_M_entryOf : Cond.instanceMethod m_M_entryOf.1 ∈ jm_ws := jm_in (List.mem_of_getElem? (i := 890) (by decide +kernel)) (by decide +kernel)
theorem ew_M_entryOf : Cond.selects "BargainTreeModel" m_M_entryOf.1 m_M_entryOf.1 ∈ jm_ws := jm_inP (List.mem_of_getElem? (i := 50) (by decide +kernel)) (by decide +kernel)
theorem nv_M_again : jm_NV m_M_again 1 := ⟨jm_in (List.mem_of_getElem? (i := 2) (by decide +kernel)) (by decide +kernel), jm_in (List.mem_of_getElem? (i := 895) (by decide +kernel)) (by decide +kernel), ⟨by decide, by decide⟩, by decide +kernel, by decide⟩
theorem iw_M_again : Cond.instanceMethod m_M_again.1 ∈ jm_ws := jm_in (List.mem_of_getElem? (i := 893) (by decide +kernel)) (by decide +kernel)
theorem ew_M_again : Cond.selects "BargainTreeModel" m_M_again.1 m_M_again.1 ∈ jm_ws := jm_in (List.mem_of_getElem? (i := 894) (by decide +kernel)) (by decide +kernel)
theorem nv_M_change : jm_NV m_M_change 5 := ⟨jm_in (List.mem_of_getElem? (i := 2) (by decide +kernel)) (by decide +kernel), jm_in (List.mem_of_getElem? (i := 899) (by decide +kernel)) (by decide +kernel), ⟨by decide, by decide⟩, by decide +kernel, by decide⟩
theorem iw_M_change : Cond.instanceMethod m_M_change.1 ∈ jm_ws := jm_in (List.mem_of_getElem? (i := 897) (by decide +kernel)) (by decide +kernel)
theorem ew_M_change : Cond.selects "BargainTreeModel" m_M_change.1 m_M_change.1 ∈ jm_ws := jm_in (List.mem_of_getElem? (i := 898) (by decide +kernel)) (by decide +kernel)
theorem nv_M_state : jm_NV m_M_state 0 := ⟨jm_in (List.mem_of_getElem? (i := 2) (by decide +kernel)) (by decide +kernel), jm_in (List.mem_of_getElem? (i := 903) (by decide +kernel)) (by decide +kernel), ⟨by decide, by decide⟩, by decide +kernel, by decide⟩
theorem iw_M_state : Cond.instanceMethod m_M_state.1 ∈ jm_ws := jm_in (List.mem_of_getElem? (i := 902) (by decide +kernel)) (by decide +kernel)
theorem ew_M_state : Cond.selects "BargainTreeModel" m_M_state.1 m_M_state.1 ∈ jm_ws := jm_inP (List.mem_of_getElem? (i := 51) (by decide +kernel)) (by decide +kernel)
theorem nv_M_isLost : jm_NV m_M_isLost 1 := ⟨jm_in (List.mem_of_getElem? (i := 2) (by decide +kernel)) (by decide +kernel), jm_in (List.mem_of_getElem? (i := 907) (by decide +kernel)) (by decide +kernel), ⟨by decide, by decide⟩, by decide +kernel, by decide⟩
theorem iw_M_isLost : Cond.instanceMethod m_M_isLost.1 ∈ jm_ws := jm_in (List.mem_of_getElem? (i := 906) (by decide +kernel)) (by decide +kernel)
theorem ew_M_isLost : Cond.selects "BargainTreeModel" m_M_isLost.1 m_M_isLost.1 ∈ jm_ws := jm_inP (List.mem_of_getElem? (i := 52) (by decide +kernel)) (by decide +kernel)
theorem nv_M_isSettled : jm_NV m_M_isSettled 1 := ⟨jm_in (List.mem_of_getElem? (i := 2) (by decide +kernel)) (by decide +kernel), jm_in (List.mem_of_getElem? (i := 911) (by decide +kernel)) (by decide +kernel), ⟨by decide, by decide⟩, by decide +kernel, by decide⟩
theorem iw_M_isSettled : Cond.instanceMethod m_M_isSettled.1 ∈ jm_ws := jm_in (List.mem_of_getElem? (i := 910) (by decide +kernel)) (by decide +kernel)
theorem ew_M_isSettled : Cond.selects "BargainTreeModel" m_M_isSettled.1 m_M_isSettled.1 ∈ jm_ws := jm_inP (List.mem_of_getElem? (i := 53) (by decide +kernel)) (by decide +kernel)
theorem nv_M_done : jm_NV m_M_done 0 := ⟨jm_in (List.mem_of_getElem? (i := 2) (by decide +kernel)) (by decide +kernel), jm_in (List.mem_of_getElem? (i := 915) (by decide +kernel)) (by decide +kernel), ⟨by decide, by decide⟩, by decide +kernel, by decide⟩
theorem iw_M_done : Cond.instanceMethod m_M_done.1 ∈ jm_ws := jm_in (List.mem_of_getElem? (i := 913) (by decide +kernel)) (by decide +kernel)
theorem ew_M_done : Cond.selects "BargainTreeModel" m_M_done.1 m_M_done.1 ∈ jm_ws := jm_in (List.mem_of_getElem? (i := 914) (by decide +kernel)) (by decide +kernel)
theorem nv_M_value : jm_NV m_M_value 1 := ⟨jm_in (List.mem_of_getElem? (i := 2) (by decide +kernel)) (by decide +kernel), jm_in (List.mem_of_getElem? (i := 919) (by decide +kernel)) (by decide +kernel), ⟨by decide, by decide⟩, by decide +kernel, by decide⟩
theorem iw_M_value : Cond.instanceMethod m_M_value.1 ∈ jm_ws := jm_in (List.mem_of_getElem? (i := 917) (by decide +kernel)) (by decide +kernel)
theorem ew_M_value : Cond.selects "BargainTreeModel" m_M_value.1 m_M_value.1 ∈ jm_ws := jm_in (List.mem_of_getElem? (i := 918) (by decide +kernel)) (by decide +kernel)
theorem nv_M_total : jm_NV m_M_total 0 := ⟨jm_in (List.mem_of_getElem? (i := 2) (by decide +kernel)) (by decide +kernel), jm_in (List.mem_of_getElem? (i := 923) (by decide +kernel)) (by decide +kernel), ⟨by decide, by decide⟩, by decide +kernel, by decide⟩
theorem iw_M_total : Cond.instanceMethod m_M_total.1 ∈ jm_ws := jm_in (List.mem_of_getElem? (i := 921) (by decide +kernel)) (by decide +kernel)
theorem ew_M_total : Cond.selects "BargainTreeModel" m_M_total.1 m_M_total.1 ∈ jm_ws := jm_in (List.mem_of_getElem? (i := 922) (by decide +kernel)) (by decide +kernel)
theorem nv_M_parent : jm_NV m_M_parent 1 := ⟨jm_in (List.mem_of_getElem? (i := 2) (by decide +kernel)) (by decide +kernel), jm_in (List.mem_of_getElem? (i := 927) (by decide +kernel)) (by decide +kernel), ⟨by decide, by decide⟩, by decide +kernel, by decide⟩
theorem iw_M_parent : Cond.instanceMethod m_M_parent.1 ∈ jm_ws := jm_in (List.mem_of_getElem? (i := 925) (by decide +kernel)) (by decide +kernel)
theorem ew_M_parent : Cond.selects "BargainTreeModel" m_M_parent.1 m_M_parent.1 ∈ jm_ws := jm_in (List.mem_of_getElem? (i := 926) (by decide +kernel)) (by decide +kernel)
theorem nv_M_separator : jm_NV m_M_separator 1 := ⟨jm_in (List.mem_of_getElem? (i := 2) (by decide +kernel)) (by decide +kernel), jm_in (List.mem_of_getElem? (i := 931) (by decide +kernel)) (by decide +kernel), ⟨by decide, by decide⟩, by decide +kernel, by decide⟩
theorem iw_M_separator : Cond.instanceMethod m_M_separator.1 ∈ jm_ws := jm_in (List.mem_of_getElem? (i := 929) (by decide +kernel)) (by decide +kernel)
theorem ew_M_separator : Cond.selects "BargainTreeModel" m_M_separator.1 m_M_separator.1 ∈ jm_ws := jm_in (List.mem_of_getElem? (i := 930) (by decide +kernel)) (by decide +kernel)
theorem nv_M_entries : jm_NV m_M_entries 1 := ⟨jm_in (List.mem_of_getElem? (i := 2) (by decide +kernel)) (by decide +kernel), jm_in (List.mem_of_getElem? (i := 935) (by decide +kernel)) (by decide +kernel), ⟨by decide, by decide⟩, by decide +kernel, by decide⟩
theorem iw_M_entries : Cond.instanceMethod m_M_entries.1 ∈ jm_ws := jm_in (List.mem_of_getElem? (i := 933) (by decide +kernel)) (by decide +kernel)
theorem ew_M_entries : Cond.selects "BargainTreeModel" m_M_entries.1 m_M_entries.1 ∈ jm_ws := jm_in (List.mem_of_getElem? (i := 934) (by decide +kernel)) (by decide +kernel)
theorem nv_M_tables : jm_NV m_M_tables 0 := ⟨jm_in (List.mem_of_getElem? (i := 2) (by decide +kernel)) (by decide +kernel), jm_in (List.mem_of_getElem? (i := 939) (by decide +kernel)) (by decide +kernel), ⟨by decide, by decide⟩, by decide +kernel, by decide⟩
theorem iw_M_tables : Cond.instanceMethod m_M_tables.1 ∈ jm_ws := jm_in (List.mem_of_getElem? (i := 937) (by decide +kernel)) (by decide +kernel)
theorem ew_M_tables : Cond.selects "BargainTreeModel" m_M_tables.1 m_M_tables.1 ∈ jm_ws := jm_in (List.mem_of_getElem? (i := 938) (by decide +kernel)) (by decide +kernel)
