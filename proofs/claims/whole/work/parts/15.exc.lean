/-! EXCEPTIONS: the words of their constructors, all found in the tables -/
set_option maxRecDepth 100000 in
theorem x_0 : jm_XW "BargainTree" (jm_xn 0) 35 39 ["java/lang/RuntimeException", "java/lang/Exception"] := ⟨c_B_35, jm_in (List.mem_of_getElem? (i := 135) (by decide +kernel)) (by decide +kernel), jm_in (List.mem_of_getElem? (i := 6) (by decide +kernel)) (by decide +kernel), by decide +kernel, by decide +kernel, by decide +kernel⟩
set_option maxRecDepth 100000 in
theorem x_1 : jm_XW "BargainTree" (jm_xn 1) 46 50 ["java/lang/RuntimeException", "java/lang/Exception"] := ⟨c_B_46, jm_in (List.mem_of_getElem? (i := 203) (by decide +kernel)) (by decide +kernel), jm_in (List.mem_of_getElem? (i := 7) (by decide +kernel)) (by decide +kernel), by decide +kernel, by decide +kernel, by decide +kernel⟩
set_option maxRecDepth 100000 in
theorem x_2 : jm_XW "BargainTree" (jm_xn 2) 134 138 ["java/lang/RuntimeException", "java/lang/Exception"] := ⟨c_B_134, jm_in (List.mem_of_getElem? (i := 563) (by decide +kernel)) (by decide +kernel), jm_in (List.mem_of_getElem? (i := 18) (by decide +kernel)) (by decide +kernel), by decide +kernel, by decide +kernel, by decide +kernel⟩
