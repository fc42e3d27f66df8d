/-! words of the tables, by name -/
theorem cm_t1 : ∀ w ∈ tables_1_1, w ∈ tables_1 := fun _ h => List.mem_append_left _ h
theorem cm_t2 : ∀ w ∈ tables_1_2, w ∈ tables_1 := fun _ h => List.mem_append_right _ (List.mem_append_left _ h)
theorem cm_t3 : ∀ w ∈ tables_1_3, w ∈ tables_1 := fun _ h => List.mem_append_right _ (List.mem_append_right _ (List.mem_append_left _ h))
theorem cm_t4 : ∀ w ∈ tables_1_4, w ∈ tables_1 := fun _ h => List.mem_append_right _ (List.mem_append_right _ (List.mem_append_right _ (List.mem_append_left _ h)))
theorem cm_t5 : ∀ w ∈ tables_1_5, w ∈ tables_1 := fun _ h => List.mem_append_right _ (List.mem_append_right _ (List.mem_append_right _ (List.mem_append_right _ (List.mem_append_left _ h))))
theorem cm_t6 : ∀ w ∈ tables_1_6, w ∈ tables_1 := fun _ h => List.mem_append_right _ (List.mem_append_right _ (List.mem_append_right _ (List.mem_append_right _ (List.mem_append_right _ (List.mem_append_left _ h)))))
theorem cm_t7 : ∀ w ∈ tables_1_7, w ∈ tables_1 := fun _ h => List.mem_append_right _ (List.mem_append_right _ (List.mem_append_right _ (List.mem_append_right _ (List.mem_append_right _ (List.mem_append_right _ (List.mem_append_left _ h))))))
theorem cm_t8 : ∀ w ∈ tables_1_8, w ∈ tables_1 := fun _ h => List.mem_append_right _ (List.mem_append_right _ (List.mem_append_right _ (List.mem_append_right _ (List.mem_append_right _ (List.mem_append_right _ (List.mem_append_right _ (List.mem_append_left _ h)))))))
theorem cm_t9 : ∀ w ∈ tables_1_9, w ∈ tables_1 := fun _ h => List.mem_append_right _ (List.mem_append_right _ (List.mem_append_right _ (List.mem_append_right _ (List.mem_append_right _ (List.mem_append_right _ (List.mem_append_right _ (List.mem_append_right _ (h))))))))
theorem cm_sel {q : MethodName × Nat} (h : q ∈ lw_privs) : Cond.selects q.1.cls q.1 q.1 ∈ cm_all := cm_in (List.mem_append_left _ (List.mem_map.mpr ⟨q, h, rfl⟩)) rfl
theorem cm_p1 : ∀ q ∈ lw_privs_1, q ∈ lw_privs := fun _ h => List.mem_append_left _ h
theorem cm_p2 : ∀ q ∈ lw_privs_2, q ∈ lw_privs := fun _ h => List.mem_append_right _ (List.mem_append_left _ h)
theorem cm_p3 : ∀ q ∈ lw_privs_3, q ∈ lw_privs := fun _ h => List.mem_append_right _ (List.mem_append_right _ (List.mem_append_left _ h))
theorem cm_p4 : ∀ q ∈ lw_privs_4, q ∈ lw_privs := fun _ h => List.mem_append_right _ (List.mem_append_right _ (List.mem_append_right _ (List.mem_append_left _ h)))
theorem cm_p5 : ∀ q ∈ lw_privs_5, q ∈ lw_privs := fun _ h => List.mem_append_right _ (List.mem_append_right _ (List.mem_append_right _ (List.mem_append_right _ (List.mem_append_left _ h))))
theorem cm_p6 : ∀ q ∈ lw_privs_6, q ∈ lw_privs := fun _ h => List.mem_append_right _ (List.mem_append_right _ (List.mem_append_right _ (List.mem_append_right _ (List.mem_append_right _ (List.mem_append_left _ h)))))
theorem cm_p7 : ∀ q ∈ lw_privs_7, q ∈ lw_privs := fun _ h => List.mem_append_right _ (List.mem_append_right _ (List.mem_append_right _ (List.mem_append_right _ (List.mem_append_right _ (List.mem_append_right _ (List.mem_append_left _ h))))))
theorem cm_p8 : ∀ q ∈ lw_privs_8, q ∈ lw_privs := fun _ h => List.mem_append_right _ (List.mem_append_right _ (List.mem_append_right _ (List.mem_append_right _ (List.mem_append_right _ (List.mem_append_right _ (List.mem_append_right _ (List.mem_append_left _ h)))))))
theorem cm_p9 : ∀ q ∈ lw_privs_9, q ∈ lw_privs := fun _ h => List.mem_append_right _ (List.mem_append_right _ (List.mem_append_right _ (List.mem_append_right _ (List.mem_append_right _ (List.mem_append_right _ (List.mem_append_right _ (List.mem_append_right _ (List.mem_append_left _ h))))))))
theorem cm_p10 : ∀ q ∈ lw_privs_10, q ∈ lw_privs := fun _ h => List.mem_append_right _ (List.mem_append_right _ (List.mem_append_right _ (List.mem_append_right _ (List.mem_append_right _ (List.mem_append_right _ (List.mem_append_right _ (List.mem_append_right _ (List.mem_append_right _ (h)))))))))
theorem ki_RL : Cond.initialized RL ∈ cm_all := cm_inT (cm_t1 _ (List.mem_of_getElem? (i := 0) rfl)) rfl
theorem ki_RX10 : Cond.initialized RX10 ∈ cm_all := cm_inT (cm_t1 _ (List.mem_of_getElem? (i := 1) rfl)) rfl
theorem ki_RX9 : Cond.initialized RX9 ∈ cm_all := cm_inT (cm_t1 _ (List.mem_of_getElem? (i := 2) rfl)) rfl
theorem ki_RX7 : Cond.initialized RX7 ∈ cm_all := cm_inT (cm_t1 _ (List.mem_of_getElem? (i := 3) rfl)) rfl
theorem ki_RX2 : Cond.initialized RX2 ∈ cm_all := cm_inT (cm_t1 _ (List.mem_of_getElem? (i := 4) rfl)) rfl
theorem ki_RX5 : Cond.initialized RX5 ∈ cm_all := cm_inT (cm_t1 _ (List.mem_of_getElem? (i := 5) rfl)) rfl
theorem ki_RX1 : Cond.initialized RX1 ∈ cm_all := cm_inT (cm_t1 _ (List.mem_of_getElem? (i := 6) rfl)) rfl
theorem ki_RX0 : Cond.initialized RX0 ∈ cm_all := cm_inT (cm_t1 _ (List.mem_of_getElem? (i := 7) rfl)) rfl
theorem ki_RX3 : Cond.initialized RX3 ∈ cm_all := cm_inT (cm_t1 _ (List.mem_of_getElem? (i := 8) rfl)) rfl
theorem ki_RX4 : Cond.initialized RX4 ∈ cm_all := cm_inT (cm_t1 _ (List.mem_of_getElem? (i := 9) rfl)) rfl
theorem ki_RX8 : Cond.initialized RX8 ∈ cm_all := cm_inT (cm_t1 _ (List.mem_of_getElem? (i := 10) rfl)) rfl
theorem ki_RJ9 : Cond.initialized RJ9 ∈ cm_all := cm_inT (cm_t1 _ (List.mem_of_getElem? (i := 11) rfl)) rfl
theorem ki_RX11 : Cond.initialized RX11 ∈ cm_all := cm_inT (cm_t1 _ (List.mem_of_getElem? (i := 12) rfl)) rfl
theorem ki_RX6 : Cond.initialized RX6 ∈ cm_all := cm_inT (cm_t1 _ (List.mem_of_getElem? (i := 13) rfl)) rfl
theorem ki_RJ0 : Cond.initialized RJ0 ∈ cm_all := cm_inT (cm_t1 _ (List.mem_of_getElem? (i := 14) rfl)) rfl
theorem ki_RJ1 : Cond.initialized RJ1 ∈ cm_all := cm_inT (cm_t1 _ (List.mem_of_getElem? (i := 15) rfl)) rfl
theorem ki_RJ3 : Cond.initialized RJ3 ∈ cm_all := cm_inT (cm_t1 _ (List.mem_of_getElem? (i := 16) rfl)) rfl
theorem ki_RJ10 : Cond.initialized RJ10 ∈ cm_all := cm_inT (cm_t1 _ (List.mem_of_getElem? (i := 18) rfl)) rfl
theorem ki_java_lang_Throwable : Cond.initialized "java/lang/Throwable" ∈ cm_all := cm_inT (cm_t1 _ (List.mem_of_getElem? (i := 19) rfl)) rfl
theorem ki_java_lang_IllegalArgumentException : Cond.initialized "java/lang/IllegalArgumentException" ∈ cm_all := cm_inT (cm_t1 _ (List.mem_of_getElem? (i := 22) rfl)) rfl
theorem ki_java_lang_IndexOutOfBoundsException : Cond.initialized "java/lang/IndexOutOfBoundsException" ∈ cm_all := cm_inT (cm_t1 _ (List.mem_of_getElem? (i := 23) rfl)) rfl
theorem ki_RJ6 : Cond.initialized RJ6 ∈ cm_all := cm_inT (cm_t1 _ (List.mem_of_getElem? (i := 24) rfl)) rfl
theorem kl_RL_8 : Cond.classLink RL 8 RX10 ∈ cm_all := cm_inT (cm_t1 _ (List.mem_of_getElem? (i := 25) rfl)) rfl
theorem kn_RX10 : Cond.instantiable RX10 6 ∈ cm_all := cm_inT (cm_t1 _ (List.mem_of_getElem? (i := 26) rfl)) rfl
theorem kl_RL_172 : Cond.methodLink RL 172 yX10_init ∈ cm_all := cm_inT (cm_t1 _ (List.mem_of_getElem? (i := 27) rfl)) rfl
theorem kv_X10_init : Cond.instanceMethod yX10_init ∈ cm_all := cm_inT (cm_t1 _ (List.mem_of_getElem? (i := 28) rfl)) rfl
theorem kc_X10_init : Cond.code yX10_init cX10_init 1 none ∈ cm_all := cm_inT (cm_t1 _ (List.mem_of_getElem? (i := 29) rfl)) rfl
theorem kl_RX10_1 : Cond.methodLink RX10 1 ⟨"java/lang/Object", "<init>", "()V"⟩ ∈ cm_all := cm_inT (cm_t1 _ (List.mem_of_getElem? (i := 30) rfl)) rfl
theorem kv_java_lang_Object_init : Cond.instanceMethod ⟨"java/lang/Object", "<init>", "()V"⟩ ∈ cm_all := cm_inT (cm_t1 _ (List.mem_of_getElem? (i := 31) rfl)) rfl
theorem kc_java_lang_Object_init : Cond.code ⟨"java/lang/Object", "<init>", "()V"⟩ object_method_1_code 1 none ∈ cm_all := cm_inT (cm_t1 _ (List.mem_of_getElem? (i := 32) rfl)) rfl
theorem kl_RX10_7 : Cond.classLink RX10 7 RX9 ∈ cm_all := cm_inT (cm_t1 _ (List.mem_of_getElem? (i := 33) rfl)) rfl
theorem kn_RX9 : Cond.instantiable RX9 8 ∈ cm_all := cm_inT (cm_t1 _ (List.mem_of_getElem? (i := 34) rfl)) rfl
theorem kl_RX10_9 : Cond.methodLinkNest RX10 9 yX9_init "CellCycler" ∈ cm_all := cm_inT (cm_t1 _ (List.mem_of_getElem? (i := 35) rfl)) rfl
theorem kv_X9_init : Cond.instanceMethod yX9_init ∈ cm_all := cm_inT (cm_t1 _ (List.mem_of_getElem? (i := 36) rfl)) rfl
theorem kc_X9_init : Cond.code yX9_init cX9_init 2 none ∈ cm_all := cm_inT (cm_t1 _ (List.mem_of_getElem? (i := 37) rfl)) rfl
theorem kl_RX9_3 : Cond.methodLink RX9 3 ⟨"java/lang/Object", "<init>", "()V"⟩ ∈ cm_all := cm_inT (cm_t1 _ (List.mem_of_getElem? (i := 38) rfl)) rfl
theorem kl_RX9_9 : Cond.classLink RX9 9 RX7 ∈ cm_all := cm_inT (cm_t1 _ (List.mem_of_getElem? (i := 39) rfl)) rfl
theorem kn_RX7 : Cond.instantiable RX7 12 ∈ cm_all := cm_inT (cm_t1 _ (List.mem_of_getElem? (i := 40) rfl)) rfl
theorem kl_RX9_11 : Cond.methodLinkNest RX9 11 yX7_init "CellCycler" ∈ cm_all := cm_inT (cm_t1 _ (List.mem_of_getElem? (i := 41) rfl)) rfl
theorem kv_X7_init : Cond.instanceMethod yX7_init ∈ cm_all := cm_inT (cm_t1 _ (List.mem_of_getElem? (i := 42) rfl)) rfl
theorem kc_X7_init : Cond.code yX7_init cX7_init 1 none ∈ cm_all := cm_inT (cm_t1 _ (List.mem_of_getElem? (i := 43) rfl)) rfl
theorem kl_RX7_1 : Cond.methodLink RX7 1 ⟨"java/lang/Object", "<init>", "()V"⟩ ∈ cm_all := cm_inT (cm_t1 _ (List.mem_of_getElem? (i := 44) rfl)) rfl
theorem kl_RX7_7 : Cond.methodLink RX7 7 yX7_clear ∈ cm_all := cm_inT (cm_t1 _ (List.mem_of_getElem? (i := 45) rfl)) rfl
theorem kv_X7_clear : Cond.instanceMethod yX7_clear ∈ cm_all := cm_inT (cm_t1 _ (List.mem_of_getElem? (i := 47) rfl)) rfl
theorem kc_X7_clear : Cond.code yX7_clear cX7_clear 1 none ∈ cm_all := cm_inT (cm_t1 _ (List.mem_of_getElem? (i := 48) rfl)) rfl
theorem kl_RX7_16 : Cond.constant RX7 16 (100000) ∈ cm_all := cm_inT (cm_t1 _ (List.mem_of_getElem? (i := 49) rfl)) rfl
theorem kl_RX7_12 : Cond.fieldLink RX7 12 "CellCycler$Settings" "efficiency" "I" ∈ cm_all := cm_inT (cm_t1 _ (List.mem_of_getElem? (i := 50) rfl)) rfl
theorem kl_RX6_78 : Cond.fieldLinkNest RX6 78 "CellCycler$Settings" "efficiency" "I" "CellCycler" ∈ cm_all := cm_inT (cm_t1 _ (List.mem_of_getElem? (i := 51) rfl)) rfl
theorem kl_RX10_99 : Cond.fieldLinkNest RX10 99 "CellCycler$Settings" "efficiency" "I" "CellCycler" ∈ cm_all := cm_inT (cm_t1 _ (List.mem_of_getElem? (i := 52) rfl)) rfl
theorem kl_RX0_143 : Cond.fieldLinkNest RX0 143 "CellCycler$Settings" "efficiency" "I" "CellCycler" ∈ cm_all := cm_inT (cm_t1 _ (List.mem_of_getElem? (i := 53) rfl)) rfl
theorem kl_RX7_17 : Cond.fieldLink RX7 17 "CellCycler$Settings" "fade" "I" ∈ cm_all := cm_inT (cm_t1 _ (List.mem_of_getElem? (i := 54) rfl)) rfl
theorem kl_RX6_85 : Cond.fieldLinkNest RX6 85 "CellCycler$Settings" "fade" "I" "CellCycler" ∈ cm_all := cm_inT (cm_t1 _ (List.mem_of_getElem? (i := 55) rfl)) rfl
theorem kl_RX10_104 : Cond.fieldLinkNest RX10 104 "CellCycler$Settings" "fade" "I" "CellCycler" ∈ cm_all := cm_inT (cm_t1 _ (List.mem_of_getElem? (i := 56) rfl)) rfl
theorem kl_RX0_151 : Cond.fieldLinkNest RX0 151 "CellCycler$Settings" "fade" "I" "CellCycler" ∈ cm_all := cm_inT (cm_t1 _ (List.mem_of_getElem? (i := 57) rfl)) rfl
theorem kl_RX7_20 : Cond.fieldLink RX7 20 "CellCycler$Settings" "heat" "I" ∈ cm_all := cm_inT (cm_t1 _ (List.mem_of_getElem? (i := 58) rfl)) rfl
theorem kl_RX6_89 : Cond.fieldLinkNest RX6 89 "CellCycler$Settings" "heat" "I" "CellCycler" ∈ cm_all := cm_inT (cm_t1 _ (List.mem_of_getElem? (i := 59) rfl)) rfl
theorem kl_RX10_107 : Cond.fieldLinkNest RX10 107 "CellCycler$Settings" "heat" "I" "CellCycler" ∈ cm_all := cm_inT (cm_t1 _ (List.mem_of_getElem? (i := 60) rfl)) rfl
theorem kl_RX0_163 : Cond.fieldLinkNest RX0 163 "CellCycler$Settings" "heat" "I" "CellCycler" ∈ cm_all := cm_inT (cm_t1 _ (List.mem_of_getElem? (i := 61) rfl)) rfl
theorem kl_RX7_23 : Cond.fieldLink RX7 23 "CellCycler$Settings" "cool" "I" ∈ cm_all := cm_inT (cm_t1 _ (List.mem_of_getElem? (i := 62) rfl)) rfl
theorem kl_RX6_96 : Cond.fieldLinkNest RX6 96 "CellCycler$Settings" "cool" "I" "CellCycler" ∈ cm_all := cm_inT (cm_t1 _ (List.mem_of_getElem? (i := 63) rfl)) rfl
theorem kl_RX10_110 : Cond.fieldLinkNest RX10 110 "CellCycler$Settings" "cool" "I" "CellCycler" ∈ cm_all := cm_inT (cm_t1 _ (List.mem_of_getElem? (i := 64) rfl)) rfl
theorem kl_RX0_160 : Cond.fieldLinkNest RX0 160 "CellCycler$Settings" "cool" "I" "CellCycler" ∈ cm_all := cm_inT (cm_t1 _ (List.mem_of_getElem? (i := 65) rfl)) rfl
theorem kl_RX7_26 : Cond.fieldLink RX7 26 "CellCycler$Settings" "low" "I" ∈ cm_all := cm_inT (cm_t1 _ (List.mem_of_getElem? (i := 66) rfl)) rfl
theorem kl_RX6_101 : Cond.fieldLinkNest RX6 101 "CellCycler$Settings" "low" "I" "CellCycler" ∈ cm_all := cm_inT (cm_t1 _ (List.mem_of_getElem? (i := 67) rfl)) rfl
theorem kl_RX10_113 : Cond.fieldLinkNest RX10 113 "CellCycler$Settings" "low" "I" "CellCycler" ∈ cm_all := cm_inT (cm_t1 _ (List.mem_of_getElem? (i := 68) rfl)) rfl
theorem kl_RX1_225 : Cond.fieldLinkNest RX1 225 "CellCycler$Settings" "low" "I" "CellCycler" ∈ cm_all := cm_inT (cm_t1 _ (List.mem_of_getElem? (i := 69) rfl)) rfl
theorem kl_RX7_29 : Cond.fieldLink RX7 29 "CellCycler$Settings" "high" "I" ∈ cm_all := cm_inT (cm_t1 _ (List.mem_of_getElem? (i := 70) rfl)) rfl
theorem kl_RX6_104 : Cond.fieldLinkNest RX6 104 "CellCycler$Settings" "high" "I" "CellCycler" ∈ cm_all := cm_inT (cm_t1 _ (List.mem_of_getElem? (i := 71) rfl)) rfl
theorem kl_RX10_116 : Cond.fieldLinkNest RX10 116 "CellCycler$Settings" "high" "I" "CellCycler" ∈ cm_all := cm_inT (cm_t1 _ (List.mem_of_getElem? (i := 72) rfl)) rfl
theorem kl_RX1_222 : Cond.fieldLinkNest RX1 222 "CellCycler$Settings" "high" "I" "CellCycler" ∈ cm_all := cm_inT (cm_t1 _ (List.mem_of_getElem? (i := 73) rfl)) rfl
theorem kl_RX7_32 : Cond.fieldLink RX7 32 "CellCycler$Settings" "hot" "I" ∈ cm_all := cm_inT (cm_t1 _ (List.mem_of_getElem? (i := 74) rfl)) rfl
theorem kl_RX6_107 : Cond.fieldLinkNest RX6 107 "CellCycler$Settings" "hot" "I" "CellCycler" ∈ cm_all := cm_inT (cm_t1 _ (List.mem_of_getElem? (i := 75) rfl)) rfl
theorem kl_RX10_119 : Cond.fieldLinkNest RX10 119 "CellCycler$Settings" "hot" "I" "CellCycler" ∈ cm_all := cm_inT (cm_t1 _ (List.mem_of_getElem? (i := 76) rfl)) rfl
theorem kl_RX0_103 : Cond.fieldLinkNest RX0 103 "CellCycler$Settings" "hot" "I" "CellCycler" ∈ cm_all := cm_inT (cm_t1 _ (List.mem_of_getElem? (i := 77) rfl)) rfl
theorem kl_RX1_228 : Cond.fieldLinkNest RX1 228 "CellCycler$Settings" "hot" "I" "CellCycler" ∈ cm_all := cm_inT (cm_t1 _ (List.mem_of_getElem? (i := 78) rfl)) rfl
theorem kl_RX7_35 : Cond.fieldLink RX7 35 "CellCycler$Settings" "ambient" "I" ∈ cm_all := cm_inT (cm_t1 _ (List.mem_of_getElem? (i := 79) rfl)) rfl
theorem kl_RX6_112 : Cond.fieldLinkNest RX6 112 "CellCycler$Settings" "ambient" "I" "CellCycler" ∈ cm_all := cm_inT (cm_t1 _ (List.mem_of_getElem? (i := 80) rfl)) rfl
theorem kl_RX9_84 : Cond.fieldLinkNest RX9 84 "CellCycler$Settings" "ambient" "I" "CellCycler" ∈ cm_all := cm_inT (cm_t1 _ (List.mem_of_getElem? (i := 81) rfl)) rfl
theorem kl_RX10_122 : Cond.fieldLinkNest RX10 122 "CellCycler$Settings" "ambient" "I" "CellCycler" ∈ cm_all := cm_inT (cm_t1 _ (List.mem_of_getElem? (i := 82) rfl)) rfl
theorem kl_RX0_157 : Cond.fieldLinkNest RX0 157 "CellCycler$Settings" "ambient" "I" "CellCycler" ∈ cm_all := cm_inT (cm_t1 _ (List.mem_of_getElem? (i := 83) rfl)) rfl
theorem kl_RX7_38 : Cond.fieldLink RX7 38 "CellCycler$Settings" "warnLow" "I" ∈ cm_all := cm_inT (cm_t1 _ (List.mem_of_getElem? (i := 84) rfl)) rfl
theorem kl_RX6_116 : Cond.fieldLinkNest RX6 116 "CellCycler$Settings" "warnLow" "I" "CellCycler" ∈ cm_all := cm_inT (cm_t1 _ (List.mem_of_getElem? (i := 85) rfl)) rfl
theorem kl_RX1_213 : Cond.fieldLinkNest RX1 213 "CellCycler$Settings" "warnLow" "I" "CellCycler" ∈ cm_all := cm_inT (cm_t1 _ (List.mem_of_getElem? (i := 86) rfl)) rfl
theorem kl_RX7_41 : Cond.fieldLink RX7 41 "CellCycler$Settings" "warnHigh" "I" ∈ cm_all := cm_inT (cm_t1 _ (List.mem_of_getElem? (i := 87) rfl)) rfl
theorem kl_RX6_119 : Cond.fieldLinkNest RX6 119 "CellCycler$Settings" "warnHigh" "I" "CellCycler" ∈ cm_all := cm_inT (cm_t1 _ (List.mem_of_getElem? (i := 88) rfl)) rfl
theorem kl_RX1_208 : Cond.fieldLinkNest RX1 208 "CellCycler$Settings" "warnHigh" "I" "CellCycler" ∈ cm_all := cm_inT (cm_t1 _ (List.mem_of_getElem? (i := 89) rfl)) rfl
theorem kl_RX7_44 : Cond.fieldLink RX7 44 "CellCycler$Settings" "warnHot" "I" ∈ cm_all := cm_inT (cm_t1 _ (List.mem_of_getElem? (i := 90) rfl)) rfl
theorem kl_RX6_122 : Cond.fieldLinkNest RX6 122 "CellCycler$Settings" "warnHot" "I" "CellCycler" ∈ cm_all := cm_inT (cm_t1 _ (List.mem_of_getElem? (i := 91) rfl)) rfl
theorem kl_RX1_216 : Cond.fieldLinkNest RX1 216 "CellCycler$Settings" "warnHot" "I" "CellCycler" ∈ cm_all := cm_inT (cm_t1 _ (List.mem_of_getElem? (i := 92) rfl)) rfl
theorem kl_RX7_47 : Cond.fieldLink RX7 47 "CellCycler$Settings" "span" "I" ∈ cm_all := cm_inT (cm_t1 _ (List.mem_of_getElem? (i := 93) rfl)) rfl
theorem kl_RX6_127 : Cond.fieldLinkNest RX6 127 "CellCycler$Settings" "span" "I" "CellCycler" ∈ cm_all := cm_inT (cm_t1 _ (List.mem_of_getElem? (i := 94) rfl)) rfl
theorem kl_RX0_98 : Cond.fieldLinkNest RX0 98 "CellCycler$Settings" "span" "I" "CellCycler" ∈ cm_all := cm_inT (cm_t1 _ (List.mem_of_getElem? (i := 95) rfl)) rfl
theorem kl_RX10_143 : Cond.fieldLinkNest RX10 143 "CellCycler$Settings" "span" "I" "CellCycler" ∈ cm_all := cm_inT (cm_t1 _ (List.mem_of_getElem? (i := 96) rfl)) rfl
theorem kl_RX9_18 : Cond.classLink RX9 18 RX2 ∈ cm_all := cm_inT (cm_t1 _ (List.mem_of_getElem? (i := 122) rfl)) rfl
theorem kn_RX2 : Cond.instantiable RX2 4 ∈ cm_all := cm_inT (cm_t1 _ (List.mem_of_getElem? (i := 123) rfl)) rfl
theorem kl_RX9_20 : Cond.methodLinkNest RX9 20 yX2_init "CellCycler" ∈ cm_all := cm_inT (cm_t1 _ (List.mem_of_getElem? (i := 124) rfl)) rfl
theorem kv_X2_init : Cond.instanceMethod yX2_init ∈ cm_all := cm_inT (cm_t1 _ (List.mem_of_getElem? (i := 125) rfl)) rfl
theorem kc_X2_init : Cond.code yX2_init cX2_init 1 none ∈ cm_all := cm_inT (cm_t1 _ (List.mem_of_getElem? (i := 126) rfl)) rfl
theorem kl_RX2_3 : Cond.methodLink RX2 3 ⟨"java/lang/Object", "<init>", "()V"⟩ ∈ cm_all := cm_inT (cm_t1 _ (List.mem_of_getElem? (i := 127) rfl)) rfl
theorem kl_RX2_22 : Cond.fieldLink RX2 22 "CellCycler$Curves" "count" "I" ∈ cm_all := cm_inT (cm_t1 _ (List.mem_of_getElem? (i := 128) rfl)) rfl
theorem kl_RX9_60 : Cond.fieldLinkNest RX9 60 "CellCycler$Curves" "count" "I" "CellCycler" ∈ cm_all := cm_inT (cm_t1 _ (List.mem_of_getElem? (i := 129) rfl)) rfl
theorem kl_RX6_137 : Cond.fieldLinkNest RX6 137 "CellCycler$Curves" "count" "I" "CellCycler" ∈ cm_all := cm_inT (cm_t1 _ (List.mem_of_getElem? (i := 130) rfl)) rfl
theorem kl_RX10_94 : Cond.fieldLinkNest RX10 94 "CellCycler$Curves" "count" "I" "CellCycler" ∈ cm_all := cm_inT (cm_t1 _ (List.mem_of_getElem? (i := 131) rfl)) rfl
theorem kl_RX2_9 : Cond.fieldLink RX2 9 "CellCycler$Curves" "names" "[J" ∈ cm_all := cm_inT (cm_t1 _ (List.mem_of_getElem? (i := 132) rfl)) rfl
theorem kl_RX2_15 : Cond.fieldLink RX2 15 "CellCycler$Curves" "points" "[I" ∈ cm_all := cm_inT (cm_t1 _ (List.mem_of_getElem? (i := 133) rfl)) rfl
theorem kl_RX0_22 : Cond.fieldLinkNest RX0 22 "CellCycler$Curves" "points" "[I" "CellCycler" ∈ cm_all := cm_inT (cm_t1 _ (List.mem_of_getElem? (i := 134) rfl)) rfl
theorem kl_RX2_19 : Cond.fieldLink RX2 19 "CellCycler$Curves" "voltages" "[I" ∈ cm_all := cm_inT (cm_t1 _ (List.mem_of_getElem? (i := 135) rfl)) rfl
theorem ka_long : Cond.arrayClass .long ∈ cm_all := cm_inT (cm_t1 _ (List.mem_of_getElem? (i := 145) rfl)) rfl
theorem ka_int : Cond.arrayClass .int ∈ cm_all := cm_inT (cm_t1 _ (List.mem_of_getElem? (i := 146) rfl)) rfl
theorem kl_RX9_25 : Cond.classLink RX9 25 RX5 ∈ cm_all := cm_inT (cm_t1 _ (List.mem_of_getElem? (i := 147) rfl)) rfl
theorem kn_RX5 : Cond.instantiable RX5 5 ∈ cm_all := cm_inT (cm_t1 _ (List.mem_of_getElem? (i := 148) rfl)) rfl
theorem kl_RX9_27 : Cond.methodLinkNest RX9 27 yX5_init "CellCycler" ∈ cm_all := cm_inT (cm_t1 _ (List.mem_of_getElem? (i := 149) rfl)) rfl
theorem kv_X5_init : Cond.instanceMethod yX5_init ∈ cm_all := cm_inT (cm_t1 _ (List.mem_of_getElem? (i := 150) rfl)) rfl
theorem kc_X5_init : Cond.code yX5_init cX5_init 1 none ∈ cm_all := cm_inT (cm_t1 _ (List.mem_of_getElem? (i := 151) rfl)) rfl
theorem kl_RX5_3 : Cond.methodLink RX5 3 ⟨"java/lang/Object", "<init>", "()V"⟩ ∈ cm_all := cm_inT (cm_t1 _ (List.mem_of_getElem? (i := 152) rfl)) rfl
theorem kl_RX5_24 : Cond.fieldLink RX5 24 "CellCycler$Programs" "count" "I" ∈ cm_all := cm_inT (cm_t1 _ (List.mem_of_getElem? (i := 153) rfl)) rfl
theorem kl_RX9_63 : Cond.fieldLinkNest RX9 63 "CellCycler$Programs" "count" "I" "CellCycler" ∈ cm_all := cm_inT (cm_t1 _ (List.mem_of_getElem? (i := 154) rfl)) rfl
theorem kl_RX6_197 : Cond.fieldLinkNest RX6 197 "CellCycler$Programs" "count" "I" "CellCycler" ∈ cm_all := cm_inT (cm_t1 _ (List.mem_of_getElem? (i := 155) rfl)) rfl
theorem kl_RX10_89 : Cond.fieldLinkNest RX10 89 "CellCycler$Programs" "count" "I" "CellCycler" ∈ cm_all := cm_inT (cm_t1 _ (List.mem_of_getElem? (i := 156) rfl)) rfl
theorem kl_RX5_9 : Cond.fieldLink RX5 9 "CellCycler$Programs" "steps" "[I" ∈ cm_all := cm_inT (cm_t1 _ (List.mem_of_getElem? (i := 157) rfl)) rfl
theorem kl_RX5_15 : Cond.fieldLink RX5 15 "CellCycler$Programs" "kinds" "[I" ∈ cm_all := cm_inT (cm_t1 _ (List.mem_of_getElem? (i := 158) rfl)) rfl
theorem kl_RX5_18 : Cond.fieldLink RX5 18 "CellCycler$Programs" "firsts" "[I" ∈ cm_all := cm_inT (cm_t1 _ (List.mem_of_getElem? (i := 159) rfl)) rfl
theorem kl_RX5_21 : Cond.fieldLink RX5 21 "CellCycler$Programs" "seconds" "[I" ∈ cm_all := cm_inT (cm_t1 _ (List.mem_of_getElem? (i := 160) rfl)) rfl
theorem kl_RX9_32 : Cond.classLink RX9 32 RX1 ∈ cm_all := cm_inT (cm_t1 _ (List.mem_of_getElem? (i := 172) rfl)) rfl
theorem kao_RX1 : Cond.arrayOver (.object "CellCycler$Channel") ∈ cm_all := cm_inT (cm_t1 _ (List.mem_of_getElem? (i := 173) rfl)) rfl
theorem kn_RX1 : Cond.instantiable RX1 14 ∈ cm_all := cm_inT (cm_t1 _ (List.mem_of_getElem? (i := 174) rfl)) rfl
theorem kl_RX9_38 : Cond.methodLinkNest RX9 38 yX1_init "CellCycler" ∈ cm_all := cm_inT (cm_t1 _ (List.mem_of_getElem? (i := 175) rfl)) rfl
theorem kv_X1_init : Cond.instanceMethod yX1_init ∈ cm_all := cm_inT (cm_t1 _ (List.mem_of_getElem? (i := 176) rfl)) rfl
theorem kc_X1_init : Cond.code yX1_init cX1_init 2 none ∈ cm_all := cm_inT (cm_t1 _ (List.mem_of_getElem? (i := 177) rfl)) rfl
theorem kl_RX1_3 : Cond.methodLink RX1 3 ⟨"java/lang/Object", "<init>", "()V"⟩ ∈ cm_all := cm_inT (cm_t1 _ (List.mem_of_getElem? (i := 178) rfl)) rfl
theorem kl_RX1_15 : Cond.classLink RX1 15 RX0 ∈ cm_all := cm_inT (cm_t1 _ (List.mem_of_getElem? (i := 179) rfl)) rfl
theorem kn_RX0 : Cond.instantiable RX0 16 ∈ cm_all := cm_inT (cm_t1 _ (List.mem_of_getElem? (i := 180) rfl)) rfl
theorem kl_RX1_17 : Cond.methodLinkNest RX1 17 yX0_init "CellCycler" ∈ cm_all := cm_inT (cm_t1 _ (List.mem_of_getElem? (i := 181) rfl)) rfl
theorem kv_X0_init : Cond.instanceMethod yX0_init ∈ cm_all := cm_inT (cm_t1 _ (List.mem_of_getElem? (i := 182) rfl)) rfl
theorem kc_X0_init : Cond.code yX0_init cX0_init 1 none ∈ cm_all := cm_inT (cm_t1 _ (List.mem_of_getElem? (i := 183) rfl)) rfl
theorem kl_RX0_3 : Cond.methodLink RX0 3 ⟨"java/lang/Object", "<init>", "()V"⟩ ∈ cm_all := cm_inT (cm_t1 _ (List.mem_of_getElem? (i := 184) rfl)) rfl
theorem kl_RX0_15 : Cond.classLink RX0 15 RX3 ∈ cm_all := cm_inT (cm_t1 _ (List.mem_of_getElem? (i := 185) rfl)) rfl
theorem kn_RX3 : Cond.instantiable RX3 4 ∈ cm_all := cm_inT (cm_t1 _ (List.mem_of_getElem? (i := 186) rfl)) rfl
theorem kl_RX0_17 : Cond.methodLinkNest RX0 17 yX3_init "CellCycler" ∈ cm_all := cm_inT (cm_t1 _ (List.mem_of_getElem? (i := 187) rfl)) rfl
theorem kv_X3_init : Cond.instanceMethod yX3_init ∈ cm_all := cm_inT (cm_t1 _ (List.mem_of_getElem? (i := 188) rfl)) rfl
theorem kc_X3_init : Cond.code yX3_init cX3_init 1 none ∈ cm_all := cm_inT (cm_t1 _ (List.mem_of_getElem? (i := 189) rfl)) rfl
theorem kl_RX3_1 : Cond.methodLink RX3 1 ⟨"java/lang/Object", "<init>", "()V"⟩ ∈ cm_all := cm_inT (cm_t1 _ (List.mem_of_getElem? (i := 190) rfl)) rfl
theorem kl_RX3_7 : Cond.fieldLink RX3 7 "CellCycler$Ledger" "chargeIn" "J" ∈ cm_all := cm_inT (cm_t1 _ (List.mem_of_getElem? (i := 191) rfl)) rfl
theorem kl_RX1_114 : Cond.fieldLinkNest RX1 114 "CellCycler$Ledger" "chargeIn" "J" "CellCycler" ∈ cm_all := cm_inT (cm_t1 _ (List.mem_of_getElem? (i := 192) rfl)) rfl
theorem kl_RX0_140 : Cond.fieldLinkNest RX0 140 "CellCycler$Ledger" "chargeIn" "J" "CellCycler" ∈ cm_all := cm_inT (cm_t1 _ (List.mem_of_getElem? (i := 193) rfl)) rfl
theorem kl_RX10_244 : Cond.fieldLinkNest RX10 244 "CellCycler$Ledger" "chargeIn" "J" "CellCycler" ∈ cm_all := cm_inT (cm_t1 _ (List.mem_of_getElem? (i := 194) rfl)) rfl
theorem kl_RX3_13 : Cond.fieldLink RX3 13 "CellCycler$Ledger" "chargeOut" "J" ∈ cm_all := cm_inT (cm_t1 _ (List.mem_of_getElem? (i := 195) rfl)) rfl
theorem kl_RX1_119 : Cond.fieldLinkNest RX1 119 "CellCycler$Ledger" "chargeOut" "J" "CellCycler" ∈ cm_all := cm_inT (cm_t1 _ (List.mem_of_getElem? (i := 196) rfl)) rfl
theorem kl_RX0_148 : Cond.fieldLinkNest RX0 148 "CellCycler$Ledger" "chargeOut" "J" "CellCycler" ∈ cm_all := cm_inT (cm_t1 _ (List.mem_of_getElem? (i := 197) rfl)) rfl
theorem kl_RX10_250 : Cond.fieldLinkNest RX10 250 "CellCycler$Ledger" "chargeOut" "J" "CellCycler" ∈ cm_all := cm_inT (cm_t1 _ (List.mem_of_getElem? (i := 198) rfl)) rfl
theorem kl_RX3_16 : Cond.fieldLink RX3 16 "CellCycler$Ledger" "energyIn" "J" ∈ cm_all := cm_inT (cm_t1 _ (List.mem_of_getElem? (i := 199) rfl)) rfl
theorem kl_RX0_122 : Cond.fieldLinkNest RX0 122 "CellCycler$Ledger" "energyIn" "J" "CellCycler" ∈ cm_all := cm_inT (cm_t1 _ (List.mem_of_getElem? (i := 200) rfl)) rfl
theorem kl_RX10_256 : Cond.fieldLinkNest RX10 256 "CellCycler$Ledger" "energyIn" "J" "CellCycler" ∈ cm_all := cm_inT (cm_t1 _ (List.mem_of_getElem? (i := 201) rfl)) rfl
theorem kl_RX3_19 : Cond.fieldLink RX3 19 "CellCycler$Ledger" "energyOut" "J" ∈ cm_all := cm_inT (cm_t1 _ (List.mem_of_getElem? (i := 202) rfl)) rfl
theorem kl_RX0_126 : Cond.fieldLinkNest RX0 126 "CellCycler$Ledger" "energyOut" "J" "CellCycler" ∈ cm_all := cm_inT (cm_t1 _ (List.mem_of_getElem? (i := 203) rfl)) rfl
theorem kl_RX10_259 : Cond.fieldLinkNest RX10 259 "CellCycler$Ledger" "energyOut" "J" "CellCycler" ∈ cm_all := cm_inT (cm_t1 _ (List.mem_of_getElem? (i := 204) rfl)) rfl
theorem kl_RX0_9 : Cond.fieldLink RX0 9 "CellCycler$Cell" "curve" "[I" ∈ cm_all := cm_inT (cm_t1 _ (List.mem_of_getElem? (i := 214) rfl)) rfl
theorem kl_RX0_31 : Cond.fieldLink RX0 31 "CellCycler$Cell" "points" "I" ∈ cm_all := cm_inT (cm_t1 _ (List.mem_of_getElem? (i := 215) rfl)) rfl
theorem kl_RX0_48 : Cond.fieldLink RX0 48 "CellCycler$Cell" "nominal" "I" ∈ cm_all := cm_inT (cm_t1 _ (List.mem_of_getElem? (i := 216) rfl)) rfl
theorem kl_RX9_79 : Cond.fieldLinkNest RX9 79 "CellCycler$Cell" "nominal" "I" "CellCycler" ∈ cm_all := cm_inT (cm_t1 _ (List.mem_of_getElem? (i := 217) rfl)) rfl
theorem kl_RX6_181 : Cond.fieldLinkNest RX6 181 "CellCycler$Cell" "nominal" "I" "CellCycler" ∈ cm_all := cm_inT (cm_t1 _ (List.mem_of_getElem? (i := 218) rfl)) rfl
theorem kl_RX10_197 : Cond.fieldLinkNest RX10 197 "CellCycler$Cell" "nominal" "I" "CellCycler" ∈ cm_all := cm_inT (cm_t1 _ (List.mem_of_getElem? (i := 219) rfl)) rfl
theorem kl_RX6_184 : Cond.fieldLinkNest RX6 184 "CellCycler$Cell" "ohms" "I" "CellCycler" ∈ cm_all := cm_inT (cm_t1 _ (List.mem_of_getElem? (i := 220) rfl)) rfl
theorem kl_RX0_90 : Cond.fieldLink RX0 90 "CellCycler$Cell" "ohms" "I" ∈ cm_all := cm_inT (cm_t1 _ (List.mem_of_getElem? (i := 221) rfl)) rfl
theorem kl_RX6_187 : Cond.fieldLinkNest RX6 187 "CellCycler$Cell" "polar" "I" "CellCycler" ∈ cm_all := cm_inT (cm_t1 _ (List.mem_of_getElem? (i := 222) rfl)) rfl
theorem kl_RX0_129 : Cond.fieldLink RX0 129 "CellCycler$Cell" "polar" "I" ∈ cm_all := cm_inT (cm_t1 _ (List.mem_of_getElem? (i := 223) rfl)) rfl
theorem kl_RX6_190 : Cond.fieldLinkNest RX6 190 "CellCycler$Cell" "tau" "I" "CellCycler" ∈ cm_all := cm_inT (cm_t1 _ (List.mem_of_getElem? (i := 224) rfl)) rfl
theorem kl_RX0_132 : Cond.fieldLink RX0 132 "CellCycler$Cell" "tau" "I" ∈ cm_all := cm_inT (cm_t1 _ (List.mem_of_getElem? (i := 225) rfl)) rfl
theorem kl_RX0_42 : Cond.fieldLink RX0 42 "CellCycler$Cell" "charge" "I" ∈ cm_all := cm_inT (cm_t1 _ (List.mem_of_getElem? (i := 226) rfl)) rfl
theorem kl_RX1_82 : Cond.fieldLinkNest RX1 82 "CellCycler$Cell" "charge" "I" "CellCycler" ∈ cm_all := cm_inT (cm_t1 _ (List.mem_of_getElem? (i := 227) rfl)) rfl
theorem kl_RX10_200 : Cond.fieldLinkNest RX10 200 "CellCycler$Cell" "charge" "I" "CellCycler" ∈ cm_all := cm_inT (cm_t1 _ (List.mem_of_getElem? (i := 228) rfl)) rfl
theorem kl_RX0_45 : Cond.fieldLink RX0 45 "CellCycler$Cell" "leftOver" "I" ∈ cm_all := cm_inT (cm_t1 _ (List.mem_of_getElem? (i := 229) rfl)) rfl
theorem kl_RX0_51 : Cond.fieldLink RX0 51 "CellCycler$Cell" "capacity" "I" ∈ cm_all := cm_inT (cm_t1 _ (List.mem_of_getElem? (i := 230) rfl)) rfl
theorem kl_RX1_85 : Cond.fieldLinkNest RX1 85 "CellCycler$Cell" "capacity" "I" "CellCycler" ∈ cm_all := cm_inT (cm_t1 _ (List.mem_of_getElem? (i := 231) rfl)) rfl
theorem kl_RX10_294 : Cond.fieldLinkNest RX10 294 "CellCycler$Cell" "capacity" "I" "CellCycler" ∈ cm_all := cm_inT (cm_t1 _ (List.mem_of_getElem? (i := 232) rfl)) rfl
theorem kl_RX0_54 : Cond.fieldLink RX0 54 "CellCycler$Cell" "through" "I" ∈ cm_all := cm_inT (cm_t1 _ (List.mem_of_getElem? (i := 233) rfl)) rfl
theorem kl_RX10_253 : Cond.fieldLinkNest RX10 253 "CellCycler$Cell" "through" "I" "CellCycler" ∈ cm_all := cm_inT (cm_t1 _ (List.mem_of_getElem? (i := 234) rfl)) rfl
theorem kl_RX0_57 : Cond.fieldLink RX0 57 "CellCycler$Cell" "polarization" "I" ∈ cm_all := cm_inT (cm_t1 _ (List.mem_of_getElem? (i := 235) rfl)) rfl
theorem kl_RX1_88 : Cond.fieldLinkNest RX1 88 "CellCycler$Cell" "polarization" "I" "CellCycler" ∈ cm_all := cm_inT (cm_t1 _ (List.mem_of_getElem? (i := 236) rfl)) rfl
theorem kl_RX10_333 : Cond.fieldLinkNest RX10 333 "CellCycler$Cell" "polarization" "I" "CellCycler" ∈ cm_all := cm_inT (cm_t1 _ (List.mem_of_getElem? (i := 237) rfl)) rfl
theorem kl_RX0_60 : Cond.fieldLink RX0 60 "CellCycler$Cell" "temperature" "I" ∈ cm_all := cm_inT (cm_t1 _ (List.mem_of_getElem? (i := 238) rfl)) rfl
theorem kl_RX1_91 : Cond.fieldLinkNest RX1 91 "CellCycler$Cell" "temperature" "I" "CellCycler" ∈ cm_all := cm_inT (cm_t1 _ (List.mem_of_getElem? (i := 239) rfl)) rfl
theorem kl_RX10_299 : Cond.fieldLinkNest RX10 299 "CellCycler$Cell" "temperature" "I" "CellCycler" ∈ cm_all := cm_inT (cm_t2 _ (List.mem_of_getElem? (i := 0) rfl)) rfl
theorem kl_RX0_63 : Cond.fieldLink RX0 63 "CellCycler$Cell" "heat" "I" ∈ cm_all := cm_inT (cm_t2 _ (List.mem_of_getElem? (i := 1) rfl)) rfl
theorem kl_RX0_66 : Cond.fieldLink RX0 66 "CellCycler$Cell" "current" "I" ∈ cm_all := cm_inT (cm_t2 _ (List.mem_of_getElem? (i := 2) rfl)) rfl
theorem kl_RX1_76 : Cond.fieldLinkNest RX1 76 "CellCycler$Cell" "current" "I" "CellCycler" ∈ cm_all := cm_inT (cm_t2 _ (List.mem_of_getElem? (i := 3) rfl)) rfl
theorem kl_RX10_262 : Cond.fieldLinkNest RX10 262 "CellCycler$Cell" "current" "I" "CellCycler" ∈ cm_all := cm_inT (cm_t2 _ (List.mem_of_getElem? (i := 4) rfl)) rfl
theorem kl_RX0_69 : Cond.fieldLink RX0 69 "CellCycler$Cell" "voltage" "I" ∈ cm_all := cm_inT (cm_t2 _ (List.mem_of_getElem? (i := 5) rfl)) rfl
theorem kl_RX1_79 : Cond.fieldLinkNest RX1 79 "CellCycler$Cell" "voltage" "I" "CellCycler" ∈ cm_all := cm_inT (cm_t2 _ (List.mem_of_getElem? (i := 6) rfl)) rfl
theorem kl_RX10_138 : Cond.fieldLinkNest RX10 138 "CellCycler$Cell" "voltage" "I" "CellCycler" ∈ cm_all := cm_inT (cm_t2 _ (List.mem_of_getElem? (i := 7) rfl)) rfl
theorem kl_RX0_18 : Cond.fieldLink RX0 18 "CellCycler$Cell" "books" "LCellCycler$Ledger;" ∈ cm_all := cm_inT (cm_t2 _ (List.mem_of_getElem? (i := 8) rfl)) rfl
theorem kl_RX1_110 : Cond.fieldLinkNest RX1 110 "CellCycler$Cell" "books" "LCellCycler$Ledger;" "CellCycler" ∈ cm_all := cm_inT (cm_t2 _ (List.mem_of_getElem? (i := 9) rfl)) rfl
theorem kl_RX10_240 : Cond.fieldLinkNest RX10 240 "CellCycler$Cell" "books" "LCellCycler$Ledger;" "CellCycler" ∈ cm_all := cm_inT (cm_t2 _ (List.mem_of_getElem? (i := 10) rfl)) rfl
theorem kl_RX1_22 : Cond.classLink RX1 22 RX4 ∈ cm_all := cm_inT (cm_t2 _ (List.mem_of_getElem? (i := 44) rfl)) rfl
theorem kn_RX4 : Cond.instantiable RX4 7 ∈ cm_all := cm_inT (cm_t2 _ (List.mem_of_getElem? (i := 45) rfl)) rfl
theorem kl_RX1_24 : Cond.methodLinkNest RX1 24 yX4_init "CellCycler" ∈ cm_all := cm_inT (cm_t2 _ (List.mem_of_getElem? (i := 46) rfl)) rfl
theorem kv_X4_init : Cond.instanceMethod yX4_init ∈ cm_all := cm_inT (cm_t2 _ (List.mem_of_getElem? (i := 47) rfl)) rfl
theorem kc_X4_init : Cond.code yX4_init cX4_init 1 none ∈ cm_all := cm_inT (cm_t2 _ (List.mem_of_getElem? (i := 48) rfl)) rfl
theorem kl_RX4_3 : Cond.methodLink RX4 3 ⟨"java/lang/Object", "<init>", "()V"⟩ ∈ cm_all := cm_inT (cm_t2 _ (List.mem_of_getElem? (i := 49) rfl)) rfl
theorem kl_RX4_15 : Cond.fieldLink RX4 15 "CellCycler$Meter" "rest" "I" ∈ cm_all := cm_inT (cm_t2 _ (List.mem_of_getElem? (i := 50) rfl)) rfl
theorem kl_RX1_237 : Cond.fieldLinkNest RX1 237 "CellCycler$Meter" "rest" "I" "CellCycler" ∈ cm_all := cm_inT (cm_t2 _ (List.mem_of_getElem? (i := 51) rfl)) rfl
theorem kl_RX10_271 : Cond.fieldLinkNest RX10 271 "CellCycler$Meter" "rest" "I" "CellCycler" ∈ cm_all := cm_inT (cm_t2 _ (List.mem_of_getElem? (i := 52) rfl)) rfl
theorem kl_RX4_19 : Cond.fieldLink RX4 19 "CellCycler$Meter" "capacity" "I" ∈ cm_all := cm_inT (cm_t2 _ (List.mem_of_getElem? (i := 53) rfl)) rfl
theorem kl_RX1_261 : Cond.fieldLinkNest RX1 261 "CellCycler$Meter" "capacity" "I" "CellCycler" ∈ cm_all := cm_inT (cm_t2 _ (List.mem_of_getElem? (i := 54) rfl)) rfl
theorem kl_RX10_276 : Cond.fieldLinkNest RX10 276 "CellCycler$Meter" "capacity" "I" "CellCycler" ∈ cm_all := cm_inT (cm_t2 _ (List.mem_of_getElem? (i := 55) rfl)) rfl
theorem kl_RX4_22 : Cond.fieldLink RX4 22 "CellCycler$Meter" "resistance" "I" ∈ cm_all := cm_inT (cm_t2 _ (List.mem_of_getElem? (i := 56) rfl)) rfl
theorem kl_RX1_168 : Cond.fieldLinkNest RX1 168 "CellCycler$Meter" "resistance" "I" "CellCycler" ∈ cm_all := cm_inT (cm_t2 _ (List.mem_of_getElem? (i := 57) rfl)) rfl
theorem kl_RX10_279 : Cond.fieldLinkNest RX10 279 "CellCycler$Meter" "resistance" "I" "CellCycler" ∈ cm_all := cm_inT (cm_t2 _ (List.mem_of_getElem? (i := 58) rfl)) rfl
theorem kl_RX4_25 : Cond.fieldLink RX4 25 "CellCycler$Meter" "tripReason" "I" ∈ cm_all := cm_inT (cm_t2 _ (List.mem_of_getElem? (i := 59) rfl)) rfl
theorem kl_RX1_94 : Cond.fieldLinkNest RX1 94 "CellCycler$Meter" "tripReason" "I" "CellCycler" ∈ cm_all := cm_inT (cm_t2 _ (List.mem_of_getElem? (i := 60) rfl)) rfl
theorem kl_RX4_28 : Cond.fieldLink RX4 28 "CellCycler$Meter" "warnedFor" "I" ∈ cm_all := cm_inT (cm_t2 _ (List.mem_of_getElem? (i := 61) rfl)) rfl
theorem kl_RX1_159 : Cond.fieldLinkNest RX1 159 "CellCycler$Meter" "warnedFor" "I" "CellCycler" ∈ cm_all := cm_inT (cm_t2 _ (List.mem_of_getElem? (i := 62) rfl)) rfl
theorem kl_RX10_288 : Cond.fieldLinkNest RX10 288 "CellCycler$Meter" "warnedFor" "I" "CellCycler" ∈ cm_all := cm_inT (cm_t2 _ (List.mem_of_getElem? (i := 63) rfl)) rfl
theorem kl_RX4_31 : Cond.fieldLink RX4 31 "CellCycler$Meter" "warningCount" "I" ∈ cm_all := cm_inT (cm_t2 _ (List.mem_of_getElem? (i := 64) rfl)) rfl
theorem kl_RX1_219 : Cond.fieldLinkNest RX1 219 "CellCycler$Meter" "warningCount" "I" "CellCycler" ∈ cm_all := cm_inT (cm_t2 _ (List.mem_of_getElem? (i := 65) rfl)) rfl
theorem kl_RX10_285 : Cond.fieldLinkNest RX10 285 "CellCycler$Meter" "warningCount" "I" "CellCycler" ∈ cm_all := cm_inT (cm_t2 _ (List.mem_of_getElem? (i := 66) rfl)) rfl
theorem kl_RX4_9 : Cond.fieldLink RX4 9 "CellCycler$Meter" "bands" "[I" ∈ cm_all := cm_inT (cm_t2 _ (List.mem_of_getElem? (i := 67) rfl)) rfl
theorem kl_RX10_282 : Cond.fieldLinkNest RX10 282 "CellCycler$Meter" "bands" "[I" "CellCycler" ∈ cm_all := cm_inT (cm_t2 _ (List.mem_of_getElem? (i := 68) rfl)) rfl
theorem kl_RX1_9 : Cond.fieldLink RX1 9 "CellCycler$Channel" "index" "I" ∈ cm_all := cm_inT (cm_t2 _ (List.mem_of_getElem? (i := 84) rfl)) rfl
theorem kl_RX1_18 : Cond.fieldLink RX1 18 "CellCycler$Channel" "cell" "LCellCycler$Cell;" ∈ cm_all := cm_inT (cm_t2 _ (List.mem_of_getElem? (i := 85) rfl)) rfl
theorem kl_RX9_75 : Cond.fieldLinkNest RX9 75 "CellCycler$Channel" "cell" "LCellCycler$Cell;" "CellCycler" ∈ cm_all := cm_inT (cm_t2 _ (List.mem_of_getElem? (i := 86) rfl)) rfl
theorem kl_RX6_169 : Cond.fieldLinkNest RX6 169 "CellCycler$Channel" "cell" "LCellCycler$Cell;" "CellCycler" ∈ cm_all := cm_inT (cm_t2 _ (List.mem_of_getElem? (i := 87) rfl)) rfl
theorem kl_RX10_134 : Cond.fieldLinkNest RX10 134 "CellCycler$Channel" "cell" "LCellCycler$Cell;" "CellCycler" ∈ cm_all := cm_inT (cm_t2 _ (List.mem_of_getElem? (i := 88) rfl)) rfl
theorem kl_RX1_25 : Cond.fieldLink RX1 25 "CellCycler$Channel" "meter" "LCellCycler$Meter;" ∈ cm_all := cm_inT (cm_t2 _ (List.mem_of_getElem? (i := 89) rfl)) rfl
theorem kl_RX10_267 : Cond.fieldLinkNest RX10 267 "CellCycler$Channel" "meter" "LCellCycler$Meter;" "CellCycler" ∈ cm_all := cm_inT (cm_t2 _ (List.mem_of_getElem? (i := 90) rfl)) rfl
theorem kl_RX1_43 : Cond.fieldLink RX1 43 "CellCycler$Channel" "state" "I" ∈ cm_all := cm_inT (cm_t2 _ (List.mem_of_getElem? (i := 91) rfl)) rfl
theorem kl_RX9_72 : Cond.fieldLinkNest RX9 72 "CellCycler$Channel" "state" "I" "CellCycler" ∈ cm_all := cm_inT (cm_t2 _ (List.mem_of_getElem? (i := 92) rfl)) rfl
theorem kl_RX10_129 : Cond.fieldLinkNest RX10 129 "CellCycler$Channel" "state" "I" "CellCycler" ∈ cm_all := cm_inT (cm_t2 _ (List.mem_of_getElem? (i := 93) rfl)) rfl
theorem kl_RX1_46 : Cond.fieldLink RX1 46 "CellCycler$Channel" "program" "I" ∈ cm_all := cm_inT (cm_t2 _ (List.mem_of_getElem? (i := 94) rfl)) rfl
theorem kl_RX10_224 : Cond.fieldLinkNest RX10 224 "CellCycler$Channel" "program" "I" "CellCycler" ∈ cm_all := cm_inT (cm_t2 _ (List.mem_of_getElem? (i := 95) rfl)) rfl
theorem kl_RX1_49 : Cond.fieldLink RX1 49 "CellCycler$Channel" "step" "I" ∈ cm_all := cm_inT (cm_t2 _ (List.mem_of_getElem? (i := 96) rfl)) rfl
theorem kl_RX10_191 : Cond.fieldLinkNest RX10 191 "CellCycler$Channel" "step" "I" "CellCycler" ∈ cm_all := cm_inT (cm_t2 _ (List.mem_of_getElem? (i := 97) rfl)) rfl
theorem kl_RX1_52 : Cond.fieldLink RX1 52 "CellCycler$Channel" "lasted" "I" ∈ cm_all := cm_inT (cm_t2 _ (List.mem_of_getElem? (i := 98) rfl)) rfl
theorem kl_RX1_29 : Cond.fieldLink RX1 29 "CellCycler$Channel" "timesBack" "[I" ∈ cm_all := cm_inT (cm_t2 _ (List.mem_of_getElem? (i := 99) rfl)) rfl
theorem kl_RX10_291 : Cond.fieldLinkNest RX10 291 "CellCycler$Channel" "timesBack" "[I" "CellCycler" ∈ cm_all := cm_inT (cm_t2 _ (List.mem_of_getElem? (i := 100) rfl)) rfl
theorem kl_RX1_33 : Cond.fieldLink RX1 33 "CellCycler$Channel" "queue" "[I" ∈ cm_all := cm_inT (cm_t2 _ (List.mem_of_getElem? (i := 101) rfl)) rfl
theorem kl_RX10_213 : Cond.fieldLinkNest RX10 213 "CellCycler$Channel" "queue" "[I" "CellCycler" ∈ cm_all := cm_inT (cm_t2 _ (List.mem_of_getElem? (i := 102) rfl)) rfl
theorem kl_RX1_59 : Cond.fieldLink RX1 59 "CellCycler$Channel" "waiting" "I" ∈ cm_all := cm_inT (cm_t2 _ (List.mem_of_getElem? (i := 103) rfl)) rfl
theorem kl_RX10_210 : Cond.fieldLinkNest RX10 210 "CellCycler$Channel" "waiting" "I" "CellCycler" ∈ cm_all := cm_inT (cm_t2 _ (List.mem_of_getElem? (i := 104) rfl)) rfl
theorem kl_RX1_62 : Cond.fieldLink RX1 62 "CellCycler$Channel" "baseIn" "J" ∈ cm_all := cm_inT (cm_t2 _ (List.mem_of_getElem? (i := 105) rfl)) rfl
theorem kl_RX1_66 : Cond.fieldLink RX1 66 "CellCycler$Channel" "baseOut" "J" ∈ cm_all := cm_inT (cm_t2 _ (List.mem_of_getElem? (i := 106) rfl)) rfl
theorem kl_RX1_69 : Cond.fieldLink RX1 69 "CellCycler$Channel" "heldSince" "Z" ∈ cm_all := cm_inT (cm_t2 _ (List.mem_of_getElem? (i := 107) rfl)) rfl
theorem kl_RX1_73 : Cond.fieldLink RX1 73 "CellCycler$Channel" "stepBaseOut" "J" ∈ cm_all := cm_inT (cm_t2 _ (List.mem_of_getElem? (i := 108) rfl)) rfl
theorem kl_RX9_41 : Cond.classLink RX9 41 RX8 ∈ cm_all := cm_inT (cm_t2 _ (List.mem_of_getElem? (i := 138) rfl)) rfl
theorem kn_RX8 : Cond.instantiable RX8 5 ∈ cm_all := cm_inT (cm_t2 _ (List.mem_of_getElem? (i := 139) rfl)) rfl
theorem kl_RX9_43 : Cond.methodLinkNest RX9 43 yX8_init "CellCycler" ∈ cm_all := cm_inT (cm_t2 _ (List.mem_of_getElem? (i := 140) rfl)) rfl
theorem kv_X8_init : Cond.instanceMethod yX8_init ∈ cm_all := cm_inT (cm_t2 _ (List.mem_of_getElem? (i := 141) rfl)) rfl
theorem kc_X8_init : Cond.code yX8_init cX8_init 3 none ∈ cm_all := cm_inT (cm_t2 _ (List.mem_of_getElem? (i := 142) rfl)) rfl
theorem kl_RX8_1 : Cond.methodLink RX8 1 ⟨"java/lang/Object", "<init>", "()V"⟩ ∈ cm_all := cm_inT (cm_t2 _ (List.mem_of_getElem? (i := 143) rfl)) rfl
theorem kl_RX8_7 : Cond.methodLink RX8 7 yJ9_max_7cf53 ∈ cm_all := cm_inT (cm_t2 _ (List.mem_of_getElem? (i := 144) rfl)) rfl
theorem ks_J9_max_7cf53 : Cond.static yJ9_max_7cf53 ∈ cm_all := cm_inT (cm_t2 _ (List.mem_of_getElem? (i := 145) rfl)) rfl
theorem kl_RX8_13 : Cond.fieldLink RX8 13 "CellCycler$Table" "limit" "I" ∈ cm_all := cm_inT (cm_t2 _ (List.mem_of_getElem? (i := 147) rfl)) rfl
theorem kl_RX8_19 : Cond.fieldLink RX8 19 "CellCycler$Table" "width" "I" ∈ cm_all := cm_inT (cm_t2 _ (List.mem_of_getElem? (i := 148) rfl)) rfl
theorem kl_RX8_22 : Cond.fieldLink RX8 22 "CellCycler$Table" "numbers" "[I" ∈ cm_all := cm_inT (cm_t2 _ (List.mem_of_getElem? (i := 149) rfl)) rfl
theorem kl_RX9_100 : Cond.fieldLinkNest RX9 100 "CellCycler$Table" "numbers" "[I" "CellCycler" ∈ cm_all := cm_inT (cm_t2 _ (List.mem_of_getElem? (i := 150) rfl)) rfl
theorem kl_RX1_249 : Cond.fieldLinkNest RX1 249 "CellCycler$Table" "numbers" "[I" "CellCycler" ∈ cm_all := cm_inT (cm_t2 _ (List.mem_of_getElem? (i := 151) rfl)) rfl
theorem kl_RX8_26 : Cond.fieldLink RX8 26 "CellCycler$Table" "oldest" "I" ∈ cm_all := cm_inT (cm_t2 _ (List.mem_of_getElem? (i := 152) rfl)) rfl
theorem kl_RX8_29 : Cond.fieldLink RX8 29 "CellCycler$Table" "size" "I" ∈ cm_all := cm_inT (cm_t2 _ (List.mem_of_getElem? (i := 153) rfl)) rfl
theorem kl_RX9_93 : Cond.fieldLinkNest RX9 93 "CellCycler$Table" "size" "I" "CellCycler" ∈ cm_all := cm_inT (cm_t2 _ (List.mem_of_getElem? (i := 154) rfl)) rfl
theorem kl_RX1_252 : Cond.fieldLinkNest RX1 252 "CellCycler$Table" "size" "I" "CellCycler" ∈ cm_all := cm_inT (cm_t2 _ (List.mem_of_getElem? (i := 155) rfl)) rfl
theorem kl_RX10_306 : Cond.fieldLinkNest RX10 306 "CellCycler$Table" "size" "I" "CellCycler" ∈ cm_all := cm_inT (cm_t2 _ (List.mem_of_getElem? (i := 156) rfl)) rfl
theorem kl_RX9_53 : Cond.fieldLink RX9 53 "CellCycler$World" "time" "I" ∈ cm_all := cm_inT (cm_t2 _ (List.mem_of_getElem? (i := 168) rfl)) rfl
theorem kl_RX10_164 : Cond.fieldLinkNest RX10 164 "CellCycler$World" "time" "I" "CellCycler" ∈ cm_all := cm_inT (cm_t2 _ (List.mem_of_getElem? (i := 169) rfl)) rfl
theorem kl_RX1_258 : Cond.fieldLinkNest RX1 258 "CellCycler$World" "time" "I" "CellCycler" ∈ cm_all := cm_inT (cm_t2 _ (List.mem_of_getElem? (i := 170) rfl)) rfl
theorem kl_RX9_12 : Cond.fieldLink RX9 12 "CellCycler$World" "settings" "LCellCycler$Settings;" ∈ cm_all := cm_inT (cm_t2 _ (List.mem_of_getElem? (i := 171) rfl)) rfl
theorem kl_RX6_45 : Cond.fieldLinkNest RX6 45 "CellCycler$World" "settings" "LCellCycler$Settings;" "CellCycler" ∈ cm_all := cm_inT (cm_t2 _ (List.mem_of_getElem? (i := 172) rfl)) rfl
theorem kl_RX10_95 : Cond.fieldLinkNest RX10 95 "CellCycler$World" "settings" "LCellCycler$Settings;" "CellCycler" ∈ cm_all := cm_inT (cm_t2 _ (List.mem_of_getElem? (i := 173) rfl)) rfl
theorem kl_RX1_140 : Cond.fieldLinkNest RX1 140 "CellCycler$World" "settings" "LCellCycler$Settings;" "CellCycler" ∈ cm_all := cm_inT (cm_t2 _ (List.mem_of_getElem? (i := 174) rfl)) rfl
theorem kl_RX9_21 : Cond.fieldLink RX9 21 "CellCycler$World" "curves" "LCellCycler$Curves;" ∈ cm_all := cm_inT (cm_t2 _ (List.mem_of_getElem? (i := 175) rfl)) rfl
theorem kl_RX6_133 : Cond.fieldLinkNest RX6 133 "CellCycler$World" "curves" "LCellCycler$Curves;" "CellCycler" ∈ cm_all := cm_inT (cm_t2 _ (List.mem_of_getElem? (i := 176) rfl)) rfl
theorem kl_RX10_67 : Cond.fieldLinkNest RX10 67 "CellCycler$World" "curves" "LCellCycler$Curves;" "CellCycler" ∈ cm_all := cm_inT (cm_t2 _ (List.mem_of_getElem? (i := 177) rfl)) rfl
theorem kl_RX9_28 : Cond.fieldLink RX9 28 "CellCycler$World" "programs" "LCellCycler$Programs;" ∈ cm_all := cm_inT (cm_t2 _ (List.mem_of_getElem? (i := 178) rfl)) rfl
theorem kl_RX6_193 : Cond.fieldLinkNest RX6 193 "CellCycler$World" "programs" "LCellCycler$Programs;" "CellCycler" ∈ cm_all := cm_inT (cm_t2 _ (List.mem_of_getElem? (i := 179) rfl)) rfl
theorem kl_RX10_85 : Cond.fieldLinkNest RX10 85 "CellCycler$World" "programs" "LCellCycler$Programs;" "CellCycler" ∈ cm_all := cm_inT (cm_t2 _ (List.mem_of_getElem? (i := 180) rfl)) rfl
theorem kl_RX1_175 : Cond.fieldLinkNest RX1 175 "CellCycler$World" "programs" "LCellCycler$Programs;" "CellCycler" ∈ cm_all := cm_inT (cm_t2 _ (List.mem_of_getElem? (i := 181) rfl)) rfl
theorem kl_RX9_64 : Cond.fieldLink RX9 64 "CellCycler$World" "channelCount" "I" ∈ cm_all := cm_inT (cm_t2 _ (List.mem_of_getElem? (i := 182) rfl)) rfl
theorem kl_RX10_64 : Cond.fieldLinkNest RX10 64 "CellCycler$World" "channelCount" "I" "CellCycler" ∈ cm_all := cm_inT (cm_t2 _ (List.mem_of_getElem? (i := 183) rfl)) rfl
theorem kl_RX6_162 : Cond.fieldLinkNest RX6 162 "CellCycler$World" "channelCount" "I" "CellCycler" ∈ cm_all := cm_inT (cm_t2 _ (List.mem_of_getElem? (i := 184) rfl)) rfl
theorem kl_RX9_34 : Cond.fieldLink RX9 34 "CellCycler$World" "channels" "[LCellCycler$Channel;" ∈ cm_all := cm_inT (cm_t2 _ (List.mem_of_getElem? (i := 185) rfl)) rfl
theorem kl_RX9_46 : Cond.fieldLink RX9 46 "CellCycler$World" "records" "LCellCycler$Table;" ∈ cm_all := cm_inT (cm_t2 _ (List.mem_of_getElem? (i := 186) rfl)) rfl
theorem kl_RX1_240 : Cond.fieldLinkNest RX1 240 "CellCycler$World" "records" "LCellCycler$Table;" "CellCycler" ∈ cm_all := cm_inT (cm_t2 _ (List.mem_of_getElem? (i := 187) rfl)) rfl
theorem kl_RX10_302 : Cond.fieldLinkNest RX10 302 "CellCycler$World" "records" "LCellCycler$Table;" "CellCycler" ∈ cm_all := cm_inT (cm_t2 _ (List.mem_of_getElem? (i := 188) rfl)) rfl
theorem kl_RX9_50 : Cond.fieldLink RX9 50 "CellCycler$World" "log" "LCellCycler$Table;" ∈ cm_all := cm_inT (cm_t2 _ (List.mem_of_getElem? (i := 189) rfl)) rfl
theorem kl_RX10_318 : Cond.fieldLinkNest RX10 318 "CellCycler$World" "log" "LCellCycler$Table;" "CellCycler" ∈ cm_all := cm_inT (cm_t2 _ (List.mem_of_getElem? (i := 190) rfl)) rfl
theorem kao_RX9 : Cond.arrayOver (.object "CellCycler$World") ∈ cm_all := cm_inT (cm_t2 _ (List.mem_of_getElem? (i := 208) rfl)) rfl
theorem kl_RX10_10 : Cond.fieldLink RX10 10 "CellCycler" "world" "LCellCycler$World;" ∈ cm_all := cm_inT (cm_t2 _ (List.mem_of_getElem? (i := 209) rfl)) rfl
theorem kl_RX10_16 : Cond.fieldLink RX10 16 "CellCycler" "spare" "LCellCycler$World;" ∈ cm_all := cm_inT (cm_t2 _ (List.mem_of_getElem? (i := 210) rfl)) rfl
theorem kl_RX10_19 : Cond.fieldLink RX10 19 "CellCycler" "saved" "[LCellCycler$World;" ∈ cm_all := cm_inT (cm_t2 _ (List.mem_of_getElem? (i := 211) rfl)) rfl
theorem kl_RX10_23 : Cond.fieldLink RX10 23 "CellCycler" "buffer" "[I" ∈ cm_all := cm_inT (cm_t2 _ (List.mem_of_getElem? (i := 212) rfl)) rfl
theorem kl_RX10_27 : Cond.fieldLink RX10 27 "CellCycler" "bufferLength" "I" ∈ cm_all := cm_inT (cm_t2 _ (List.mem_of_getElem? (i := 213) rfl)) rfl
theorem kl_RX10_31 : Cond.fieldLink RX10 31 "CellCycler" "latestError" "I" ∈ cm_all := cm_inT (cm_t2 _ (List.mem_of_getElem? (i := 214) rfl)) rfl
theorem kl_RL_178 : Cond.methodLink RL 178 yX10_append ∈ cm_all := cm_inT (cm_t2 _ (List.mem_of_getElem? (i := 228) rfl)) rfl
theorem kv_X10_append : Cond.instanceMethod yX10_append ∈ cm_all := cm_inT (cm_t2 _ (List.mem_of_getElem? (i := 229) rfl)) rfl
theorem kx_X10_append : Cond.selects yX10_append.cls yX10_append yX10_append ∈ cm_all := cm_inT (cm_t2 _ (List.mem_of_getElem? (i := 230) rfl)) rfl
theorem kc_X10_append : Cond.code yX10_append cX10_append 6 (some .int) ∈ cm_all := cm_inT (cm_t2 _ (List.mem_of_getElem? (i := 231) rfl)) rfl
theorem kl_RX10_34 : Cond.constantLong RX10 34 (255) ∈ cm_all := cm_inT (cm_t2 _ (List.mem_of_getElem? (i := 232) rfl)) rfl
theorem kl_RX10_36 : Cond.methodLink RX10 36 yX10_put ∈ cm_all := cm_inT (cm_t2 _ (List.mem_of_getElem? (i := 233) rfl)) rfl
theorem ks_X10_put : Cond.static yX10_put ∈ cm_all := cm_inT (cm_t2 _ (List.mem_of_getElem? (i := 234) rfl)) rfl
theorem kc_X10_put : Cond.code yX10_put cX10_put 3 none ∈ cm_all := cm_inT (cm_t2 _ (List.mem_of_getElem? (i := 235) rfl)) rfl
theorem kl_RL_183 : Cond.methodLink RL 183 yX10_load ∈ cm_all := cm_inT (cm_t2 _ (List.mem_of_getElem? (i := 236) rfl)) rfl
theorem kv_X10_load : Cond.instanceMethod yX10_load ∈ cm_all := cm_inT (cm_t2 _ (List.mem_of_getElem? (i := 237) rfl)) rfl
theorem kx_X10_load : Cond.selects yX10_load.cls yX10_load yX10_load ∈ cm_all := cm_inT (cm_t2 _ (List.mem_of_getElem? (i := 238) rfl)) rfl
theorem kc_X10_load : Cond.code yX10_load cX10_load 2 (some .int) ∈ cm_all := cm_inT (cm_t2 _ (List.mem_of_getElem? (i := 239) rfl)) rfl
theorem kl_RX10_40 : Cond.methodLinkNest RX10 40 yX9_clear "CellCycler" ∈ cm_all := cm_inT (cm_t3 _ (List.mem_of_getElem? (i := 0) rfl)) rfl
theorem kv_X9_clear : Cond.instanceMethod yX9_clear ∈ cm_all := cm_inT (cm_t3 _ (List.mem_of_getElem? (i := 2) rfl)) rfl
theorem kc_X9_clear : Cond.code yX9_clear cX9_clear 1 none ∈ cm_all := cm_inT (cm_t3 _ (List.mem_of_getElem? (i := 3) rfl)) rfl
theorem kl_RX9_57 : Cond.methodLinkNest RX9 57 yX7_clear "CellCycler" ∈ cm_all := cm_inT (cm_t3 _ (List.mem_of_getElem? (i := 4) rfl)) rfl
theorem kl_RX9_67 : Cond.methodLinkNest RX9 67 yX8_clear "CellCycler" ∈ cm_all := cm_inT (cm_t3 _ (List.mem_of_getElem? (i := 5) rfl)) rfl
theorem kv_X8_clear : Cond.instanceMethod yX8_clear ∈ cm_all := cm_inT (cm_t3 _ (List.mem_of_getElem? (i := 7) rfl)) rfl
theorem kc_X8_clear : Cond.code yX8_clear cX8_clear 1 none ∈ cm_all := cm_inT (cm_t3 _ (List.mem_of_getElem? (i := 8) rfl)) rfl
theorem kl_RX10_43 : Cond.classLink RX10 43 RX6 ∈ cm_all := cm_inT (cm_t3 _ (List.mem_of_getElem? (i := 9) rfl)) rfl
theorem kn_RX6 : Cond.instantiable RX6 7 ∈ cm_all := cm_inT (cm_t3 _ (List.mem_of_getElem? (i := 10) rfl)) rfl
theorem kl_RX10_45 : Cond.methodLinkNest RX10 45 yX6_init "CellCycler" ∈ cm_all := cm_inT (cm_t3 _ (List.mem_of_getElem? (i := 11) rfl)) rfl
theorem kv_X6_init : Cond.instanceMethod yX6_init ∈ cm_all := cm_inT (cm_t3 _ (List.mem_of_getElem? (i := 12) rfl)) rfl
theorem kc_X6_init : Cond.code yX6_init cX6_init 4 none ∈ cm_all := cm_inT (cm_t3 _ (List.mem_of_getElem? (i := 13) rfl)) rfl
theorem kl_RX6_3 : Cond.methodLink RX6 3 ⟨"java/lang/Object", "<init>", "()V"⟩ ∈ cm_all := cm_inT (cm_t3 _ (List.mem_of_getElem? (i := 14) rfl)) rfl
theorem kl_RX6_9 : Cond.fieldLink RX6 9 "CellCycler$Reader" "text" "[I" ∈ cm_all := cm_inT (cm_t3 _ (List.mem_of_getElem? (i := 15) rfl)) rfl
theorem kl_RX6_15 : Cond.fieldLink RX6 15 "CellCycler$Reader" "length" "I" ∈ cm_all := cm_inT (cm_t3 _ (List.mem_of_getElem? (i := 16) rfl)) rfl
theorem kl_RX6_19 : Cond.fieldLink RX6 19 "CellCycler$Reader" "target" "LCellCycler$World;" ∈ cm_all := cm_inT (cm_t3 _ (List.mem_of_getElem? (i := 17) rfl)) rfl
theorem kl_RX6_65 : Cond.fieldLink RX6 65 "CellCycler$Reader" "place" "I" ∈ cm_all := cm_inT (cm_t3 _ (List.mem_of_getElem? (i := 18) rfl)) rfl
theorem kl_RX6_130 : Cond.fieldLink RX6 130 "CellCycler$Reader" "wordStart" "I" ∈ cm_all := cm_inT (cm_t3 _ (List.mem_of_getElem? (i := 19) rfl)) rfl
theorem kl_RX6_58 : Cond.fieldLink RX6 58 "CellCycler$Reader" "error" "I" ∈ cm_all := cm_inT (cm_t3 _ (List.mem_of_getElem? (i := 20) rfl)) rfl
theorem kl_RX10_51 : Cond.fieldLinkNest RX10 51 "CellCycler$Reader" "error" "I" "CellCycler" ∈ cm_all := cm_inT (cm_t3 _ (List.mem_of_getElem? (i := 21) rfl)) rfl
theorem kl_RX10_54 : Cond.fieldLinkNest RX10 54 "CellCycler$Reader" "errorPlace" "I" "CellCycler" ∈ cm_all := cm_inT (cm_t3 _ (List.mem_of_getElem? (i := 22) rfl)) rfl
theorem kl_RX6_236 : Cond.fieldLink RX6 236 "CellCycler$Reader" "errorPlace" "I" ∈ cm_all := cm_inT (cm_t3 _ (List.mem_of_getElem? (i := 23) rfl)) rfl
theorem kl_RX10_48 : Cond.methodLinkNest RX10 48 yX6_readText "CellCycler" ∈ cm_all := cm_inT (cm_t3 _ (List.mem_of_getElem? (i := 39) rfl)) rfl
theorem kv_X6_readText : Cond.instanceMethod yX6_readText ∈ cm_all := cm_inT (cm_t3 _ (List.mem_of_getElem? (i := 41) rfl)) rfl
theorem kc_X6_readText : Cond.code yX6_readText cX6_readText 2 none ∈ cm_all := cm_inT (cm_t3 _ (List.mem_of_getElem? (i := 42) rfl)) rfl
theorem kl_RX6_23 : Cond.methodLink RX6 23 yX6_readWord ∈ cm_all := cm_inT (cm_t3 _ (List.mem_of_getElem? (i := 43) rfl)) rfl
theorem kv_X6_readWord : Cond.instanceMethod yX6_readWord ∈ cm_all := cm_inT (cm_t3 _ (List.mem_of_getElem? (i := 45) rfl)) rfl
theorem kc_X6_readWord : Cond.code yX6_readWord cX6_readWord 1 none ∈ cm_all := cm_inT (cm_t3 _ (List.mem_of_getElem? (i := 46) rfl)) rfl
theorem kl_RX6_55 : Cond.methodLink RX6 55 yX6_skipSpaces ∈ cm_all := cm_inT (cm_t3 _ (List.mem_of_getElem? (i := 47) rfl)) rfl
theorem kv_X6_skipSpaces : Cond.instanceMethod yX6_skipSpaces ∈ cm_all := cm_inT (cm_t3 _ (List.mem_of_getElem? (i := 49) rfl)) rfl
theorem kc_X6_skipSpaces : Cond.code yX6_skipSpaces cX6_skipSpaces 1 none ∈ cm_all := cm_inT (cm_t3 _ (List.mem_of_getElem? (i := 50) rfl)) rfl
theorem kl_RX6_61 : Cond.methodLink RX6 61 yX6_next ∈ cm_all := cm_inT (cm_t3 _ (List.mem_of_getElem? (i := 51) rfl)) rfl
theorem kv_X6_next : Cond.instanceMethod yX6_next ∈ cm_all := cm_inT (cm_t3 _ (List.mem_of_getElem? (i := 53) rfl)) rfl
theorem kc_X6_next : Cond.code yX6_next cX6_next 1 (some .int) ∈ cm_all := cm_inT (cm_t3 _ (List.mem_of_getElem? (i := 54) rfl)) rfl
theorem kl_RX6_202 : Cond.methodLink RX6 202 yX6_isLetter ∈ cm_all := cm_inT (cm_t3 _ (List.mem_of_getElem? (i := 55) rfl)) rfl
theorem ks_X6_isLetter : Cond.static yX6_isLetter ∈ cm_all := cm_inT (cm_t3 _ (List.mem_of_getElem? (i := 56) rfl)) rfl
theorem kc_X6_isLetter : Cond.code yX6_isLetter cX6_isLetter 1 (some .boolean) ∈ cm_all := cm_inT (cm_t3 _ (List.mem_of_getElem? (i := 57) rfl)) rfl
theorem kl_RX6_68 : Cond.methodLink RX6 68 yX6_fail ∈ cm_all := cm_inT (cm_t3 _ (List.mem_of_getElem? (i := 58) rfl)) rfl
theorem kv_X6_fail : Cond.instanceMethod yX6_fail ∈ cm_all := cm_inT (cm_t3 _ (List.mem_of_getElem? (i := 60) rfl)) rfl
theorem kc_X6_fail : Cond.code yX6_fail cX6_fail 3 none ∈ cm_all := cm_inT (cm_t3 _ (List.mem_of_getElem? (i := 61) rfl)) rfl
theorem kl_RX6_28 : Cond.methodLink RX6 28 yX6_wordIs ∈ cm_all := cm_inT (cm_t3 _ (List.mem_of_getElem? (i := 63) rfl)) rfl
theorem kv_X6_wordIs : Cond.instanceMethod yX6_wordIs ∈ cm_all := cm_inT (cm_t3 _ (List.mem_of_getElem? (i := 65) rfl)) rfl
theorem kc_X6_wordIs : Cond.code yX6_wordIs cX6_wordIs 3 (some .boolean) ∈ cm_all := cm_inT (cm_t3 _ (List.mem_of_getElem? (i := 66) rfl)) rfl
theorem kl_RX6_223 : Cond.methodLink RX6 223 yJ0_length_8abf5 ∈ cm_all := cm_inT (cm_t3 _ (List.mem_of_getElem? (i := 67) rfl)) rfl
theorem kv_J0_length_8abf5 : Cond.instanceMethod yJ0_length_8abf5 ∈ cm_all := cm_inT (cm_t3 _ (List.mem_of_getElem? (i := 68) rfl)) rfl
theorem kx_J0_length_8abf5 : Cond.selects yJ0_length_8abf5.cls yJ0_length_8abf5 yJ0_length_8abf5 ∈ cm_all := cm_inT (cm_t3 _ (List.mem_of_getElem? (i := 69) rfl)) rfl
theorem kc_J0_length_8abf5 : Cond.code yJ0_length_8abf5 cJ0_length_8abf5 1 (some .int) ∈ cm_all := cm_inT (cm_t3 _ (List.mem_of_getElem? (i := 70) rfl)) rfl
theorem kl_RJ0_335 : Cond.methodLink RJ0 335 yJ0_coder_7d493 ∈ cm_all := cm_inT (cm_t3 _ (List.mem_of_getElem? (i := 71) rfl)) rfl
theorem kv_J0_coder_7d493 : Cond.instanceMethod yJ0_coder_7d493 ∈ cm_all := cm_inT (cm_t3 _ (List.mem_of_getElem? (i := 72) rfl)) rfl
theorem kx_J0_coder_7d493 : Cond.selects yJ0_coder_7d493.cls yJ0_coder_7d493 yJ0_coder_7d493 ∈ cm_all := cm_inT (cm_t3 _ (List.mem_of_getElem? (i := 73) rfl)) rfl
theorem kc_J0_coder_7d493 : Cond.code yJ0_coder_7d493 cJ0_coder_7d493 1 (some .byte) ∈ cm_all := cm_inT (cm_t3 _ (List.mem_of_getElem? (i := 74) rfl)) rfl
theorem kl_RJ0_38 : Cond.fieldLink RJ0 38 "java/lang/String" "COMPACT_STRINGS" "Z" ∈ cm_all := cm_inT (cm_t3 _ (List.mem_of_getElem? (i := 75) rfl)) rfl
theorem kl_RX6_227 : Cond.methodLinkNest RX6 227 yX10_at "CellCycler" ∈ cm_all := cm_inT (cm_t3 _ (List.mem_of_getElem? (i := 77) rfl)) rfl
theorem ks_X10_at : Cond.static yX10_at ∈ cm_all := cm_inT (cm_t3 _ (List.mem_of_getElem? (i := 78) rfl)) rfl
theorem kc_X10_at : Cond.code yX10_at cX10_at 2 (some .int) ∈ cm_all := cm_inT (cm_t3 _ (List.mem_of_getElem? (i := 79) rfl)) rfl
theorem kl_RX6_231 : Cond.methodLink RX6 231 yJ0_charAt_5068e ∈ cm_all := cm_inT (cm_t3 _ (List.mem_of_getElem? (i := 80) rfl)) rfl
theorem kv_J0_charAt_5068e : Cond.instanceMethod yJ0_charAt_5068e ∈ cm_all := cm_inT (cm_t3 _ (List.mem_of_getElem? (i := 81) rfl)) rfl
theorem kx_J0_charAt_5068e : Cond.selects yJ0_charAt_5068e.cls yJ0_charAt_5068e yJ0_charAt_5068e ∈ cm_all := cm_inT (cm_t3 _ (List.mem_of_getElem? (i := 82) rfl)) rfl
theorem kc_J0_charAt_5068e : Cond.code yJ0_charAt_5068e cJ0_charAt_5068e 2 (some .char) ∈ cm_all := cm_inT (cm_t3 _ (List.mem_of_getElem? (i := 83) rfl)) rfl
theorem kl_RJ0_492 : Cond.methodLink RJ0 492 yJ0_isLatin1_aae02 ∈ cm_all := cm_inT (cm_t3 _ (List.mem_of_getElem? (i := 84) rfl)) rfl
theorem kv_J0_isLatin1_aae02 : Cond.instanceMethod yJ0_isLatin1_aae02 ∈ cm_all := cm_inT (cm_t3 _ (List.mem_of_getElem? (i := 85) rfl)) rfl
theorem kx_J0_isLatin1_aae02 : Cond.selects yJ0_isLatin1_aae02.cls yJ0_isLatin1_aae02 yJ0_isLatin1_aae02 ∈ cm_all := cm_inT (cm_t3 _ (List.mem_of_getElem? (i := 86) rfl)) rfl
theorem kc_J0_isLatin1_aae02 : Cond.code yJ0_isLatin1_aae02 cJ0_isLatin1_aae02 1 (some .boolean) ∈ cm_all := cm_inT (cm_t3 _ (List.mem_of_getElem? (i := 87) rfl)) rfl
theorem kl_RJ0_495 : Cond.methodLink RJ0 495 yJ1_charAt_3b067 ∈ cm_all := cm_inT (cm_t3 _ (List.mem_of_getElem? (i := 88) rfl)) rfl
theorem ks_J1_charAt_3b067 : Cond.static yJ1_charAt_3b067 ∈ cm_all := cm_inT (cm_t3 _ (List.mem_of_getElem? (i := 89) rfl)) rfl
theorem kc_J1_charAt_3b067 : Cond.code yJ1_charAt_3b067 cJ1_charAt_3b067 2 (some .char) ∈ cm_all := cm_inT (cm_t3 _ (List.mem_of_getElem? (i := 90) rfl)) rfl
theorem kl_RJ1_9 : Cond.methodLink RJ1 9 yJ0_checkIndex_df160 ∈ cm_all := cm_inT (cm_t3 _ (List.mem_of_getElem? (i := 91) rfl)) rfl
theorem ks_J0_checkIndex_df160 : Cond.static yJ0_checkIndex_df160 ∈ cm_all := cm_inT (cm_t3 _ (List.mem_of_getElem? (i := 92) rfl)) rfl
theorem kc_J0_checkIndex_df160 : Cond.code yJ0_checkIndex_df160 cJ0_checkIndex_df160 2 none ∈ cm_all := cm_inT (cm_t3 _ (List.mem_of_getElem? (i := 93) rfl)) rfl
theorem kl_RJ0_1053 : Cond.fieldLink RJ0 1053 "jdk/internal/util/Preconditions" "SIOOBE_FORMATTER" "Ljava/util/function/BiFunction;" ∈ cm_all := cm_inT (cm_t3 _ (List.mem_of_getElem? (i := 94) rfl)) rfl
theorem kl_RJ0_1059 : Cond.methodLink RJ0 1059 yJ3_checkIndex_8e157 ∈ cm_all := cm_inT (cm_t3 _ (List.mem_of_getElem? (i := 96) rfl)) rfl
theorem ks_J3_checkIndex_8e157 : Cond.static yJ3_checkIndex_8e157 ∈ cm_all := cm_inT (cm_t3 _ (List.mem_of_getElem? (i := 97) rfl)) rfl
theorem kc_J3_checkIndex_8e157 : Cond.code yJ3_checkIndex_8e157 cJ3_checkIndex_8e157 3 (some .int) ∈ cm_all := cm_inT (cm_t3 _ (List.mem_of_getElem? (i := 98) rfl)) rfl
theorem kl_RX6_32 : Cond.methodLink RX6 32 yX6_readCurve ∈ cm_all := cm_inT (cm_t3 _ (List.mem_of_getElem? (i := 118) rfl)) rfl
theorem kv_X6_readCurve : Cond.instanceMethod yX6_readCurve ∈ cm_all := cm_inT (cm_t3 _ (List.mem_of_getElem? (i := 120) rfl)) rfl
theorem kc_X6_readCurve : Cond.code yX6_readCurve cX6_readCurve 6 none ∈ cm_all := cm_inT (cm_t3 _ (List.mem_of_getElem? (i := 121) rfl)) rfl
theorem kl_RX6_142 : Cond.methodLinkNest RX6 142 yX10_nameCode "CellCycler" ∈ cm_all := cm_inT (cm_t3 _ (List.mem_of_getElem? (i := 122) rfl)) rfl
theorem ks_X10_nameCode : Cond.static yX10_nameCode ∈ cm_all := cm_inT (cm_t3 _ (List.mem_of_getElem? (i := 123) rfl)) rfl
theorem kc_X10_nameCode : Cond.code yX10_nameCode cX10_nameCode 6 (some .long) ∈ cm_all := cm_inT (cm_t3 _ (List.mem_of_getElem? (i := 124) rfl)) rfl
theorem kl_RX10_377 : Cond.constantLong RX10 377 (256) ∈ cm_all := cm_inT (cm_t3 _ (List.mem_of_getElem? (i := 125) rfl)) rfl
theorem kl_RX10_216 : Cond.methodLink RX10 216 yX10_at ∈ cm_all := cm_inT (cm_t3 _ (List.mem_of_getElem? (i := 126) rfl)) rfl
theorem kl_RX6_146 : Cond.methodLinkNest RX6 146 yX2_find "CellCycler" ∈ cm_all := cm_inT (cm_t3 _ (List.mem_of_getElem? (i := 127) rfl)) rfl
theorem kv_X2_find : Cond.instanceMethod yX2_find ∈ cm_all := cm_inT (cm_t3 _ (List.mem_of_getElem? (i := 129) rfl)) rfl
theorem kc_X2_find : Cond.code yX2_find cX2_find 4 (some .int) ∈ cm_all := cm_inT (cm_t3 _ (List.mem_of_getElem? (i := 130) rfl)) rfl
theorem kl_RX6_150 : Cond.methodLinkNest RX6 150 yX2_add "CellCycler" ∈ cm_all := cm_inT (cm_t3 _ (List.mem_of_getElem? (i := 131) rfl)) rfl
theorem kv_X2_add : Cond.instanceMethod yX2_add ∈ cm_all := cm_inT (cm_t3 _ (List.mem_of_getElem? (i := 133) rfl)) rfl
theorem kc_X2_add : Cond.code yX2_add cX2_add 3 none ∈ cm_all := cm_inT (cm_t3 _ (List.mem_of_getElem? (i := 134) rfl)) rfl
theorem kl_RX2_26 : Cond.methodLinkNest RX2 26 yX10_put "CellCycler" ∈ cm_all := cm_inT (cm_t3 _ (List.mem_of_getElem? (i := 135) rfl)) rfl
theorem kl_RX6_154 : Cond.methodLink RX6 154 yX6_isDigit ∈ cm_all := cm_inT (cm_t3 _ (List.mem_of_getElem? (i := 136) rfl)) rfl
theorem ks_X6_isDigit : Cond.static yX6_isDigit ∈ cm_all := cm_inT (cm_t3 _ (List.mem_of_getElem? (i := 137) rfl)) rfl
theorem kc_X6_isDigit : Cond.code yX6_isDigit cX6_isDigit 1 (some .boolean) ∈ cm_all := cm_inT (cm_t3 _ (List.mem_of_getElem? (i := 138) rfl)) rfl
theorem kl_RX6_74 : Cond.methodLink RX6 74 yX6_readNumber ∈ cm_all := cm_inT (cm_t3 _ (List.mem_of_getElem? (i := 139) rfl)) rfl
theorem kv_X6_readNumber : Cond.instanceMethod yX6_readNumber ∈ cm_all := cm_inT (cm_t3 _ (List.mem_of_getElem? (i := 141) rfl)) rfl
theorem kc_X6_readNumber : Cond.code yX6_readNumber cX6_readNumber 5 (some .int) ∈ cm_all := cm_inT (cm_t3 _ (List.mem_of_getElem? (i := 142) rfl)) rfl
theorem kl_RX6_235 : Cond.constant RX6 235 (100000000) ∈ cm_all := cm_inT (cm_t3 _ (List.mem_of_getElem? (i := 143) rfl)) rfl
theorem kl_RX6_91 : Cond.methodLink RX6 91 yJ9_min_7cf53 ∈ cm_all := cm_inT (cm_t3 _ (List.mem_of_getElem? (i := 144) rfl)) rfl
theorem ks_J9_min_7cf53 : Cond.static yJ9_min_7cf53 ∈ cm_all := cm_inT (cm_t3 _ (List.mem_of_getElem? (i := 145) rfl)) rfl
theorem kl_RX6_158 : Cond.methodLinkNest RX6 158 yX2_addVoltageToLast "CellCycler" ∈ cm_all := cm_inT (cm_t3 _ (List.mem_of_getElem? (i := 147) rfl)) rfl
theorem kv_X2_addVoltageToLast : Cond.instanceMethod yX2_addVoltageToLast ∈ cm_all := cm_inT (cm_t3 _ (List.mem_of_getElem? (i := 149) rfl)) rfl
theorem kc_X2_addVoltageToLast : Cond.code yX2_addVoltageToLast cX2_addVoltageToLast 4 none ∈ cm_all := cm_inT (cm_t3 _ (List.mem_of_getElem? (i := 150) rfl)) rfl
theorem kl_RX2_30 : Cond.methodLinkNest RX2 30 yX10_at "CellCycler" ∈ cm_all := cm_inT (cm_t3 _ (List.mem_of_getElem? (i := 151) rfl)) rfl
theorem kl_RX6_37 : Cond.methodLink RX6 37 yX6_readCell ∈ cm_all := cm_inT (cm_t3 _ (List.mem_of_getElem? (i := 153) rfl)) rfl
theorem kv_X6_readCell : Cond.instanceMethod yX6_readCell ∈ cm_all := cm_inT (cm_t3 _ (List.mem_of_getElem? (i := 155) rfl)) rfl
theorem kc_X6_readCell : Cond.code yX6_readCell cX6_readCell 5 none ∈ cm_all := cm_inT (cm_t3 _ (List.mem_of_getElem? (i := 156) rfl)) rfl
theorem kl_RX6_165 : Cond.methodLinkNest RX6 165 yX9_channelAt "CellCycler" ∈ cm_all := cm_inT (cm_t3 _ (List.mem_of_getElem? (i := 157) rfl)) rfl
theorem kv_X9_channelAt : Cond.instanceMethod yX9_channelAt ∈ cm_all := cm_inT (cm_t3 _ (List.mem_of_getElem? (i := 159) rfl)) rfl
theorem kc_X9_channelAt : Cond.code yX9_channelAt cX9_channelAt 2 (some (.object "CellCycler$Channel")) ∈ cm_all := cm_inT (cm_t3 _ (List.mem_of_getElem? (i := 160) rfl)) rfl
theorem kl_RX6_174 : Cond.methodLinkNest RX6 174 yX0_takeCurve "CellCycler" ∈ cm_all := cm_inT (cm_t3 _ (List.mem_of_getElem? (i := 161) rfl)) rfl
theorem kv_X0_takeCurve : Cond.instanceMethod yX0_takeCurve ∈ cm_all := cm_inT (cm_t3 _ (List.mem_of_getElem? (i := 163) rfl)) rfl
theorem kc_X0_takeCurve : Cond.code yX0_takeCurve cX0_takeCurve 4 none ∈ cm_all := cm_inT (cm_t3 _ (List.mem_of_getElem? (i := 164) rfl)) rfl
theorem kl_RX0_27 : Cond.methodLinkNest RX0 27 yX10_at "CellCycler" ∈ cm_all := cm_inT (cm_t3 _ (List.mem_of_getElem? (i := 165) rfl)) rfl
theorem kl_RX0_34 : Cond.methodLinkNest RX0 34 yX2_voltageOf "CellCycler" ∈ cm_all := cm_inT (cm_t3 _ (List.mem_of_getElem? (i := 166) rfl)) rfl
theorem kv_X2_voltageOf : Cond.instanceMethod yX2_voltageOf ∈ cm_all := cm_inT (cm_t3 _ (List.mem_of_getElem? (i := 168) rfl)) rfl
theorem kc_X2_voltageOf : Cond.code yX2_voltageOf cX2_voltageOf 3 (some .int) ∈ cm_all := cm_inT (cm_t3 _ (List.mem_of_getElem? (i := 169) rfl)) rfl
theorem kl_RX0_38 : Cond.methodLinkNest RX0 38 yX10_put "CellCycler" ∈ cm_all := cm_inT (cm_t3 _ (List.mem_of_getElem? (i := 170) rfl)) rfl
theorem kl_RX6_180 : Cond.constant RX6 180 (100000) ∈ cm_all := cm_inT (cm_t3 _ (List.mem_of_getElem? (i := 171) rfl)) rfl
theorem kl_RX6_42 : Cond.methodLink RX6 42 yX6_readProgram ∈ cm_all := cm_inT (cm_t3 _ (List.mem_of_getElem? (i := 173) rfl)) rfl
theorem kv_X6_readProgram : Cond.instanceMethod yX6_readProgram ∈ cm_all := cm_inT (cm_t3 _ (List.mem_of_getElem? (i := 175) rfl)) rfl
theorem kc_X6_readProgram : Cond.code yX6_readProgram cX6_readProgram 3 none ∈ cm_all := cm_inT (cm_t3 _ (List.mem_of_getElem? (i := 176) rfl)) rfl
theorem kl_RX6_200 : Cond.methodLinkNest RX6 200 yX5_add "CellCycler" ∈ cm_all := cm_inT (cm_t3 _ (List.mem_of_getElem? (i := 177) rfl)) rfl
theorem kv_X5_add : Cond.instanceMethod yX5_add ∈ cm_all := cm_inT (cm_t3 _ (List.mem_of_getElem? (i := 179) rfl)) rfl
theorem kc_X5_add : Cond.code yX5_add cX5_add 1 none ∈ cm_all := cm_inT (cm_t3 _ (List.mem_of_getElem? (i := 180) rfl)) rfl
theorem kl_RX5_28 : Cond.methodLinkNest RX5 28 yX10_put "CellCycler" ∈ cm_all := cm_inT (cm_t3 _ (List.mem_of_getElem? (i := 181) rfl)) rfl
theorem kl_RX6_205 : Cond.methodLink RX6 205 yX6_readStep ∈ cm_all := cm_inT (cm_t3 _ (List.mem_of_getElem? (i := 182) rfl)) rfl
theorem kv_X6_readStep : Cond.instanceMethod yX6_readStep ∈ cm_all := cm_inT (cm_t3 _ (List.mem_of_getElem? (i := 184) rfl)) rfl
theorem kc_X6_readStep : Cond.code yX6_readStep cX6_readStep 4 none ∈ cm_all := cm_inT (cm_t3 _ (List.mem_of_getElem? (i := 185) rfl)) rfl
theorem kl_RX6_211 : Cond.methodLinkNest RX6 211 yX5_addStepToLast "CellCycler" ∈ cm_all := cm_inT (cm_t3 _ (List.mem_of_getElem? (i := 187) rfl)) rfl
theorem kv_X5_addStepToLast : Cond.instanceMethod yX5_addStepToLast ∈ cm_all := cm_inT (cm_t3 _ (List.mem_of_getElem? (i := 189) rfl)) rfl
theorem kc_X5_addStepToLast : Cond.code yX5_addStepToLast cX5_addStepToLast 6 none ∈ cm_all := cm_inT (cm_t3 _ (List.mem_of_getElem? (i := 190) rfl)) rfl
theorem kl_RX5_32 : Cond.methodLinkNest RX5 32 yX10_at "CellCycler" ∈ cm_all := cm_inT (cm_t3 _ (List.mem_of_getElem? (i := 191) rfl)) rfl
theorem kl_RX6_51 : Cond.methodLink RX6 51 yX6_readSetting ∈ cm_all := cm_inT (cm_t3 _ (List.mem_of_getElem? (i := 196) rfl)) rfl
theorem kv_X6_readSetting : Cond.instanceMethod yX6_readSetting ∈ cm_all := cm_inT (cm_t3 _ (List.mem_of_getElem? (i := 198) rfl)) rfl
theorem kc_X6_readSetting : Cond.code yX6_readSetting cX6_readSetting 2 none ∈ cm_all := cm_inT (cm_t3 _ (List.mem_of_getElem? (i := 199) rfl)) rfl
theorem kl_RX6_84 : Cond.constant RX6 84 (1000000) ∈ cm_all := cm_inT (cm_t3 _ (List.mem_of_getElem? (i := 202) rfl)) rfl
theorem kl_RX10_57 : Cond.methodLinkNest RX10 57 yX9_insertCells "CellCycler" ∈ cm_all := cm_inT (cm_t3 _ (List.mem_of_getElem? (i := 208) rfl)) rfl
theorem kv_X9_insertCells : Cond.instanceMethod yX9_insertCells ∈ cm_all := cm_inT (cm_t3 _ (List.mem_of_getElem? (i := 210) rfl)) rfl
theorem kc_X9_insertCells : Cond.code yX9_insertCells cX9_insertCells 3 none ∈ cm_all := cm_inT (cm_t3 _ (List.mem_of_getElem? (i := 211) rfl)) rfl
theorem kl_RX9_68 : Cond.methodLink RX9 68 yX9_channelAt ∈ cm_all := cm_inT (cm_t3 _ (List.mem_of_getElem? (i := 212) rfl)) rfl
theorem kl_RX9_87 : Cond.methodLinkNest RX9 87 yX1_insertCell "CellCycler" ∈ cm_all := cm_inT (cm_t3 _ (List.mem_of_getElem? (i := 213) rfl)) rfl
theorem kv_X1_insertCell : Cond.instanceMethod yX1_insertCell ∈ cm_all := cm_inT (cm_t3 _ (List.mem_of_getElem? (i := 215) rfl)) rfl
theorem kc_X1_insertCell : Cond.code yX1_insertCell cX1_insertCell 3 none ∈ cm_all := cm_inT (cm_t3 _ (List.mem_of_getElem? (i := 216) rfl)) rfl
theorem kl_RX1_36 : Cond.methodLinkNest RX1 36 yX0_renew "CellCycler" ∈ cm_all := cm_inT (cm_t3 _ (List.mem_of_getElem? (i := 217) rfl)) rfl
theorem kv_X0_renew : Cond.instanceMethod yX0_renew ∈ cm_all := cm_inT (cm_t3 _ (List.mem_of_getElem? (i := 219) rfl)) rfl
theorem kc_X0_renew : Cond.code yX0_renew cX0_renew 3 none ∈ cm_all := cm_inT (cm_t3 _ (List.mem_of_getElem? (i := 220) rfl)) rfl
theorem kl_RX0_72 : Cond.methodLinkNest RX0 72 yX3_clear "CellCycler" ∈ cm_all := cm_inT (cm_t3 _ (List.mem_of_getElem? (i := 221) rfl)) rfl
theorem kv_X3_clear : Cond.instanceMethod yX3_clear ∈ cm_all := cm_inT (cm_t3 _ (List.mem_of_getElem? (i := 223) rfl)) rfl
theorem kc_X3_clear : Cond.code yX3_clear cX3_clear 1 none ∈ cm_all := cm_inT (cm_t3 _ (List.mem_of_getElem? (i := 224) rfl)) rfl
theorem kl_RX1_40 : Cond.methodLinkNest RX1 40 yX4_clear "CellCycler" ∈ cm_all := cm_inT (cm_t3 _ (List.mem_of_getElem? (i := 225) rfl)) rfl
theorem kv_X4_clear : Cond.instanceMethod yX4_clear ∈ cm_all := cm_inT (cm_t3 _ (List.mem_of_getElem? (i := 227) rfl)) rfl
theorem kc_X4_clear : Cond.code yX4_clear cX4_clear 1 none ∈ cm_all := cm_inT (cm_t3 _ (List.mem_of_getElem? (i := 228) rfl)) rfl
theorem kl_RX4_34 : Cond.methodLinkNest RX4 34 yX10_clearRow "CellCycler" ∈ cm_all := cm_inT (cm_t3 _ (List.mem_of_getElem? (i := 229) rfl)) rfl
theorem ks_X10_clearRow : Cond.static yX10_clearRow ∈ cm_all := cm_inT (cm_t3 _ (List.mem_of_getElem? (i := 230) rfl)) rfl
theorem kc_X10_clearRow : Cond.code yX10_clearRow cX10_clearRow 2 none ∈ cm_all := cm_inT (cm_t3 _ (List.mem_of_getElem? (i := 231) rfl)) rfl
theorem kl_RX1_55 : Cond.methodLinkNest RX1 55 yX10_clearRow "CellCycler" ∈ cm_all := cm_inT (cm_t3 _ (List.mem_of_getElem? (i := 232) rfl)) rfl
theorem kl_RX10_60 : Cond.methodLinkNest RX10 60 yX9_copyFrom "CellCycler" ∈ cm_all := cm_inT (cm_t3 _ (List.mem_of_getElem? (i := 233) rfl)) rfl
theorem kv_X9_copyFrom : Cond.instanceMethod yX9_copyFrom ∈ cm_all := cm_inT (cm_t3 _ (List.mem_of_getElem? (i := 235) rfl)) rfl
theorem kc_X9_copyFrom : Cond.code yX9_copyFrom cX9_copyFrom 5 none ∈ cm_all := cm_inT (cm_t3 _ (List.mem_of_getElem? (i := 236) rfl)) rfl
theorem kl_RX9_112 : Cond.methodLinkNest RX9 112 yX7_copyFrom "CellCycler" ∈ cm_all := cm_inT (cm_t3 _ (List.mem_of_getElem? (i := 237) rfl)) rfl
theorem kv_X7_copyFrom : Cond.instanceMethod yX7_copyFrom ∈ cm_all := cm_inT (cm_t3 _ (List.mem_of_getElem? (i := 239) rfl)) rfl
theorem kc_X7_copyFrom : Cond.code yX7_copyFrom cX7_copyFrom 2 none ∈ cm_all := cm_inT (cm_t4 _ (List.mem_of_getElem? (i := 0) rfl)) rfl
theorem kl_RX9_116 : Cond.methodLinkNest RX9 116 yX2_copyFrom "CellCycler" ∈ cm_all := cm_inT (cm_t4 _ (List.mem_of_getElem? (i := 1) rfl)) rfl
theorem kv_X2_copyFrom : Cond.instanceMethod yX2_copyFrom ∈ cm_all := cm_inT (cm_t4 _ (List.mem_of_getElem? (i := 3) rfl)) rfl
theorem kc_X2_copyFrom : Cond.code yX2_copyFrom cX2_copyFrom 2 none ∈ cm_all := cm_inT (cm_t4 _ (List.mem_of_getElem? (i := 4) rfl)) rfl
theorem kl_RX2_34 : Cond.methodLink RX2 34 yJ9_min_7cf53 ∈ cm_all := cm_inT (cm_t4 _ (List.mem_of_getElem? (i := 5) rfl)) rfl
theorem kl_RX2_40 : Cond.methodLink RX2 40 ⟨"java/lang/System", "arraycopy", "(Ljava/lang/Object;ILjava/lang/Object;II)V"⟩ ∈ cm_all := cm_inT (cm_t4 _ (List.mem_of_getElem? (i := 6) rfl)) rfl
theorem ks_java_lang_System_arraycopy : Cond.static ⟨"java/lang/System", "arraycopy", "(Ljava/lang/Object;ILjava/lang/Object;II)V"⟩ ∈ cm_all := cm_inT (cm_t4 _ (List.mem_of_getElem? (i := 7) rfl)) rfl
theorem kna_java_lang_System_arraycopy : Cond.native ⟨"java/lang/System", "arraycopy", "(Ljava/lang/Object;ILjava/lang/Object;II)V"⟩ ∈ cm_all := cm_inT (cm_t4 _ (List.mem_of_getElem? (i := 8) rfl)) rfl
theorem kl_RX2_46 : Cond.methodLinkNest RX2 46 yX10_copyRow "CellCycler" ∈ cm_all := cm_inT (cm_t4 _ (List.mem_of_getElem? (i := 9) rfl)) rfl
theorem ks_X10_copyRow : Cond.static yX10_copyRow ∈ cm_all := cm_inT (cm_t4 _ (List.mem_of_getElem? (i := 10) rfl)) rfl
theorem kc_X10_copyRow : Cond.code yX10_copyRow cX10_copyRow 2 none ∈ cm_all := cm_inT (cm_t4 _ (List.mem_of_getElem? (i := 11) rfl)) rfl
theorem kl_RX10_368 : Cond.methodLink RX10 368 yJ9_min_7cf53 ∈ cm_all := cm_inT (cm_t4 _ (List.mem_of_getElem? (i := 12) rfl)) rfl
theorem kl_RX10_371 : Cond.methodLink RX10 371 ⟨"java/lang/System", "arraycopy", "(Ljava/lang/Object;ILjava/lang/Object;II)V"⟩ ∈ cm_all := cm_inT (cm_t4 _ (List.mem_of_getElem? (i := 13) rfl)) rfl
theorem kl_RX9_119 : Cond.methodLinkNest RX9 119 yX5_copyFrom "CellCycler" ∈ cm_all := cm_inT (cm_t4 _ (List.mem_of_getElem? (i := 14) rfl)) rfl
theorem kv_X5_copyFrom : Cond.instanceMethod yX5_copyFrom ∈ cm_all := cm_inT (cm_t4 _ (List.mem_of_getElem? (i := 16) rfl)) rfl
theorem kc_X5_copyFrom : Cond.code yX5_copyFrom cX5_copyFrom 2 none ∈ cm_all := cm_inT (cm_t4 _ (List.mem_of_getElem? (i := 17) rfl)) rfl
theorem kl_RX5_36 : Cond.methodLinkNest RX5 36 yX10_copyRow "CellCycler" ∈ cm_all := cm_inT (cm_t4 _ (List.mem_of_getElem? (i := 18) rfl)) rfl
theorem kl_RX9_122 : Cond.methodLinkNest RX9 122 yX1_copyFrom "CellCycler" ∈ cm_all := cm_inT (cm_t4 _ (List.mem_of_getElem? (i := 19) rfl)) rfl
theorem kv_X1_copyFrom : Cond.instanceMethod yX1_copyFrom ∈ cm_all := cm_inT (cm_t4 _ (List.mem_of_getElem? (i := 21) rfl)) rfl
theorem kc_X1_copyFrom : Cond.code yX1_copyFrom cX1_copyFrom 2 none ∈ cm_all := cm_inT (cm_t4 _ (List.mem_of_getElem? (i := 22) rfl)) rfl
theorem kl_RX1_275 : Cond.methodLinkNest RX1 275 yX0_copyFrom "CellCycler" ∈ cm_all := cm_inT (cm_t4 _ (List.mem_of_getElem? (i := 23) rfl)) rfl
theorem kv_X0_copyFrom : Cond.instanceMethod yX0_copyFrom ∈ cm_all := cm_inT (cm_t4 _ (List.mem_of_getElem? (i := 25) rfl)) rfl
theorem kc_X0_copyFrom : Cond.code yX0_copyFrom cX0_copyFrom 2 none ∈ cm_all := cm_inT (cm_t4 _ (List.mem_of_getElem? (i := 26) rfl)) rfl
theorem kl_RX0_164 : Cond.methodLinkNest RX0 164 yX10_copyRow "CellCycler" ∈ cm_all := cm_inT (cm_t4 _ (List.mem_of_getElem? (i := 27) rfl)) rfl
theorem kl_RX0_168 : Cond.methodLinkNest RX0 168 yX3_copyFrom "CellCycler" ∈ cm_all := cm_inT (cm_t4 _ (List.mem_of_getElem? (i := 28) rfl)) rfl
theorem kv_X3_copyFrom : Cond.instanceMethod yX3_copyFrom ∈ cm_all := cm_inT (cm_t4 _ (List.mem_of_getElem? (i := 30) rfl)) rfl
theorem kc_X3_copyFrom : Cond.code yX3_copyFrom cX3_copyFrom 2 none ∈ cm_all := cm_inT (cm_t4 _ (List.mem_of_getElem? (i := 31) rfl)) rfl
theorem kl_RX1_279 : Cond.methodLinkNest RX1 279 yX4_copyFrom "CellCycler" ∈ cm_all := cm_inT (cm_t4 _ (List.mem_of_getElem? (i := 32) rfl)) rfl
theorem kv_X4_copyFrom : Cond.instanceMethod yX4_copyFrom ∈ cm_all := cm_inT (cm_t4 _ (List.mem_of_getElem? (i := 34) rfl)) rfl
theorem kc_X4_copyFrom : Cond.code yX4_copyFrom cX4_copyFrom 2 none ∈ cm_all := cm_inT (cm_t4 _ (List.mem_of_getElem? (i := 35) rfl)) rfl
theorem kl_RX4_52 : Cond.methodLinkNest RX4 52 yX10_copyRow "CellCycler" ∈ cm_all := cm_inT (cm_t4 _ (List.mem_of_getElem? (i := 36) rfl)) rfl
theorem kl_RX1_282 : Cond.methodLinkNest RX1 282 yX10_copyRow "CellCycler" ∈ cm_all := cm_inT (cm_t4 _ (List.mem_of_getElem? (i := 37) rfl)) rfl
theorem kl_RX9_125 : Cond.methodLinkNest RX9 125 yX8_copyFrom "CellCycler" ∈ cm_all := cm_inT (cm_t4 _ (List.mem_of_getElem? (i := 38) rfl)) rfl
theorem kv_X8_copyFrom : Cond.instanceMethod yX8_copyFrom ∈ cm_all := cm_inT (cm_t4 _ (List.mem_of_getElem? (i := 40) rfl)) rfl
theorem kc_X8_copyFrom : Cond.code yX8_copyFrom cX8_copyFrom 2 none ∈ cm_all := cm_inT (cm_t4 _ (List.mem_of_getElem? (i := 41) rfl)) rfl
theorem kl_RX8_42 : Cond.methodLinkNest RX8 42 yX10_copyRow "CellCycler" ∈ cm_all := cm_inT (cm_t4 _ (List.mem_of_getElem? (i := 42) rfl)) rfl
theorem kl_RL_188 : Cond.methodLink RL 188 yX10_loadError ∈ cm_all := cm_inT (cm_t4 _ (List.mem_of_getElem? (i := 44) rfl)) rfl
theorem kv_X10_loadError : Cond.instanceMethod yX10_loadError ∈ cm_all := cm_inT (cm_t4 _ (List.mem_of_getElem? (i := 45) rfl)) rfl
theorem kx_X10_loadError : Cond.selects yX10_loadError.cls yX10_loadError yX10_loadError ∈ cm_all := cm_inT (cm_t4 _ (List.mem_of_getElem? (i := 46) rfl)) rfl
theorem kc_X10_loadError : Cond.code yX10_loadError cX10_loadError 1 (some .int) ∈ cm_all := cm_inT (cm_t4 _ (List.mem_of_getElem? (i := 47) rfl)) rfl
theorem kl_RL_192 : Cond.methodLink RL 192 yX10_curveNamed ∈ cm_all := cm_inT (cm_t4 _ (List.mem_of_getElem? (i := 48) rfl)) rfl
theorem kv_X10_curveNamed : Cond.instanceMethod yX10_curveNamed ∈ cm_all := cm_inT (cm_t4 _ (List.mem_of_getElem? (i := 49) rfl)) rfl
theorem kx_X10_curveNamed : Cond.selects yX10_curveNamed.cls yX10_curveNamed yX10_curveNamed ∈ cm_all := cm_inT (cm_t4 _ (List.mem_of_getElem? (i := 50) rfl)) rfl
theorem kc_X10_curveNamed : Cond.code yX10_curveNamed cX10_curveNamed 2 (some .int) ∈ cm_all := cm_inT (cm_t4 _ (List.mem_of_getElem? (i := 51) rfl)) rfl
theorem kl_RX10_71 : Cond.methodLink RX10 71 yX10_nameCode ∈ cm_all := cm_inT (cm_t4 _ (List.mem_of_getElem? (i := 52) rfl)) rfl
theorem kl_RX10_75 : Cond.methodLinkNest RX10 75 yX2_find "CellCycler" ∈ cm_all := cm_inT (cm_t4 _ (List.mem_of_getElem? (i := 53) rfl)) rfl
theorem kl_RL_219 : Cond.methodLink RL 219 yX10_now ∈ cm_all := cm_inT (cm_t4 _ (List.mem_of_getElem? (i := 54) rfl)) rfl
theorem kv_X10_now : Cond.instanceMethod yX10_now ∈ cm_all := cm_inT (cm_t4 _ (List.mem_of_getElem? (i := 55) rfl)) rfl
theorem kx_X10_now : Cond.selects yX10_now.cls yX10_now yX10_now ∈ cm_all := cm_inT (cm_t4 _ (List.mem_of_getElem? (i := 56) rfl)) rfl
theorem kc_X10_now : Cond.code yX10_now cX10_now 1 (some .int) ∈ cm_all := cm_inT (cm_t4 _ (List.mem_of_getElem? (i := 57) rfl)) rfl
theorem kl_RL_308 : Cond.methodLink RL 308 yX10_weakest ∈ cm_all := cm_inT (cm_t4 _ (List.mem_of_getElem? (i := 58) rfl)) rfl
theorem kv_X10_weakest : Cond.instanceMethod yX10_weakest ∈ cm_all := cm_inT (cm_t4 _ (List.mem_of_getElem? (i := 59) rfl)) rfl
theorem kx_X10_weakest : Cond.selects yX10_weakest.cls yX10_weakest yX10_weakest ∈ cm_all := cm_inT (cm_t4 _ (List.mem_of_getElem? (i := 60) rfl)) rfl
theorem kc_X10_weakest : Cond.code yX10_weakest cX10_weakest 8 (some .int) ∈ cm_all := cm_inT (cm_t4 _ (List.mem_of_getElem? (i := 61) rfl)) rfl
theorem kl_RX10_125 : Cond.methodLinkNest RX10 125 yX9_channelAt "CellCycler" ∈ cm_all := cm_inT (cm_t4 _ (List.mem_of_getElem? (i := 62) rfl)) rfl
theorem kl_RX10_265 : Cond.constantLong RX10 265 (1000) ∈ cm_all := cm_inT (cm_t4 _ (List.mem_of_getElem? (i := 63) rfl)) rfl
theorem kl_RX10_295 : Cond.methodLink RX10 295 yX10_quotient ∈ cm_all := cm_inT (cm_t4 _ (List.mem_of_getElem? (i := 64) rfl)) rfl
theorem ks_X10_quotient : Cond.static yX10_quotient ∈ cm_all := cm_inT (cm_t4 _ (List.mem_of_getElem? (i := 65) rfl)) rfl
theorem kc_X10_quotient : Cond.code yX10_quotient cX10_quotient 4 (some .long) ∈ cm_all := cm_inT (cm_t4 _ (List.mem_of_getElem? (i := 66) rfl)) rfl
theorem kl_RL_312 : Cond.methodLink RL 312 yX10_hottest ∈ cm_all := cm_inT (cm_t4 _ (List.mem_of_getElem? (i := 67) rfl)) rfl
theorem kv_X10_hottest : Cond.instanceMethod yX10_hottest ∈ cm_all := cm_inT (cm_t4 _ (List.mem_of_getElem? (i := 68) rfl)) rfl
theorem kx_X10_hottest : Cond.selects yX10_hottest.cls yX10_hottest yX10_hottest ∈ cm_all := cm_inT (cm_t4 _ (List.mem_of_getElem? (i := 69) rfl)) rfl
theorem kc_X10_hottest : Cond.code yX10_hottest cX10_hottest 5 (some .int) ∈ cm_all := cm_inT (cm_t4 _ (List.mem_of_getElem? (i := 70) rfl)) rfl
theorem kl_RL_316 : Cond.methodLink RL 316 yX10_recordCount ∈ cm_all := cm_inT (cm_t4 _ (List.mem_of_getElem? (i := 71) rfl)) rfl
theorem kv_X10_recordCount : Cond.instanceMethod yX10_recordCount ∈ cm_all := cm_inT (cm_t4 _ (List.mem_of_getElem? (i := 72) rfl)) rfl
theorem kx_X10_recordCount : Cond.selects yX10_recordCount.cls yX10_recordCount yX10_recordCount ∈ cm_all := cm_inT (cm_t4 _ (List.mem_of_getElem? (i := 73) rfl)) rfl
theorem kc_X10_recordCount : Cond.code yX10_recordCount cX10_recordCount 1 (some .int) ∈ cm_all := cm_inT (cm_t4 _ (List.mem_of_getElem? (i := 74) rfl)) rfl
theorem kl_RL_329 : Cond.methodLink RL 329 yX10_logSize ∈ cm_all := cm_inT (cm_t4 _ (List.mem_of_getElem? (i := 75) rfl)) rfl
theorem kv_X10_logSize : Cond.instanceMethod yX10_logSize ∈ cm_all := cm_inT (cm_t4 _ (List.mem_of_getElem? (i := 76) rfl)) rfl
theorem kx_X10_logSize : Cond.selects yX10_logSize.cls yX10_logSize yX10_logSize ∈ cm_all := cm_inT (cm_t4 _ (List.mem_of_getElem? (i := 77) rfl)) rfl
theorem kc_X10_logSize : Cond.code yX10_logSize cX10_logSize 1 (some .int) ∈ cm_all := cm_inT (cm_t4 _ (List.mem_of_getElem? (i := 78) rfl)) rfl
theorem kl_RL_196 : Cond.methodLink RL 196 yL_count ∈ cm_all := cm_inT (cm_t4 _ (List.mem_of_getElem? (i := 79) rfl)) rfl
theorem ks_L_count : Cond.static yL_count ∈ cm_all := cm_inT (cm_t4 _ (List.mem_of_getElem? (i := 80) rfl)) rfl
theorem kw_L_count : Cond.codeWith yL_count cL_count 4 (some .int) [(0, 9, 12, 13)] ∈ cm_all := cm_inT (cm_t4 _ (List.mem_of_getElem? (i := 81) rfl)) rfl
theorem kl_RL_13 : Cond.classLink RL 13 "java/lang/IllegalArgumentException" ∈ cm_all := cm_inT (cm_t4 _ (List.mem_of_getElem? (i := 82) rfl)) rfl
theorem kl_RL_7 : Cond.methodLink RL 7 yX10_count ∈ cm_all := cm_inT (cm_t4 _ (List.mem_of_getElem? (i := 83) rfl)) rfl
theorem kv_X10_count : Cond.instanceMethod yX10_count ∈ cm_all := cm_inT (cm_t4 _ (List.mem_of_getElem? (i := 84) rfl)) rfl
theorem kx_X10_count : Cond.selects yX10_count.cls yX10_count yX10_count ∈ cm_all := cm_inT (cm_t4 _ (List.mem_of_getElem? (i := 85) rfl)) rfl
theorem kc_X10_count : Cond.code yX10_count cX10_count 2 (some .int) ∈ cm_all := cm_inT (cm_t4 _ (List.mem_of_getElem? (i := 86) rfl)) rfl
theorem kl_RX10_81 : Cond.methodLink RX10 81 yX10_needRange ∈ cm_all := cm_inT (cm_t4 _ (List.mem_of_getElem? (i := 87) rfl)) rfl
theorem ks_X10_needRange : Cond.static yX10_needRange ∈ cm_all := cm_inT (cm_t4 _ (List.mem_of_getElem? (i := 88) rfl)) rfl
theorem kc_X10_needRange : Cond.code yX10_needRange cX10_needRange 3 none ∈ cm_all := cm_inT (cm_t4 _ (List.mem_of_getElem? (i := 89) rfl)) rfl
theorem kl_RX10_354 : Cond.classLink RX10 354 "java/lang/IllegalArgumentException" ∈ cm_all := cm_inT (cm_t4 _ (List.mem_of_getElem? (i := 90) rfl)) rfl
theorem kl_RL_202 : Cond.methodLink RL 202 yL_setting ∈ cm_all := cm_inT (cm_t4 _ (List.mem_of_getElem? (i := 152) rfl)) rfl
theorem ks_L_setting : Cond.static yL_setting ∈ cm_all := cm_inT (cm_t4 _ (List.mem_of_getElem? (i := 153) rfl)) rfl
theorem kw_L_setting : Cond.codeWith yL_setting cL_setting 4 (some .int) [(0, 9, 12, 13)] ∈ cm_all := cm_inT (cm_t4 _ (List.mem_of_getElem? (i := 154) rfl)) rfl
theorem kl_RL_15 : Cond.methodLink RL 15 yX10_setting ∈ cm_all := cm_inT (cm_t4 _ (List.mem_of_getElem? (i := 155) rfl)) rfl
theorem kv_X10_setting : Cond.instanceMethod yX10_setting ∈ cm_all := cm_inT (cm_t4 _ (List.mem_of_getElem? (i := 156) rfl)) rfl
theorem kx_X10_setting : Cond.selects yX10_setting.cls yX10_setting yX10_setting ∈ cm_all := cm_inT (cm_t4 _ (List.mem_of_getElem? (i := 157) rfl)) rfl
theorem kc_X10_setting : Cond.code yX10_setting cX10_setting 3 (some .int) ∈ cm_all := cm_inT (cm_t4 _ (List.mem_of_getElem? (i := 158) rfl)) rfl
theorem kl_RL_205 : Cond.methodLink RL 205 yL_setAmbient ∈ cm_all := cm_inT (cm_t4 _ (List.mem_of_getElem? (i := 159) rfl)) rfl
theorem ks_L_setAmbient : Cond.static yL_setAmbient ∈ cm_all := cm_inT (cm_t4 _ (List.mem_of_getElem? (i := 160) rfl)) rfl
theorem kw_L_setAmbient : Cond.codeWith yL_setAmbient cL_setAmbient 4 (some .int) [(0, 9, 12, 13)] ∈ cm_all := cm_inT (cm_t4 _ (List.mem_of_getElem? (i := 161) rfl)) rfl
theorem kl_RL_18 : Cond.methodLink RL 18 yX10_setAmbient ∈ cm_all := cm_inT (cm_t4 _ (List.mem_of_getElem? (i := 162) rfl)) rfl
theorem kv_X10_setAmbient : Cond.instanceMethod yX10_setAmbient ∈ cm_all := cm_inT (cm_t4 _ (List.mem_of_getElem? (i := 163) rfl)) rfl
theorem kx_X10_setAmbient : Cond.selects yX10_setAmbient.cls yX10_setAmbient yX10_setAmbient ∈ cm_all := cm_inT (cm_t4 _ (List.mem_of_getElem? (i := 164) rfl)) rfl
theorem kc_X10_setAmbient : Cond.code yX10_setAmbient cX10_setAmbient 3 (some .int) ∈ cm_all := cm_inT (cm_t4 _ (List.mem_of_getElem? (i := 165) rfl)) rfl
theorem kl_RL_208 : Cond.methodLink RL 208 yL_setLimits ∈ cm_all := cm_inT (cm_t4 _ (List.mem_of_getElem? (i := 166) rfl)) rfl
theorem ks_L_setLimits : Cond.static yL_setLimits ∈ cm_all := cm_inT (cm_t4 _ (List.mem_of_getElem? (i := 167) rfl)) rfl
theorem kw_L_setLimits : Cond.codeWith yL_setLimits cL_setLimits 5 (some .int) [(0, 10, 13, 13)] ∈ cm_all := cm_inT (cm_t4 _ (List.mem_of_getElem? (i := 168) rfl)) rfl
theorem kl_RL_21 : Cond.methodLink RL 21 yX10_setLimits ∈ cm_all := cm_inT (cm_t4 _ (List.mem_of_getElem? (i := 169) rfl)) rfl
theorem kv_X10_setLimits : Cond.instanceMethod yX10_setLimits ∈ cm_all := cm_inT (cm_t4 _ (List.mem_of_getElem? (i := 170) rfl)) rfl
theorem kx_X10_setLimits : Cond.selects yX10_setLimits.cls yX10_setLimits yX10_setLimits ∈ cm_all := cm_inT (cm_t4 _ (List.mem_of_getElem? (i := 171) rfl)) rfl
theorem kc_X10_setLimits : Cond.code yX10_setLimits cX10_setLimits 6 (some .int) ∈ cm_all := cm_inT (cm_t4 _ (List.mem_of_getElem? (i := 172) rfl)) rfl
theorem kl_RL_212 : Cond.methodLink RL 212 yL_setDerate ∈ cm_all := cm_inT (cm_t4 _ (List.mem_of_getElem? (i := 173) rfl)) rfl
theorem ks_L_setDerate : Cond.static yL_setDerate ∈ cm_all := cm_inT (cm_t4 _ (List.mem_of_getElem? (i := 174) rfl)) rfl
theorem kw_L_setDerate : Cond.codeWith yL_setDerate cL_setDerate 4 (some .int) [(0, 9, 12, 13)] ∈ cm_all := cm_inT (cm_t4 _ (List.mem_of_getElem? (i := 175) rfl)) rfl
theorem kl_RL_25 : Cond.methodLink RL 25 yX10_setDerate ∈ cm_all := cm_inT (cm_t4 _ (List.mem_of_getElem? (i := 176) rfl)) rfl
theorem kv_X10_setDerate : Cond.instanceMethod yX10_setDerate ∈ cm_all := cm_inT (cm_t4 _ (List.mem_of_getElem? (i := 177) rfl)) rfl
theorem kx_X10_setDerate : Cond.selects yX10_setDerate.cls yX10_setDerate yX10_setDerate ∈ cm_all := cm_inT (cm_t4 _ (List.mem_of_getElem? (i := 178) rfl)) rfl
theorem kc_X10_setDerate : Cond.code yX10_setDerate cX10_setDerate 3 (some .int) ∈ cm_all := cm_inT (cm_t4 _ (List.mem_of_getElem? (i := 179) rfl)) rfl
theorem kl_RL_215 : Cond.methodLink RL 215 yL_stepValue ∈ cm_all := cm_inT (cm_t4 _ (List.mem_of_getElem? (i := 180) rfl)) rfl
theorem ks_L_stepValue : Cond.static yL_stepValue ∈ cm_all := cm_inT (cm_t4 _ (List.mem_of_getElem? (i := 181) rfl)) rfl
theorem kw_L_stepValue : Cond.codeWith yL_stepValue cL_stepValue 6 (some .int) [(0, 12, 15, 32), (0, 12, 19, 13)] ∈ cm_all := cm_inT (cm_t4 _ (List.mem_of_getElem? (i := 182) rfl)) rfl
theorem kl_RL_32 : Cond.classLink RL 32 "java/lang/IndexOutOfBoundsException" ∈ cm_all := cm_inT (cm_t4 _ (List.mem_of_getElem? (i := 183) rfl)) rfl
theorem kl_RL_28 : Cond.methodLink RL 28 yX10_stepValue ∈ cm_all := cm_inT (cm_t4 _ (List.mem_of_getElem? (i := 184) rfl)) rfl
theorem kv_X10_stepValue : Cond.instanceMethod yX10_stepValue ∈ cm_all := cm_inT (cm_t4 _ (List.mem_of_getElem? (i := 185) rfl)) rfl
theorem kx_X10_stepValue : Cond.selects yX10_stepValue.cls yX10_stepValue yX10_stepValue ∈ cm_all := cm_inT (cm_t4 _ (List.mem_of_getElem? (i := 186) rfl)) rfl
theorem kc_X10_stepValue : Cond.code yX10_stepValue cX10_stepValue 4 (some .int) ∈ cm_all := cm_inT (cm_t4 _ (List.mem_of_getElem? (i := 187) rfl)) rfl
theorem kl_RX10_146 : Cond.methodLink RX10 146 yX10_needProgram ∈ cm_all := cm_inT (cm_t4 _ (List.mem_of_getElem? (i := 188) rfl)) rfl
theorem kv_X10_needProgram : Cond.instanceMethod yX10_needProgram ∈ cm_all := cm_inT (cm_t4 _ (List.mem_of_getElem? (i := 190) rfl)) rfl
theorem kc_X10_needProgram : Cond.code yX10_needProgram cX10_needProgram 2 none ∈ cm_all := cm_inT (cm_t4 _ (List.mem_of_getElem? (i := 191) rfl)) rfl
theorem kl_RX10_357 : Cond.classLink RX10 357 "java/lang/IndexOutOfBoundsException" ∈ cm_all := cm_inT (cm_t4 _ (List.mem_of_getElem? (i := 192) rfl)) rfl
theorem kl_RX10_150 : Cond.methodLinkNest RX10 150 yX5_stepsOf "CellCycler" ∈ cm_all := cm_inT (cm_t4 _ (List.mem_of_getElem? (i := 207) rfl)) rfl
theorem kv_X5_stepsOf : Cond.instanceMethod yX5_stepsOf ∈ cm_all := cm_inT (cm_t4 _ (List.mem_of_getElem? (i := 209) rfl)) rfl
theorem kc_X5_stepsOf : Cond.code yX5_stepsOf cX5_stepsOf 2 (some .int) ∈ cm_all := cm_inT (cm_t4 _ (List.mem_of_getElem? (i := 210) rfl)) rfl
theorem kl_RX10_154 : Cond.methodLinkNest RX10 154 yX5_kindOf "CellCycler" ∈ cm_all := cm_inT (cm_t4 _ (List.mem_of_getElem? (i := 211) rfl)) rfl
theorem kv_X5_kindOf : Cond.instanceMethod yX5_kindOf ∈ cm_all := cm_inT (cm_t4 _ (List.mem_of_getElem? (i := 213) rfl)) rfl
theorem kc_X5_kindOf : Cond.code yX5_kindOf cX5_kindOf 3 (some .int) ∈ cm_all := cm_inT (cm_t4 _ (List.mem_of_getElem? (i := 214) rfl)) rfl
theorem kl_RX10_158 : Cond.methodLinkNest RX10 158 yX5_firstOf "CellCycler" ∈ cm_all := cm_inT (cm_t4 _ (List.mem_of_getElem? (i := 215) rfl)) rfl
theorem kv_X5_firstOf : Cond.instanceMethod yX5_firstOf ∈ cm_all := cm_inT (cm_t4 _ (List.mem_of_getElem? (i := 217) rfl)) rfl
theorem kc_X5_firstOf : Cond.code yX5_firstOf cX5_firstOf 3 (some .int) ∈ cm_all := cm_inT (cm_t4 _ (List.mem_of_getElem? (i := 218) rfl)) rfl
theorem kl_RX10_161 : Cond.methodLinkNest RX10 161 yX5_secondOf "CellCycler" ∈ cm_all := cm_inT (cm_t4 _ (List.mem_of_getElem? (i := 219) rfl)) rfl
theorem kv_X5_secondOf : Cond.instanceMethod yX5_secondOf ∈ cm_all := cm_inT (cm_t4 _ (List.mem_of_getElem? (i := 221) rfl)) rfl
theorem kc_X5_secondOf : Cond.code yX5_secondOf cX5_secondOf 3 (some .int) ∈ cm_all := cm_inT (cm_t4 _ (List.mem_of_getElem? (i := 222) rfl)) rfl
theorem kl_RL_223 : Cond.methodLink RL 223 yL_advance ∈ cm_all := cm_inT (cm_t4 _ (List.mem_of_getElem? (i := 223) rfl)) rfl
theorem ks_L_advance : Cond.static yL_advance ∈ cm_all := cm_inT (cm_t4 _ (List.mem_of_getElem? (i := 224) rfl)) rfl
theorem kw_L_advance : Cond.codeWith yL_advance cL_advance 4 (some .int) [(0, 9, 12, 13)] ∈ cm_all := cm_inT (cm_t4 _ (List.mem_of_getElem? (i := 225) rfl)) rfl
theorem kl_RL_34 : Cond.methodLink RL 34 yX10_advance ∈ cm_all := cm_inT (cm_t4 _ (List.mem_of_getElem? (i := 226) rfl)) rfl
theorem kv_X10_advance : Cond.instanceMethod yX10_advance ∈ cm_all := cm_inT (cm_t4 _ (List.mem_of_getElem? (i := 227) rfl)) rfl
theorem kx_X10_advance : Cond.selects yX10_advance.cls yX10_advance yX10_advance ∈ cm_all := cm_inT (cm_t4 _ (List.mem_of_getElem? (i := 228) rfl)) rfl
theorem kc_X10_advance : Cond.code yX10_advance cX10_advance 6 (some .int) ∈ cm_all := cm_inT (cm_t4 _ (List.mem_of_getElem? (i := 229) rfl)) rfl
theorem kl_RX10_167 : Cond.constant RX10 167 (300000) ∈ cm_all := cm_inT (cm_t4 _ (List.mem_of_getElem? (i := 230) rfl)) rfl
theorem kl_RX10_168 : Cond.methodLinkNest RX10 168 yX1_passTick "CellCycler" ∈ cm_all := cm_inT (cm_t4 _ (List.mem_of_getElem? (i := 231) rfl)) rfl
theorem kv_X1_passTick : Cond.instanceMethod yX1_passTick ∈ cm_all := cm_inT (cm_t4 _ (List.mem_of_getElem? (i := 233) rfl)) rfl
theorem kc_X1_passTick : Cond.code yX1_passTick cX1_passTick 6 (some .boolean) ∈ cm_all := cm_inT (cm_t4 _ (List.mem_of_getElem? (i := 234) rfl)) rfl
theorem kl_RX1_136 : Cond.methodLink RX1 136 yX1_wantedCurrent ∈ cm_all := cm_inT (cm_t4 _ (List.mem_of_getElem? (i := 235) rfl)) rfl
theorem kv_X1_wantedCurrent : Cond.instanceMethod yX1_wantedCurrent ∈ cm_all := cm_inT (cm_t4 _ (List.mem_of_getElem? (i := 237) rfl)) rfl
theorem kc_X1_wantedCurrent : Cond.code yX1_wantedCurrent cX1_wantedCurrent 3 (some .int) ∈ cm_all := cm_inT (cm_t4 _ (List.mem_of_getElem? (i := 238) rfl)) rfl
theorem kl_RX1_196 : Cond.methodLinkNest RX1 196 yX5_firstOf "CellCycler" ∈ cm_all := cm_inT (cm_t4 _ (List.mem_of_getElem? (i := 239) rfl)) rfl
theorem kl_RX1_201 : Cond.methodLinkNest RX1 201 yX5_kindOf "CellCycler" ∈ cm_all := cm_inT (cm_t5 _ (List.mem_of_getElem? (i := 0) rfl)) rfl
theorem kl_RX1_204 : Cond.methodLinkNest RX1 204 yX0_holding "CellCycler" ∈ cm_all := cm_inT (cm_t5 _ (List.mem_of_getElem? (i := 1) rfl)) rfl
theorem kv_X0_holding : Cond.instanceMethod yX0_holding ∈ cm_all := cm_inT (cm_t5 _ (List.mem_of_getElem? (i := 3) rfl)) rfl
theorem kc_X0_holding : Cond.code yX0_holding cX0_holding 6 (some .int) ∈ cm_all := cm_inT (cm_t5 _ (List.mem_of_getElem? (i := 4) rfl)) rfl
theorem kl_RX0_84 : Cond.methodLink RX0 84 yX0_restVoltageAt ∈ cm_all := cm_inT (cm_t5 _ (List.mem_of_getElem? (i := 5) rfl)) rfl
theorem kv_X0_restVoltageAt : Cond.instanceMethod yX0_restVoltageAt ∈ cm_all := cm_inT (cm_t5 _ (List.mem_of_getElem? (i := 7) rfl)) rfl
theorem kc_X0_restVoltageAt : Cond.code yX0_restVoltageAt cX0_restVoltageAt 7 (some .int) ∈ cm_all := cm_inT (cm_t5 _ (List.mem_of_getElem? (i := 8) rfl)) rfl
theorem kl_RX0_75 : Cond.methodLinkNest RX0 75 yX10_quotient "CellCycler" ∈ cm_all := cm_inT (cm_t5 _ (List.mem_of_getElem? (i := 9) rfl)) rfl
theorem kl_RX0_79 : Cond.methodLink RX0 79 yJ9_min_f86c9 ∈ cm_all := cm_inT (cm_t5 _ (List.mem_of_getElem? (i := 10) rfl)) rfl
theorem ks_J9_min_f86c9 : Cond.static yJ9_min_f86c9 ∈ cm_all := cm_inT (cm_t5 _ (List.mem_of_getElem? (i := 11) rfl)) rfl
theorem kl_RX0_88 : Cond.constantLong RX0 88 (1000) ∈ cm_all := cm_inT (cm_t5 _ (List.mem_of_getElem? (i := 13) rfl)) rfl
theorem kl_RX0_93 : Cond.constantLong RX0 93 (5000) ∈ cm_all := cm_inT (cm_t5 _ (List.mem_of_getElem? (i := 14) rfl)) rfl
theorem kl_RX0_95 : Cond.methodLink RX0 95 yJ9_max_f86c9 ∈ cm_all := cm_inT (cm_t5 _ (List.mem_of_getElem? (i := 15) rfl)) rfl
theorem ks_J9_max_f86c9 : Cond.static yJ9_max_f86c9 ∈ cm_all := cm_inT (cm_t5 _ (List.mem_of_getElem? (i := 16) rfl)) rfl
theorem kl_RX1_144 : Cond.methodLinkNest RX1 144 yX0_allowed "CellCycler" ∈ cm_all := cm_inT (cm_t5 _ (List.mem_of_getElem? (i := 18) rfl)) rfl
theorem kv_X0_allowed : Cond.instanceMethod yX0_allowed ∈ cm_all := cm_inT (cm_t5 _ (List.mem_of_getElem? (i := 20) rfl)) rfl
theorem kc_X0_allowed : Cond.code yX0_allowed cX0_allowed 6 (some .int) ∈ cm_all := cm_inT (cm_t5 _ (List.mem_of_getElem? (i := 21) rfl)) rfl
