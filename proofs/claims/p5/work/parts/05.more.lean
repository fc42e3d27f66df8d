/-! words of the tables, by name -/
theorem kd_X10_init : yX10_init.cls ≠ "java/lang/invoke/MethodHandle" ∧ yX10_init.cls ≠ "java/lang/invoke/VarHandle" ∧ (parseMethodDescriptor yX10_init.desc).map (fun d => d.parameters.length) = some 0 := by decide +kernel
theorem kd_X9_init : yX9_init.cls ≠ "java/lang/invoke/MethodHandle" ∧ yX9_init.cls ≠ "java/lang/invoke/VarHandle" ∧ (parseMethodDescriptor yX9_init.desc).map (fun d => d.parameters.length) = some 0 := by decide +kernel
theorem kd_X7_init : yX7_init.cls ≠ "java/lang/invoke/MethodHandle" ∧ yX7_init.cls ≠ "java/lang/invoke/VarHandle" ∧ (parseMethodDescriptor yX7_init.desc).map (fun d => d.parameters.length) = some 0 := by decide +kernel
theorem kd_X7_clear : yX7_clear.cls ≠ "java/lang/invoke/MethodHandle" ∧ yX7_clear.cls ≠ "java/lang/invoke/VarHandle" ∧ (parseMethodDescriptor yX7_clear.desc).map (fun d => d.parameters.length) = some 0 := by decide +kernel
theorem kd_X2_init : yX2_init.cls ≠ "java/lang/invoke/MethodHandle" ∧ yX2_init.cls ≠ "java/lang/invoke/VarHandle" ∧ (parseMethodDescriptor yX2_init.desc).map (fun d => d.parameters.length) = some 0 := by decide +kernel
theorem kd_X5_init : yX5_init.cls ≠ "java/lang/invoke/MethodHandle" ∧ yX5_init.cls ≠ "java/lang/invoke/VarHandle" ∧ (parseMethodDescriptor yX5_init.desc).map (fun d => d.parameters.length) = some 0 := by decide +kernel
theorem kd_X1_init : yX1_init.cls ≠ "java/lang/invoke/MethodHandle" ∧ yX1_init.cls ≠ "java/lang/invoke/VarHandle" ∧ (parseMethodDescriptor yX1_init.desc).map (fun d => d.parameters.length) = some 1 := by decide +kernel
theorem kd_X0_init : yX0_init.cls ≠ "java/lang/invoke/MethodHandle" ∧ yX0_init.cls ≠ "java/lang/invoke/VarHandle" ∧ (parseMethodDescriptor yX0_init.desc).map (fun d => d.parameters.length) = some 0 := by decide +kernel
theorem kd_X3_init : yX3_init.cls ≠ "java/lang/invoke/MethodHandle" ∧ yX3_init.cls ≠ "java/lang/invoke/VarHandle" ∧ (parseMethodDescriptor yX3_init.desc).map (fun d => d.parameters.length) = some 0 := by decide +kernel
theorem kd_X4_init : yX4_init.cls ≠ "java/lang/invoke/MethodHandle" ∧ yX4_init.cls ≠ "java/lang/invoke/VarHandle" ∧ (parseMethodDescriptor yX4_init.desc).map (fun d => d.parameters.length) = some 0 := by decide +kernel
theorem kd_X8_init : yX8_init.cls ≠ "java/lang/invoke/MethodHandle" ∧ yX8_init.cls ≠ "java/lang/invoke/VarHandle" ∧ (parseMethodDescriptor yX8_init.desc).map (fun d => d.parameters.length) = some 2 := by decide +kernel
theorem kd_J9_max_7cf53 : yJ9_max_7cf53.cls ≠ "java/lang/invoke/MethodHandle" ∧ yJ9_max_7cf53.cls ≠ "java/lang/invoke/VarHandle" ∧ (parseMethodDescriptor yJ9_max_7cf53.desc).map (fun d => d.parameters.length) = some 2 := by decide +kernel
theorem kd_X10_append : yX10_append.cls ≠ "java/lang/invoke/MethodHandle" ∧ yX10_append.cls ≠ "java/lang/invoke/VarHandle" ∧ (parseMethodDescriptor yX10_append.desc).map (fun d => d.parameters.length) = some 1 := by decide +kernel
theorem kd_X10_put : yX10_put.cls ≠ "java/lang/invoke/MethodHandle" ∧ yX10_put.cls ≠ "java/lang/invoke/VarHandle" ∧ (parseMethodDescriptor yX10_put.desc).map (fun d => d.parameters.length) = some 3 := by decide +kernel
theorem kd_X10_load : yX10_load.cls ≠ "java/lang/invoke/MethodHandle" ∧ yX10_load.cls ≠ "java/lang/invoke/VarHandle" ∧ (parseMethodDescriptor yX10_load.desc).map (fun d => d.parameters.length) = some 0 := by decide +kernel
theorem kd_X9_clear : yX9_clear.cls ≠ "java/lang/invoke/MethodHandle" ∧ yX9_clear.cls ≠ "java/lang/invoke/VarHandle" ∧ (parseMethodDescriptor yX9_clear.desc).map (fun d => d.parameters.length) = some 0 := by decide +kernel
theorem kd_X8_clear : yX8_clear.cls ≠ "java/lang/invoke/MethodHandle" ∧ yX8_clear.cls ≠ "java/lang/invoke/VarHandle" ∧ (parseMethodDescriptor yX8_clear.desc).map (fun d => d.parameters.length) = some 0 := by decide +kernel
theorem kd_X6_init : yX6_init.cls ≠ "java/lang/invoke/MethodHandle" ∧ yX6_init.cls ≠ "java/lang/invoke/VarHandle" ∧ (parseMethodDescriptor yX6_init.desc).map (fun d => d.parameters.length) = some 3 := by decide +kernel
theorem kd_X6_readText : yX6_readText.cls ≠ "java/lang/invoke/MethodHandle" ∧ yX6_readText.cls ≠ "java/lang/invoke/VarHandle" ∧ (parseMethodDescriptor yX6_readText.desc).map (fun d => d.parameters.length) = some 0 := by decide +kernel
theorem kd_X6_readWord : yX6_readWord.cls ≠ "java/lang/invoke/MethodHandle" ∧ yX6_readWord.cls ≠ "java/lang/invoke/VarHandle" ∧ (parseMethodDescriptor yX6_readWord.desc).map (fun d => d.parameters.length) = some 0 := by decide +kernel
theorem kd_X6_skipSpaces : yX6_skipSpaces.cls ≠ "java/lang/invoke/MethodHandle" ∧ yX6_skipSpaces.cls ≠ "java/lang/invoke/VarHandle" ∧ (parseMethodDescriptor yX6_skipSpaces.desc).map (fun d => d.parameters.length) = some 0 := by decide +kernel
theorem kd_X6_next : yX6_next.cls ≠ "java/lang/invoke/MethodHandle" ∧ yX6_next.cls ≠ "java/lang/invoke/VarHandle" ∧ (parseMethodDescriptor yX6_next.desc).map (fun d => d.parameters.length) = some 0 := by decide +kernel
theorem kd_X6_isLetter : yX6_isLetter.cls ≠ "java/lang/invoke/MethodHandle" ∧ yX6_isLetter.cls ≠ "java/lang/invoke/VarHandle" ∧ (parseMethodDescriptor yX6_isLetter.desc).map (fun d => d.parameters.length) = some 1 := by decide +kernel
theorem kd_X6_fail : yX6_fail.cls ≠ "java/lang/invoke/MethodHandle" ∧ yX6_fail.cls ≠ "java/lang/invoke/VarHandle" ∧ (parseMethodDescriptor yX6_fail.desc).map (fun d => d.parameters.length) = some 2 := by decide +kernel
theorem kd_X6_wordIs : yX6_wordIs.cls ≠ "java/lang/invoke/MethodHandle" ∧ yX6_wordIs.cls ≠ "java/lang/invoke/VarHandle" ∧ (parseMethodDescriptor yX6_wordIs.desc).map (fun d => d.parameters.length) = some 1 := by decide +kernel
theorem kd_J0_length_8abf5 : yJ0_length_8abf5.cls ≠ "java/lang/invoke/MethodHandle" ∧ yJ0_length_8abf5.cls ≠ "java/lang/invoke/VarHandle" ∧ (parseMethodDescriptor yJ0_length_8abf5.desc).map (fun d => d.parameters.length) = some 0 := by decide +kernel
theorem kd_J0_coder_7d493 : yJ0_coder_7d493.cls ≠ "java/lang/invoke/MethodHandle" ∧ yJ0_coder_7d493.cls ≠ "java/lang/invoke/VarHandle" ∧ (parseMethodDescriptor yJ0_coder_7d493.desc).map (fun d => d.parameters.length) = some 0 := by decide +kernel
theorem kd_X10_at : yX10_at.cls ≠ "java/lang/invoke/MethodHandle" ∧ yX10_at.cls ≠ "java/lang/invoke/VarHandle" ∧ (parseMethodDescriptor yX10_at.desc).map (fun d => d.parameters.length) = some 2 := by decide +kernel
theorem kd_J0_charAt_5068e : yJ0_charAt_5068e.cls ≠ "java/lang/invoke/MethodHandle" ∧ yJ0_charAt_5068e.cls ≠ "java/lang/invoke/VarHandle" ∧ (parseMethodDescriptor yJ0_charAt_5068e.desc).map (fun d => d.parameters.length) = some 1 := by decide +kernel
theorem kd_J0_isLatin1_aae02 : yJ0_isLatin1_aae02.cls ≠ "java/lang/invoke/MethodHandle" ∧ yJ0_isLatin1_aae02.cls ≠ "java/lang/invoke/VarHandle" ∧ (parseMethodDescriptor yJ0_isLatin1_aae02.desc).map (fun d => d.parameters.length) = some 0 := by decide +kernel
theorem kd_J1_charAt_3b067 : yJ1_charAt_3b067.cls ≠ "java/lang/invoke/MethodHandle" ∧ yJ1_charAt_3b067.cls ≠ "java/lang/invoke/VarHandle" ∧ (parseMethodDescriptor yJ1_charAt_3b067.desc).map (fun d => d.parameters.length) = some 2 := by decide +kernel
theorem kd_J0_checkIndex_df160 : yJ0_checkIndex_df160.cls ≠ "java/lang/invoke/MethodHandle" ∧ yJ0_checkIndex_df160.cls ≠ "java/lang/invoke/VarHandle" ∧ (parseMethodDescriptor yJ0_checkIndex_df160.desc).map (fun d => d.parameters.length) = some 2 := by decide +kernel
theorem kd_J3_checkIndex_8e157 : yJ3_checkIndex_8e157.cls ≠ "java/lang/invoke/MethodHandle" ∧ yJ3_checkIndex_8e157.cls ≠ "java/lang/invoke/VarHandle" ∧ (parseMethodDescriptor yJ3_checkIndex_8e157.desc).map (fun d => d.parameters.length) = some 3 := by decide +kernel
theorem kd_J2_charAt_3b067 : yJ2_charAt_3b067.cls ≠ "java/lang/invoke/MethodHandle" ∧ yJ2_charAt_3b067.cls ≠ "java/lang/invoke/VarHandle" ∧ (parseMethodDescriptor yJ2_charAt_3b067.desc).map (fun d => d.parameters.length) = some 2 := by decide +kernel
theorem kd_J2_checkIndex_2214a : yJ2_checkIndex_2214a.cls ≠ "java/lang/invoke/MethodHandle" ∧ yJ2_checkIndex_2214a.cls ≠ "java/lang/invoke/VarHandle" ∧ (parseMethodDescriptor yJ2_checkIndex_2214a.desc).map (fun d => d.parameters.length) = some 2 := by decide +kernel
theorem kd_J2_length_9d52b : yJ2_length_9d52b.cls ≠ "java/lang/invoke/MethodHandle" ∧ yJ2_length_9d52b.cls ≠ "java/lang/invoke/VarHandle" ∧ (parseMethodDescriptor yJ2_length_9d52b.desc).map (fun d => d.parameters.length) = some 1 := by decide +kernel
theorem kd_J2_getChar_3b067 : yJ2_getChar_3b067.cls ≠ "java/lang/invoke/MethodHandle" ∧ yJ2_getChar_3b067.cls ≠ "java/lang/invoke/VarHandle" ∧ (parseMethodDescriptor yJ2_getChar_3b067.desc).map (fun d => d.parameters.length) = some 2 := by decide +kernel
theorem kd_X6_readCurve : yX6_readCurve.cls ≠ "java/lang/invoke/MethodHandle" ∧ yX6_readCurve.cls ≠ "java/lang/invoke/VarHandle" ∧ (parseMethodDescriptor yX6_readCurve.desc).map (fun d => d.parameters.length) = some 0 := by decide +kernel
theorem kd_X10_nameCode : yX10_nameCode.cls ≠ "java/lang/invoke/MethodHandle" ∧ yX10_nameCode.cls ≠ "java/lang/invoke/VarHandle" ∧ (parseMethodDescriptor yX10_nameCode.desc).map (fun d => d.parameters.length) = some 3 := by decide +kernel
theorem kd_X2_find : yX2_find.cls ≠ "java/lang/invoke/MethodHandle" ∧ yX2_find.cls ≠ "java/lang/invoke/VarHandle" ∧ (parseMethodDescriptor yX2_find.desc).map (fun d => d.parameters.length) = some 1 := by decide +kernel
theorem kd_X2_add : yX2_add.cls ≠ "java/lang/invoke/MethodHandle" ∧ yX2_add.cls ≠ "java/lang/invoke/VarHandle" ∧ (parseMethodDescriptor yX2_add.desc).map (fun d => d.parameters.length) = some 1 := by decide +kernel
theorem kd_X6_isDigit : yX6_isDigit.cls ≠ "java/lang/invoke/MethodHandle" ∧ yX6_isDigit.cls ≠ "java/lang/invoke/VarHandle" ∧ (parseMethodDescriptor yX6_isDigit.desc).map (fun d => d.parameters.length) = some 1 := by decide +kernel
theorem kd_X6_readNumber : yX6_readNumber.cls ≠ "java/lang/invoke/MethodHandle" ∧ yX6_readNumber.cls ≠ "java/lang/invoke/VarHandle" ∧ (parseMethodDescriptor yX6_readNumber.desc).map (fun d => d.parameters.length) = some 2 := by decide +kernel
theorem kd_J9_min_7cf53 : yJ9_min_7cf53.cls ≠ "java/lang/invoke/MethodHandle" ∧ yJ9_min_7cf53.cls ≠ "java/lang/invoke/VarHandle" ∧ (parseMethodDescriptor yJ9_min_7cf53.desc).map (fun d => d.parameters.length) = some 2 := by decide +kernel
theorem kd_X2_addVoltageToLast : yX2_addVoltageToLast.cls ≠ "java/lang/invoke/MethodHandle" ∧ yX2_addVoltageToLast.cls ≠ "java/lang/invoke/VarHandle" ∧ (parseMethodDescriptor yX2_addVoltageToLast.desc).map (fun d => d.parameters.length) = some 1 := by decide +kernel
theorem kd_X6_readCell : yX6_readCell.cls ≠ "java/lang/invoke/MethodHandle" ∧ yX6_readCell.cls ≠ "java/lang/invoke/VarHandle" ∧ (parseMethodDescriptor yX6_readCell.desc).map (fun d => d.parameters.length) = some 0 := by decide +kernel
theorem kd_X9_channelAt : yX9_channelAt.cls ≠ "java/lang/invoke/MethodHandle" ∧ yX9_channelAt.cls ≠ "java/lang/invoke/VarHandle" ∧ (parseMethodDescriptor yX9_channelAt.desc).map (fun d => d.parameters.length) = some 1 := by decide +kernel
theorem kd_X0_takeCurve : yX0_takeCurve.cls ≠ "java/lang/invoke/MethodHandle" ∧ yX0_takeCurve.cls ≠ "java/lang/invoke/VarHandle" ∧ (parseMethodDescriptor yX0_takeCurve.desc).map (fun d => d.parameters.length) = some 2 := by decide +kernel
theorem kd_X2_voltageOf : yX2_voltageOf.cls ≠ "java/lang/invoke/MethodHandle" ∧ yX2_voltageOf.cls ≠ "java/lang/invoke/VarHandle" ∧ (parseMethodDescriptor yX2_voltageOf.desc).map (fun d => d.parameters.length) = some 2 := by decide +kernel
theorem kd_X6_readProgram : yX6_readProgram.cls ≠ "java/lang/invoke/MethodHandle" ∧ yX6_readProgram.cls ≠ "java/lang/invoke/VarHandle" ∧ (parseMethodDescriptor yX6_readProgram.desc).map (fun d => d.parameters.length) = some 0 := by decide +kernel
theorem kd_X5_add : yX5_add.cls ≠ "java/lang/invoke/MethodHandle" ∧ yX5_add.cls ≠ "java/lang/invoke/VarHandle" ∧ (parseMethodDescriptor yX5_add.desc).map (fun d => d.parameters.length) = some 0 := by decide +kernel
theorem kd_X6_readStep : yX6_readStep.cls ≠ "java/lang/invoke/MethodHandle" ∧ yX6_readStep.cls ≠ "java/lang/invoke/VarHandle" ∧ (parseMethodDescriptor yX6_readStep.desc).map (fun d => d.parameters.length) = some 2 := by decide +kernel
theorem kd_X5_addStepToLast : yX5_addStepToLast.cls ≠ "java/lang/invoke/MethodHandle" ∧ yX5_addStepToLast.cls ≠ "java/lang/invoke/VarHandle" ∧ (parseMethodDescriptor yX5_addStepToLast.desc).map (fun d => d.parameters.length) = some 3 := by decide +kernel
theorem kd_X6_readSetting : yX6_readSetting.cls ≠ "java/lang/invoke/MethodHandle" ∧ yX6_readSetting.cls ≠ "java/lang/invoke/VarHandle" ∧ (parseMethodDescriptor yX6_readSetting.desc).map (fun d => d.parameters.length) = some 1 := by decide +kernel
theorem kd_X9_insertCells : yX9_insertCells.cls ≠ "java/lang/invoke/MethodHandle" ∧ yX9_insertCells.cls ≠ "java/lang/invoke/VarHandle" ∧ (parseMethodDescriptor yX9_insertCells.desc).map (fun d => d.parameters.length) = some 0 := by decide +kernel
theorem kd_X1_insertCell : yX1_insertCell.cls ≠ "java/lang/invoke/MethodHandle" ∧ yX1_insertCell.cls ≠ "java/lang/invoke/VarHandle" ∧ (parseMethodDescriptor yX1_insertCell.desc).map (fun d => d.parameters.length) = some 2 := by decide +kernel
theorem kd_X0_renew : yX0_renew.cls ≠ "java/lang/invoke/MethodHandle" ∧ yX0_renew.cls ≠ "java/lang/invoke/VarHandle" ∧ (parseMethodDescriptor yX0_renew.desc).map (fun d => d.parameters.length) = some 2 := by decide +kernel
theorem kd_X3_clear : yX3_clear.cls ≠ "java/lang/invoke/MethodHandle" ∧ yX3_clear.cls ≠ "java/lang/invoke/VarHandle" ∧ (parseMethodDescriptor yX3_clear.desc).map (fun d => d.parameters.length) = some 0 := by decide +kernel
theorem kd_X4_clear : yX4_clear.cls ≠ "java/lang/invoke/MethodHandle" ∧ yX4_clear.cls ≠ "java/lang/invoke/VarHandle" ∧ (parseMethodDescriptor yX4_clear.desc).map (fun d => d.parameters.length) = some 0 := by decide +kernel
theorem kd_X10_clearRow : yX10_clearRow.cls ≠ "java/lang/invoke/MethodHandle" ∧ yX10_clearRow.cls ≠ "java/lang/invoke/VarHandle" ∧ (parseMethodDescriptor yX10_clearRow.desc).map (fun d => d.parameters.length) = some 1 := by decide +kernel
theorem kd_X9_copyFrom : yX9_copyFrom.cls ≠ "java/lang/invoke/MethodHandle" ∧ yX9_copyFrom.cls ≠ "java/lang/invoke/VarHandle" ∧ (parseMethodDescriptor yX9_copyFrom.desc).map (fun d => d.parameters.length) = some 1 := by decide +kernel
theorem kd_X7_copyFrom : yX7_copyFrom.cls ≠ "java/lang/invoke/MethodHandle" ∧ yX7_copyFrom.cls ≠ "java/lang/invoke/VarHandle" ∧ (parseMethodDescriptor yX7_copyFrom.desc).map (fun d => d.parameters.length) = some 1 := by decide +kernel
theorem kd_X2_copyFrom : yX2_copyFrom.cls ≠ "java/lang/invoke/MethodHandle" ∧ yX2_copyFrom.cls ≠ "java/lang/invoke/VarHandle" ∧ (parseMethodDescriptor yX2_copyFrom.desc).map (fun d => d.parameters.length) = some 1 := by decide +kernel
theorem kd_X10_copyRow : yX10_copyRow.cls ≠ "java/lang/invoke/MethodHandle" ∧ yX10_copyRow.cls ≠ "java/lang/invoke/VarHandle" ∧ (parseMethodDescriptor yX10_copyRow.desc).map (fun d => d.parameters.length) = some 2 := by decide +kernel
theorem kd_X5_copyFrom : yX5_copyFrom.cls ≠ "java/lang/invoke/MethodHandle" ∧ yX5_copyFrom.cls ≠ "java/lang/invoke/VarHandle" ∧ (parseMethodDescriptor yX5_copyFrom.desc).map (fun d => d.parameters.length) = some 1 := by decide +kernel
theorem kd_X1_copyFrom : yX1_copyFrom.cls ≠ "java/lang/invoke/MethodHandle" ∧ yX1_copyFrom.cls ≠ "java/lang/invoke/VarHandle" ∧ (parseMethodDescriptor yX1_copyFrom.desc).map (fun d => d.parameters.length) = some 1 := by decide +kernel
theorem kd_X0_copyFrom : yX0_copyFrom.cls ≠ "java/lang/invoke/MethodHandle" ∧ yX0_copyFrom.cls ≠ "java/lang/invoke/VarHandle" ∧ (parseMethodDescriptor yX0_copyFrom.desc).map (fun d => d.parameters.length) = some 1 := by decide +kernel
theorem kd_X3_copyFrom : yX3_copyFrom.cls ≠ "java/lang/invoke/MethodHandle" ∧ yX3_copyFrom.cls ≠ "java/lang/invoke/VarHandle" ∧ (parseMethodDescriptor yX3_copyFrom.desc).map (fun d => d.parameters.length) = some 1 := by decide +kernel
theorem kd_X4_copyFrom : yX4_copyFrom.cls ≠ "java/lang/invoke/MethodHandle" ∧ yX4_copyFrom.cls ≠ "java/lang/invoke/VarHandle" ∧ (parseMethodDescriptor yX4_copyFrom.desc).map (fun d => d.parameters.length) = some 1 := by decide +kernel
theorem kd_X8_copyFrom : yX8_copyFrom.cls ≠ "java/lang/invoke/MethodHandle" ∧ yX8_copyFrom.cls ≠ "java/lang/invoke/VarHandle" ∧ (parseMethodDescriptor yX8_copyFrom.desc).map (fun d => d.parameters.length) = some 1 := by decide +kernel
theorem kd_X10_loadError : yX10_loadError.cls ≠ "java/lang/invoke/MethodHandle" ∧ yX10_loadError.cls ≠ "java/lang/invoke/VarHandle" ∧ (parseMethodDescriptor yX10_loadError.desc).map (fun d => d.parameters.length) = some 0 := by decide +kernel
theorem kd_X10_curveNamed : yX10_curveNamed.cls ≠ "java/lang/invoke/MethodHandle" ∧ yX10_curveNamed.cls ≠ "java/lang/invoke/VarHandle" ∧ (parseMethodDescriptor yX10_curveNamed.desc).map (fun d => d.parameters.length) = some 0 := by decide +kernel
theorem kd_X10_now : yX10_now.cls ≠ "java/lang/invoke/MethodHandle" ∧ yX10_now.cls ≠ "java/lang/invoke/VarHandle" ∧ (parseMethodDescriptor yX10_now.desc).map (fun d => d.parameters.length) = some 0 := by decide +kernel
theorem kd_X10_weakest : yX10_weakest.cls ≠ "java/lang/invoke/MethodHandle" ∧ yX10_weakest.cls ≠ "java/lang/invoke/VarHandle" ∧ (parseMethodDescriptor yX10_weakest.desc).map (fun d => d.parameters.length) = some 0 := by decide +kernel
theorem kd_X10_quotient : yX10_quotient.cls ≠ "java/lang/invoke/MethodHandle" ∧ yX10_quotient.cls ≠ "java/lang/invoke/VarHandle" ∧ (parseMethodDescriptor yX10_quotient.desc).map (fun d => d.parameters.length) = some 2 := by decide +kernel
theorem kd_X10_hottest : yX10_hottest.cls ≠ "java/lang/invoke/MethodHandle" ∧ yX10_hottest.cls ≠ "java/lang/invoke/VarHandle" ∧ (parseMethodDescriptor yX10_hottest.desc).map (fun d => d.parameters.length) = some 0 := by decide +kernel
theorem kd_X10_recordCount : yX10_recordCount.cls ≠ "java/lang/invoke/MethodHandle" ∧ yX10_recordCount.cls ≠ "java/lang/invoke/VarHandle" ∧ (parseMethodDescriptor yX10_recordCount.desc).map (fun d => d.parameters.length) = some 0 := by decide +kernel
theorem kd_X10_logSize : yX10_logSize.cls ≠ "java/lang/invoke/MethodHandle" ∧ yX10_logSize.cls ≠ "java/lang/invoke/VarHandle" ∧ (parseMethodDescriptor yX10_logSize.desc).map (fun d => d.parameters.length) = some 0 := by decide +kernel
theorem kd_L_count : yL_count.cls ≠ "java/lang/invoke/MethodHandle" ∧ yL_count.cls ≠ "java/lang/invoke/VarHandle" ∧ (parseMethodDescriptor yL_count.desc).map (fun d => d.parameters.length) = some 3 := by decide +kernel
theorem kd_X10_count : yX10_count.cls ≠ "java/lang/invoke/MethodHandle" ∧ yX10_count.cls ≠ "java/lang/invoke/VarHandle" ∧ (parseMethodDescriptor yX10_count.desc).map (fun d => d.parameters.length) = some 1 := by decide +kernel
theorem kd_X10_needRange : yX10_needRange.cls ≠ "java/lang/invoke/MethodHandle" ∧ yX10_needRange.cls ≠ "java/lang/invoke/VarHandle" ∧ (parseMethodDescriptor yX10_needRange.desc).map (fun d => d.parameters.length) = some 3 := by decide +kernel
theorem kd_L_setting : yL_setting.cls ≠ "java/lang/invoke/MethodHandle" ∧ yL_setting.cls ≠ "java/lang/invoke/VarHandle" ∧ (parseMethodDescriptor yL_setting.desc).map (fun d => d.parameters.length) = some 3 := by decide +kernel
theorem kd_X10_setting : yX10_setting.cls ≠ "java/lang/invoke/MethodHandle" ∧ yX10_setting.cls ≠ "java/lang/invoke/VarHandle" ∧ (parseMethodDescriptor yX10_setting.desc).map (fun d => d.parameters.length) = some 1 := by decide +kernel
theorem kd_L_setAmbient : yL_setAmbient.cls ≠ "java/lang/invoke/MethodHandle" ∧ yL_setAmbient.cls ≠ "java/lang/invoke/VarHandle" ∧ (parseMethodDescriptor yL_setAmbient.desc).map (fun d => d.parameters.length) = some 3 := by decide +kernel
theorem kd_X10_setAmbient : yX10_setAmbient.cls ≠ "java/lang/invoke/MethodHandle" ∧ yX10_setAmbient.cls ≠ "java/lang/invoke/VarHandle" ∧ (parseMethodDescriptor yX10_setAmbient.desc).map (fun d => d.parameters.length) = some 1 := by decide +kernel
theorem kd_L_setLimits : yL_setLimits.cls ≠ "java/lang/invoke/MethodHandle" ∧ yL_setLimits.cls ≠ "java/lang/invoke/VarHandle" ∧ (parseMethodDescriptor yL_setLimits.desc).map (fun d => d.parameters.length) = some 4 := by decide +kernel
theorem kd_X10_setLimits : yX10_setLimits.cls ≠ "java/lang/invoke/MethodHandle" ∧ yX10_setLimits.cls ≠ "java/lang/invoke/VarHandle" ∧ (parseMethodDescriptor yX10_setLimits.desc).map (fun d => d.parameters.length) = some 2 := by decide +kernel
theorem kd_L_setDerate : yL_setDerate.cls ≠ "java/lang/invoke/MethodHandle" ∧ yL_setDerate.cls ≠ "java/lang/invoke/VarHandle" ∧ (parseMethodDescriptor yL_setDerate.desc).map (fun d => d.parameters.length) = some 3 := by decide +kernel
theorem kd_X10_setDerate : yX10_setDerate.cls ≠ "java/lang/invoke/MethodHandle" ∧ yX10_setDerate.cls ≠ "java/lang/invoke/VarHandle" ∧ (parseMethodDescriptor yX10_setDerate.desc).map (fun d => d.parameters.length) = some 1 := by decide +kernel
theorem kd_L_stepValue : yL_stepValue.cls ≠ "java/lang/invoke/MethodHandle" ∧ yL_stepValue.cls ≠ "java/lang/invoke/VarHandle" ∧ (parseMethodDescriptor yL_stepValue.desc).map (fun d => d.parameters.length) = some 5 := by decide +kernel
theorem kd_X10_stepValue : yX10_stepValue.cls ≠ "java/lang/invoke/MethodHandle" ∧ yX10_stepValue.cls ≠ "java/lang/invoke/VarHandle" ∧ (parseMethodDescriptor yX10_stepValue.desc).map (fun d => d.parameters.length) = some 3 := by decide +kernel
theorem kd_X10_needProgram : yX10_needProgram.cls ≠ "java/lang/invoke/MethodHandle" ∧ yX10_needProgram.cls ≠ "java/lang/invoke/VarHandle" ∧ (parseMethodDescriptor yX10_needProgram.desc).map (fun d => d.parameters.length) = some 1 := by decide +kernel
theorem kd_X5_stepsOf : yX5_stepsOf.cls ≠ "java/lang/invoke/MethodHandle" ∧ yX5_stepsOf.cls ≠ "java/lang/invoke/VarHandle" ∧ (parseMethodDescriptor yX5_stepsOf.desc).map (fun d => d.parameters.length) = some 1 := by decide +kernel
theorem kd_X5_kindOf : yX5_kindOf.cls ≠ "java/lang/invoke/MethodHandle" ∧ yX5_kindOf.cls ≠ "java/lang/invoke/VarHandle" ∧ (parseMethodDescriptor yX5_kindOf.desc).map (fun d => d.parameters.length) = some 2 := by decide +kernel
theorem kd_X5_firstOf : yX5_firstOf.cls ≠ "java/lang/invoke/MethodHandle" ∧ yX5_firstOf.cls ≠ "java/lang/invoke/VarHandle" ∧ (parseMethodDescriptor yX5_firstOf.desc).map (fun d => d.parameters.length) = some 2 := by decide +kernel
theorem kd_X5_secondOf : yX5_secondOf.cls ≠ "java/lang/invoke/MethodHandle" ∧ yX5_secondOf.cls ≠ "java/lang/invoke/VarHandle" ∧ (parseMethodDescriptor yX5_secondOf.desc).map (fun d => d.parameters.length) = some 2 := by decide +kernel
theorem kd_L_advance : yL_advance.cls ≠ "java/lang/invoke/MethodHandle" ∧ yL_advance.cls ≠ "java/lang/invoke/VarHandle" ∧ (parseMethodDescriptor yL_advance.desc).map (fun d => d.parameters.length) = some 3 := by decide +kernel
theorem kd_X10_advance : yX10_advance.cls ≠ "java/lang/invoke/MethodHandle" ∧ yX10_advance.cls ≠ "java/lang/invoke/VarHandle" ∧ (parseMethodDescriptor yX10_advance.desc).map (fun d => d.parameters.length) = some 1 := by decide +kernel
theorem kd_X1_passTick : yX1_passTick.cls ≠ "java/lang/invoke/MethodHandle" ∧ yX1_passTick.cls ≠ "java/lang/invoke/VarHandle" ∧ (parseMethodDescriptor yX1_passTick.desc).map (fun d => d.parameters.length) = some 1 := by decide +kernel
theorem kd_X1_wantedCurrent : yX1_wantedCurrent.cls ≠ "java/lang/invoke/MethodHandle" ∧ yX1_wantedCurrent.cls ≠ "java/lang/invoke/VarHandle" ∧ (parseMethodDescriptor yX1_wantedCurrent.desc).map (fun d => d.parameters.length) = some 1 := by decide +kernel
theorem kd_X0_holding : yX0_holding.cls ≠ "java/lang/invoke/MethodHandle" ∧ yX0_holding.cls ≠ "java/lang/invoke/VarHandle" ∧ (parseMethodDescriptor yX0_holding.desc).map (fun d => d.parameters.length) = some 1 := by decide +kernel
theorem kd_X0_restVoltageAt : yX0_restVoltageAt.cls ≠ "java/lang/invoke/MethodHandle" ∧ yX0_restVoltageAt.cls ≠ "java/lang/invoke/VarHandle" ∧ (parseMethodDescriptor yX0_restVoltageAt.desc).map (fun d => d.parameters.length) = some 1 := by decide +kernel
theorem kd_J9_min_f86c9 : yJ9_min_f86c9.cls ≠ "java/lang/invoke/MethodHandle" ∧ yJ9_min_f86c9.cls ≠ "java/lang/invoke/VarHandle" ∧ (parseMethodDescriptor yJ9_min_f86c9.desc).map (fun d => d.parameters.length) = some 2 := by decide +kernel
theorem kd_J9_max_f86c9 : yJ9_max_f86c9.cls ≠ "java/lang/invoke/MethodHandle" ∧ yJ9_max_f86c9.cls ≠ "java/lang/invoke/VarHandle" ∧ (parseMethodDescriptor yJ9_max_f86c9.desc).map (fun d => d.parameters.length) = some 2 := by decide +kernel
theorem kd_X0_allowed : yX0_allowed.cls ≠ "java/lang/invoke/MethodHandle" ∧ yX0_allowed.cls ≠ "java/lang/invoke/VarHandle" ∧ (parseMethodDescriptor yX0_allowed.desc).map (fun d => d.parameters.length) = some 2 := by decide +kernel
theorem kd_X0_passCurrent : yX0_passCurrent.cls ≠ "java/lang/invoke/MethodHandle" ∧ yX0_passCurrent.cls ≠ "java/lang/invoke/VarHandle" ∧ (parseMethodDescriptor yX0_passCurrent.desc).map (fun d => d.parameters.length) = some 2 := by decide +kernel
theorem kd_X0_polarize : yX0_polarize.cls ≠ "java/lang/invoke/MethodHandle" ∧ yX0_polarize.cls ≠ "java/lang/invoke/VarHandle" ∧ (parseMethodDescriptor yX0_polarize.desc).map (fun d => d.parameters.length) = some 1 := by decide +kernel
theorem kd_J6_compare_7cf53 : yJ6_compare_7cf53.cls ≠ "java/lang/invoke/MethodHandle" ∧ yJ6_compare_7cf53.cls ≠ "java/lang/invoke/VarHandle" ∧ (parseMethodDescriptor yJ6_compare_7cf53.desc).map (fun d => d.parameters.length) = some 2 := by decide +kernel
theorem kd_X0_moveCharge : yX0_moveCharge.cls ≠ "java/lang/invoke/MethodHandle" ∧ yX0_moveCharge.cls ≠ "java/lang/invoke/VarHandle" ∧ (parseMethodDescriptor yX0_moveCharge.desc).map (fun d => d.parameters.length) = some 2 := by decide +kernel
theorem kd_X0_wear : yX0_wear.cls ≠ "java/lang/invoke/MethodHandle" ∧ yX0_wear.cls ≠ "java/lang/invoke/VarHandle" ∧ (parseMethodDescriptor yX0_wear.desc).map (fun d => d.parameters.length) = some 2 := by decide +kernel
theorem kd_X10_remainder : yX10_remainder.cls ≠ "java/lang/invoke/MethodHandle" ∧ yX10_remainder.cls ≠ "java/lang/invoke/VarHandle" ∧ (parseMethodDescriptor yX10_remainder.desc).map (fun d => d.parameters.length) = some 2 := by decide +kernel
theorem kd_X0_warm : yX0_warm.cls ≠ "java/lang/invoke/MethodHandle" ∧ yX0_warm.cls ≠ "java/lang/invoke/VarHandle" ∧ (parseMethodDescriptor yX0_warm.desc).map (fun d => d.parameters.length) = some 2 := by decide +kernel
theorem kd_X0_thousandths : yX0_thousandths.cls ≠ "java/lang/invoke/MethodHandle" ∧ yX0_thousandths.cls ≠ "java/lang/invoke/VarHandle" ∧ (parseMethodDescriptor yX0_thousandths.desc).map (fun d => d.parameters.length) = some 0 := by decide +kernel
theorem kd_X4_countFilling : yX4_countFilling.cls ≠ "java/lang/invoke/MethodHandle" ∧ yX4_countFilling.cls ≠ "java/lang/invoke/VarHandle" ∧ (parseMethodDescriptor yX4_countFilling.desc).map (fun d => d.parameters.length) = some 1 := by decide +kernel
theorem kd_X1_warn : yX1_warn.cls ≠ "java/lang/invoke/MethodHandle" ∧ yX1_warn.cls ≠ "java/lang/invoke/VarHandle" ∧ (parseMethodDescriptor yX1_warn.desc).map (fun d => d.parameters.length) = some 1 := by decide +kernel
theorem kd_X9_note : yX9_note.cls ≠ "java/lang/invoke/MethodHandle" ∧ yX9_note.cls ≠ "java/lang/invoke/VarHandle" ∧ (parseMethodDescriptor yX9_note.desc).map (fun d => d.parameters.length) = some 3 := by decide +kernel
theorem kd_X8_addRow : yX8_addRow.cls ≠ "java/lang/invoke/MethodHandle" ∧ yX8_addRow.cls ≠ "java/lang/invoke/VarHandle" ∧ (parseMethodDescriptor yX8_addRow.desc).map (fun d => d.parameters.length) = some 0 := by decide +kernel
theorem kd_X8_placeOf : yX8_placeOf.cls ≠ "java/lang/invoke/MethodHandle" ∧ yX8_placeOf.cls ≠ "java/lang/invoke/VarHandle" ∧ (parseMethodDescriptor yX8_placeOf.desc).map (fun d => d.parameters.length) = some 1 := by decide +kernel
theorem kd_X1_stepEnds : yX1_stepEnds.cls ≠ "java/lang/invoke/MethodHandle" ∧ yX1_stepEnds.cls ≠ "java/lang/invoke/VarHandle" ∧ (parseMethodDescriptor yX1_stepEnds.desc).map (fun d => d.parameters.length) = some 1 := by decide +kernel
theorem kd_X1_tripReason : yX1_tripReason.cls ≠ "java/lang/invoke/MethodHandle" ∧ yX1_tripReason.cls ≠ "java/lang/invoke/VarHandle" ∧ (parseMethodDescriptor yX1_tripReason.desc).map (fun d => d.parameters.length) = some 2 := by decide +kernel
theorem kd_X1_trip : yX1_trip.cls ≠ "java/lang/invoke/MethodHandle" ∧ yX1_trip.cls ≠ "java/lang/invoke/VarHandle" ∧ (parseMethodDescriptor yX1_trip.desc).map (fun d => d.parameters.length) = some 2 := by decide +kernel
theorem kd_X1_measureEnd : yX1_measureEnd.cls ≠ "java/lang/invoke/MethodHandle" ∧ yX1_measureEnd.cls ≠ "java/lang/invoke/VarHandle" ∧ (parseMethodDescriptor yX1_measureEnd.desc).map (fun d => d.parameters.length) = some 1 := by decide +kernel
theorem kd_X1_makeRecord : yX1_makeRecord.cls ≠ "java/lang/invoke/MethodHandle" ∧ yX1_makeRecord.cls ≠ "java/lang/invoke/VarHandle" ∧ (parseMethodDescriptor yX1_makeRecord.desc).map (fun d => d.parameters.length) = some 1 := by decide +kernel
theorem kd_X1_countFromHere : yX1_countFromHere.cls ≠ "java/lang/invoke/MethodHandle" ∧ yX1_countFromHere.cls ≠ "java/lang/invoke/VarHandle" ∧ (parseMethodDescriptor yX1_countFromHere.desc).map (fun d => d.parameters.length) = some 0 := by decide +kernel
theorem kd_X1_leaveStep : yX1_leaveStep.cls ≠ "java/lang/invoke/MethodHandle" ∧ yX1_leaveStep.cls ≠ "java/lang/invoke/VarHandle" ∧ (parseMethodDescriptor yX1_leaveStep.desc).map (fun d => d.parameters.length) = some 1 := by decide +kernel
theorem kd_X1_stepBehind : yX1_stepBehind.cls ≠ "java/lang/invoke/MethodHandle" ∧ yX1_stepBehind.cls ≠ "java/lang/invoke/VarHandle" ∧ (parseMethodDescriptor yX1_stepBehind.desc).map (fun d => d.parameters.length) = some 1 := by decide +kernel
theorem kd_X1_enterStep : yX1_enterStep.cls ≠ "java/lang/invoke/MethodHandle" ∧ yX1_enterStep.cls ≠ "java/lang/invoke/VarHandle" ∧ (parseMethodDescriptor yX1_enterStep.desc).map (fun d => d.parameters.length) = some 1 := by decide +kernel
theorem kd_X1_takeWaiting : yX1_takeWaiting.cls ≠ "java/lang/invoke/MethodHandle" ∧ yX1_takeWaiting.cls ≠ "java/lang/invoke/VarHandle" ∧ (parseMethodDescriptor yX1_takeWaiting.desc).map (fun d => d.parameters.length) = some 0 := by decide +kernel
theorem kd_X1_begin : yX1_begin.cls ≠ "java/lang/invoke/MethodHandle" ∧ yX1_begin.cls ≠ "java/lang/invoke/VarHandle" ∧ (parseMethodDescriptor yX1_begin.desc).map (fun d => d.parameters.length) = some 2 := by decide +kernel
theorem kd_L_start : yL_start.cls ≠ "java/lang/invoke/MethodHandle" ∧ yL_start.cls ≠ "java/lang/invoke/VarHandle" ∧ (parseMethodDescriptor yL_start.desc).map (fun d => d.parameters.length) = some 4 := by decide +kernel
theorem kd_X10_start : yX10_start.cls ≠ "java/lang/invoke/MethodHandle" ∧ yX10_start.cls ≠ "java/lang/invoke/VarHandle" ∧ (parseMethodDescriptor yX10_start.desc).map (fun d => d.parameters.length) = some 2 := by decide +kernel
theorem kd_X10_needChannel : yX10_needChannel.cls ≠ "java/lang/invoke/MethodHandle" ∧ yX10_needChannel.cls ≠ "java/lang/invoke/VarHandle" ∧ (parseMethodDescriptor yX10_needChannel.desc).map (fun d => d.parameters.length) = some 1 := by decide +kernel
theorem kd_X1_isFree : yX1_isFree.cls ≠ "java/lang/invoke/MethodHandle" ∧ yX1_isFree.cls ≠ "java/lang/invoke/VarHandle" ∧ (parseMethodDescriptor yX1_isFree.desc).map (fun d => d.parameters.length) = some 0 := by decide +kernel
theorem kd_X9_channelsIn : yX9_channelsIn.cls ≠ "java/lang/invoke/MethodHandle" ∧ yX9_channelsIn.cls ≠ "java/lang/invoke/VarHandle" ∧ (parseMethodDescriptor yX9_channelsIn.desc).map (fun d => d.parameters.length) = some 1 := by decide +kernel
theorem kd_J6_bitCount_0f7a4 : yJ6_bitCount_0f7a4.cls ≠ "java/lang/invoke/MethodHandle" ∧ yJ6_bitCount_0f7a4.cls ≠ "java/lang/invoke/VarHandle" ∧ (parseMethodDescriptor yJ6_bitCount_0f7a4.desc).map (fun d => d.parameters.length) = some 1 := by decide +kernel
theorem kd_L_pause : yL_pause.cls ≠ "java/lang/invoke/MethodHandle" ∧ yL_pause.cls ≠ "java/lang/invoke/VarHandle" ∧ (parseMethodDescriptor yL_pause.desc).map (fun d => d.parameters.length) = some 3 := by decide +kernel
theorem kd_X10_pause : yX10_pause.cls ≠ "java/lang/invoke/MethodHandle" ∧ yX10_pause.cls ≠ "java/lang/invoke/VarHandle" ∧ (parseMethodDescriptor yX10_pause.desc).map (fun d => d.parameters.length) = some 1 := by decide +kernel
theorem kd_L_resume : yL_resume.cls ≠ "java/lang/invoke/MethodHandle" ∧ yL_resume.cls ≠ "java/lang/invoke/VarHandle" ∧ (parseMethodDescriptor yL_resume.desc).map (fun d => d.parameters.length) = some 3 := by decide +kernel
theorem kd_X10_resume : yX10_resume.cls ≠ "java/lang/invoke/MethodHandle" ∧ yX10_resume.cls ≠ "java/lang/invoke/VarHandle" ∧ (parseMethodDescriptor yX10_resume.desc).map (fun d => d.parameters.length) = some 1 := by decide +kernel
theorem kd_L_stop : yL_stop.cls ≠ "java/lang/invoke/MethodHandle" ∧ yL_stop.cls ≠ "java/lang/invoke/VarHandle" ∧ (parseMethodDescriptor yL_stop.desc).map (fun d => d.parameters.length) = some 3 := by decide +kernel
theorem kd_X10_stop : yX10_stop.cls ≠ "java/lang/invoke/MethodHandle" ∧ yX10_stop.cls ≠ "java/lang/invoke/VarHandle" ∧ (parseMethodDescriptor yX10_stop.desc).map (fun d => d.parameters.length) = some 1 := by decide +kernel
theorem kd_L_skip : yL_skip.cls ≠ "java/lang/invoke/MethodHandle" ∧ yL_skip.cls ≠ "java/lang/invoke/VarHandle" ∧ (parseMethodDescriptor yL_skip.desc).map (fun d => d.parameters.length) = some 3 := by decide +kernel
theorem kd_X10_skip : yX10_skip.cls ≠ "java/lang/invoke/MethodHandle" ∧ yX10_skip.cls ≠ "java/lang/invoke/VarHandle" ∧ (parseMethodDescriptor yX10_skip.desc).map (fun d => d.parameters.length) = some 1 := by decide +kernel
theorem kd_L_replace : yL_replace.cls ≠ "java/lang/invoke/MethodHandle" ∧ yL_replace.cls ≠ "java/lang/invoke/VarHandle" ∧ (parseMethodDescriptor yL_replace.desc).map (fun d => d.parameters.length) = some 4 := by decide +kernel
theorem kd_X10_replace : yX10_replace.cls ≠ "java/lang/invoke/MethodHandle" ∧ yX10_replace.cls ≠ "java/lang/invoke/VarHandle" ∧ (parseMethodDescriptor yX10_replace.desc).map (fun d => d.parameters.length) = some 2 := by decide +kernel
theorem kd_L_enqueue : yL_enqueue.cls ≠ "java/lang/invoke/MethodHandle" ∧ yL_enqueue.cls ≠ "java/lang/invoke/VarHandle" ∧ (parseMethodDescriptor yL_enqueue.desc).map (fun d => d.parameters.length) = some 4 := by decide +kernel
theorem kd_X10_enqueue : yX10_enqueue.cls ≠ "java/lang/invoke/MethodHandle" ∧ yX10_enqueue.cls ≠ "java/lang/invoke/VarHandle" ∧ (parseMethodDescriptor yX10_enqueue.desc).map (fun d => d.parameters.length) = some 2 := by decide +kernel
theorem kd_L_dequeue : yL_dequeue.cls ≠ "java/lang/invoke/MethodHandle" ∧ yL_dequeue.cls ≠ "java/lang/invoke/VarHandle" ∧ (parseMethodDescriptor yL_dequeue.desc).map (fun d => d.parameters.length) = some 3 := by decide +kernel
theorem kd_X10_dequeue : yX10_dequeue.cls ≠ "java/lang/invoke/MethodHandle" ∧ yX10_dequeue.cls ≠ "java/lang/invoke/VarHandle" ∧ (parseMethodDescriptor yX10_dequeue.desc).map (fun d => d.parameters.length) = some 1 := by decide +kernel
theorem kd_L_startNext : yL_startNext.cls ≠ "java/lang/invoke/MethodHandle" ∧ yL_startNext.cls ≠ "java/lang/invoke/VarHandle" ∧ (parseMethodDescriptor yL_startNext.desc).map (fun d => d.parameters.length) = some 3 := by decide +kernel
theorem kd_X10_startNext : yX10_startNext.cls ≠ "java/lang/invoke/MethodHandle" ∧ yX10_startNext.cls ≠ "java/lang/invoke/VarHandle" ∧ (parseMethodDescriptor yX10_startNext.desc).map (fun d => d.parameters.length) = some 1 := by decide +kernel
theorem kd_L_queueAt : yL_queueAt.cls ≠ "java/lang/invoke/MethodHandle" ∧ yL_queueAt.cls ≠ "java/lang/invoke/VarHandle" ∧ (parseMethodDescriptor yL_queueAt.desc).map (fun d => d.parameters.length) = some 4 := by decide +kernel
theorem kd_X10_queueAt : yX10_queueAt.cls ≠ "java/lang/invoke/MethodHandle" ∧ yX10_queueAt.cls ≠ "java/lang/invoke/VarHandle" ∧ (parseMethodDescriptor yX10_queueAt.desc).map (fun d => d.parameters.length) = some 2 := by decide +kernel
theorem kd_L_queueSize : yL_queueSize.cls ≠ "java/lang/invoke/MethodHandle" ∧ yL_queueSize.cls ≠ "java/lang/invoke/VarHandle" ∧ (parseMethodDescriptor yL_queueSize.desc).map (fun d => d.parameters.length) = some 3 := by decide +kernel
theorem kd_X10_queueSize : yX10_queueSize.cls ≠ "java/lang/invoke/MethodHandle" ∧ yX10_queueSize.cls ≠ "java/lang/invoke/VarHandle" ∧ (parseMethodDescriptor yX10_queueSize.desc).map (fun d => d.parameters.length) = some 1 := by decide +kernel
theorem kd_L_value : yL_value.cls ≠ "java/lang/invoke/MethodHandle" ∧ yL_value.cls ≠ "java/lang/invoke/VarHandle" ∧ (parseMethodDescriptor yL_value.desc).map (fun d => d.parameters.length) = some 4 := by decide +kernel
theorem kd_X10_value : yX10_value.cls ≠ "java/lang/invoke/MethodHandle" ∧ yX10_value.cls ≠ "java/lang/invoke/VarHandle" ∧ (parseMethodDescriptor yX10_value.desc).map (fun d => d.parameters.length) = some 2 := by decide +kernel
theorem kd_X1_number : yX1_number.cls ≠ "java/lang/invoke/MethodHandle" ∧ yX1_number.cls ≠ "java/lang/invoke/VarHandle" ∧ (parseMethodDescriptor yX1_number.desc).map (fun d => d.parameters.length) = some 1 := by decide +kernel
theorem kd_L_restVoltage : yL_restVoltage.cls ≠ "java/lang/invoke/MethodHandle" ∧ yL_restVoltage.cls ≠ "java/lang/invoke/VarHandle" ∧ (parseMethodDescriptor yL_restVoltage.desc).map (fun d => d.parameters.length) = some 4 := by decide +kernel
theorem kd_X10_restVoltage : yX10_restVoltage.cls ≠ "java/lang/invoke/MethodHandle" ∧ yX10_restVoltage.cls ≠ "java/lang/invoke/VarHandle" ∧ (parseMethodDescriptor yX10_restVoltage.desc).map (fun d => d.parameters.length) = some 2 := by decide +kernel
theorem kd_L_chargeFor : yL_chargeFor.cls ≠ "java/lang/invoke/MethodHandle" ∧ yL_chargeFor.cls ≠ "java/lang/invoke/VarHandle" ∧ (parseMethodDescriptor yL_chargeFor.desc).map (fun d => d.parameters.length) = some 4 := by decide +kernel
theorem kd_X10_chargeFor : yX10_chargeFor.cls ≠ "java/lang/invoke/MethodHandle" ∧ yX10_chargeFor.cls ≠ "java/lang/invoke/VarHandle" ∧ (parseMethodDescriptor yX10_chargeFor.desc).map (fun d => d.parameters.length) = some 2 := by decide +kernel
theorem kd_X0_smallestChargeFor : yX0_smallestChargeFor.cls ≠ "java/lang/invoke/MethodHandle" ∧ yX0_smallestChargeFor.cls ≠ "java/lang/invoke/VarHandle" ∧ (parseMethodDescriptor yX0_smallestChargeFor.desc).map (fun d => d.parameters.length) = some 1 := by decide +kernel
theorem kd_L_filling : yL_filling.cls ≠ "java/lang/invoke/MethodHandle" ∧ yL_filling.cls ≠ "java/lang/invoke/VarHandle" ∧ (parseMethodDescriptor yL_filling.desc).map (fun d => d.parameters.length) = some 3 := by decide +kernel
theorem kd_X10_filling : yX10_filling.cls ≠ "java/lang/invoke/MethodHandle" ∧ yX10_filling.cls ≠ "java/lang/invoke/VarHandle" ∧ (parseMethodDescriptor yX10_filling.desc).map (fun d => d.parameters.length) = some 1 := by decide +kernel
theorem kd_L_ledger : yL_ledger.cls ≠ "java/lang/invoke/MethodHandle" ∧ yL_ledger.cls ≠ "java/lang/invoke/VarHandle" ∧ (parseMethodDescriptor yL_ledger.desc).map (fun d => d.parameters.length) = some 4 := by decide +kernel
theorem kd_X10_ledger : yX10_ledger.cls ≠ "java/lang/invoke/MethodHandle" ∧ yX10_ledger.cls ≠ "java/lang/invoke/VarHandle" ∧ (parseMethodDescriptor yX10_ledger.desc).map (fun d => d.parameters.length) = some 2 := by decide +kernel
theorem kd_L_chargeEfficiency : yL_chargeEfficiency.cls ≠ "java/lang/invoke/MethodHandle" ∧ yL_chargeEfficiency.cls ≠ "java/lang/invoke/VarHandle" ∧ (parseMethodDescriptor yL_chargeEfficiency.desc).map (fun d => d.parameters.length) = some 3 := by decide +kernel
theorem kd_X10_chargeEfficiency : yX10_chargeEfficiency.cls ≠ "java/lang/invoke/MethodHandle" ∧ yX10_chargeEfficiency.cls ≠ "java/lang/invoke/VarHandle" ∧ (parseMethodDescriptor yX10_chargeEfficiency.desc).map (fun d => d.parameters.length) = some 1 := by decide +kernel
theorem kd_L_energyEfficiency : yL_energyEfficiency.cls ≠ "java/lang/invoke/MethodHandle" ∧ yL_energyEfficiency.cls ≠ "java/lang/invoke/VarHandle" ∧ (parseMethodDescriptor yL_energyEfficiency.desc).map (fun d => d.parameters.length) = some 3 := by decide +kernel
theorem kd_X10_energyEfficiency : yX10_energyEfficiency.cls ≠ "java/lang/invoke/MethodHandle" ∧ yX10_energyEfficiency.cls ≠ "java/lang/invoke/VarHandle" ∧ (parseMethodDescriptor yX10_energyEfficiency.desc).map (fun d => d.parameters.length) = some 1 := by decide +kernel
theorem kd_L_power : yL_power.cls ≠ "java/lang/invoke/MethodHandle" ∧ yL_power.cls ≠ "java/lang/invoke/VarHandle" ∧ (parseMethodDescriptor yL_power.desc).map (fun d => d.parameters.length) = some 3 := by decide +kernel
theorem kd_X10_power : yX10_power.cls ≠ "java/lang/invoke/MethodHandle" ∧ yX10_power.cls ≠ "java/lang/invoke/VarHandle" ∧ (parseMethodDescriptor yX10_power.desc).map (fun d => d.parameters.length) = some 1 := by decide +kernel
theorem kd_L_measuredRest : yL_measuredRest.cls ≠ "java/lang/invoke/MethodHandle" ∧ yL_measuredRest.cls ≠ "java/lang/invoke/VarHandle" ∧ (parseMethodDescriptor yL_measuredRest.desc).map (fun d => d.parameters.length) = some 3 := by decide +kernel
theorem kd_X10_measuredRest : yX10_measuredRest.cls ≠ "java/lang/invoke/MethodHandle" ∧ yX10_measuredRest.cls ≠ "java/lang/invoke/VarHandle" ∧ (parseMethodDescriptor yX10_measuredRest.desc).map (fun d => d.parameters.length) = some 1 := by decide +kernel
theorem kd_L_capacityByRule : yL_capacityByRule.cls ≠ "java/lang/invoke/MethodHandle" ∧ yL_capacityByRule.cls ≠ "java/lang/invoke/VarHandle" ∧ (parseMethodDescriptor yL_capacityByRule.desc).map (fun d => d.parameters.length) = some 3 := by decide +kernel
theorem kd_X10_capacityByRule : yX10_capacityByRule.cls ≠ "java/lang/invoke/MethodHandle" ∧ yX10_capacityByRule.cls ≠ "java/lang/invoke/VarHandle" ∧ (parseMethodDescriptor yX10_capacityByRule.desc).map (fun d => d.parameters.length) = some 1 := by decide +kernel
theorem kd_L_internalResistance : yL_internalResistance.cls ≠ "java/lang/invoke/MethodHandle" ∧ yL_internalResistance.cls ≠ "java/lang/invoke/VarHandle" ∧ (parseMethodDescriptor yL_internalResistance.desc).map (fun d => d.parameters.length) = some 3 := by decide +kernel
theorem kd_X10_internalResistance : yX10_internalResistance.cls ≠ "java/lang/invoke/MethodHandle" ∧ yX10_internalResistance.cls ≠ "java/lang/invoke/VarHandle" ∧ (parseMethodDescriptor yX10_internalResistance.desc).map (fun d => d.parameters.length) = some 1 := by decide +kernel
theorem kd_L_ticksIn : yL_ticksIn.cls ≠ "java/lang/invoke/MethodHandle" ∧ yL_ticksIn.cls ≠ "java/lang/invoke/VarHandle" ∧ (parseMethodDescriptor yL_ticksIn.desc).map (fun d => d.parameters.length) = some 4 := by decide +kernel
theorem kd_X10_ticksIn : yX10_ticksIn.cls ≠ "java/lang/invoke/MethodHandle" ∧ yX10_ticksIn.cls ≠ "java/lang/invoke/VarHandle" ∧ (parseMethodDescriptor yX10_ticksIn.desc).map (fun d => d.parameters.length) = some 2 := by decide +kernel
theorem kd_L_warnings : yL_warnings.cls ≠ "java/lang/invoke/MethodHandle" ∧ yL_warnings.cls ≠ "java/lang/invoke/VarHandle" ∧ (parseMethodDescriptor yL_warnings.desc).map (fun d => d.parameters.length) = some 3 := by decide +kernel
theorem kd_X10_warnings : yX10_warnings.cls ≠ "java/lang/invoke/MethodHandle" ∧ yX10_warnings.cls ≠ "java/lang/invoke/VarHandle" ∧ (parseMethodDescriptor yX10_warnings.desc).map (fun d => d.parameters.length) = some 1 := by decide +kernel
theorem kd_L_warned : yL_warned.cls ≠ "java/lang/invoke/MethodHandle" ∧ yL_warned.cls ≠ "java/lang/invoke/VarHandle" ∧ (parseMethodDescriptor yL_warned.desc).map (fun d => d.parameters.length) = some 3 := by decide +kernel
theorem kd_X10_warned : yX10_warned.cls ≠ "java/lang/invoke/MethodHandle" ∧ yX10_warned.cls ≠ "java/lang/invoke/VarHandle" ∧ (parseMethodDescriptor yX10_warned.desc).map (fun d => d.parameters.length) = some 1 := by decide +kernel
theorem kd_L_repeats : yL_repeats.cls ≠ "java/lang/invoke/MethodHandle" ∧ yL_repeats.cls ≠ "java/lang/invoke/VarHandle" ∧ (parseMethodDescriptor yL_repeats.desc).map (fun d => d.parameters.length) = some 4 := by decide +kernel
theorem kd_X10_repeats : yX10_repeats.cls ≠ "java/lang/invoke/MethodHandle" ∧ yX10_repeats.cls ≠ "java/lang/invoke/VarHandle" ∧ (parseMethodDescriptor yX10_repeats.desc).map (fun d => d.parameters.length) = some 2 := by decide +kernel
theorem kd_L_inState : yL_inState.cls ≠ "java/lang/invoke/MethodHandle" ∧ yL_inState.cls ≠ "java/lang/invoke/VarHandle" ∧ (parseMethodDescriptor yL_inState.desc).map (fun d => d.parameters.length) = some 3 := by decide +kernel
theorem kd_X10_inState : yX10_inState.cls ≠ "java/lang/invoke/MethodHandle" ∧ yX10_inState.cls ≠ "java/lang/invoke/VarHandle" ∧ (parseMethodDescriptor yX10_inState.desc).map (fun d => d.parameters.length) = some 1 := by decide +kernel
theorem kd_L_record : yL_record.cls ≠ "java/lang/invoke/MethodHandle" ∧ yL_record.cls ≠ "java/lang/invoke/VarHandle" ∧ (parseMethodDescriptor yL_record.desc).map (fun d => d.parameters.length) = some 4 := by decide +kernel
theorem kd_X10_record : yX10_record.cls ≠ "java/lang/invoke/MethodHandle" ∧ yX10_record.cls ≠ "java/lang/invoke/VarHandle" ∧ (parseMethodDescriptor yX10_record.desc).map (fun d => d.parameters.length) = some 2 := by decide +kernel
theorem kd_X8_get : yX8_get.cls ≠ "java/lang/invoke/MethodHandle" ∧ yX8_get.cls ≠ "java/lang/invoke/VarHandle" ∧ (parseMethodDescriptor yX8_get.desc).map (fun d => d.parameters.length) = some 2 := by decide +kernel
theorem kd_L_counting : yL_counting.cls ≠ "java/lang/invoke/MethodHandle" ∧ yL_counting.cls ≠ "java/lang/invoke/VarHandle" ∧ (parseMethodDescriptor yL_counting.desc).map (fun d => d.parameters.length) = some 3 := by decide +kernel
theorem kd_X10_counting : yX10_counting.cls ≠ "java/lang/invoke/MethodHandle" ∧ yX10_counting.cls ≠ "java/lang/invoke/VarHandle" ∧ (parseMethodDescriptor yX10_counting.desc).map (fun d => d.parameters.length) = some 1 := by decide +kernel
theorem kd_X9_recordCounts : yX9_recordCounts.cls ≠ "java/lang/invoke/MethodHandle" ∧ yX9_recordCounts.cls ≠ "java/lang/invoke/VarHandle" ∧ (parseMethodDescriptor yX9_recordCounts.desc).map (fun d => d.parameters.length) = some 2 := by decide +kernel
theorem kd_L_loss : yL_loss.cls ≠ "java/lang/invoke/MethodHandle" ∧ yL_loss.cls ≠ "java/lang/invoke/VarHandle" ∧ (parseMethodDescriptor yL_loss.desc).map (fun d => d.parameters.length) = some 3 := by decide +kernel
theorem kd_X10_loss : yX10_loss.cls ≠ "java/lang/invoke/MethodHandle" ∧ yX10_loss.cls ≠ "java/lang/invoke/VarHandle" ∧ (parseMethodDescriptor yX10_loss.desc).map (fun d => d.parameters.length) = some 1 := by decide +kernel
theorem kd_L_logEntry : yL_logEntry.cls ≠ "java/lang/invoke/MethodHandle" ∧ yL_logEntry.cls ≠ "java/lang/invoke/VarHandle" ∧ (parseMethodDescriptor yL_logEntry.desc).map (fun d => d.parameters.length) = some 4 := by decide +kernel
theorem kd_X10_logEntry : yX10_logEntry.cls ≠ "java/lang/invoke/MethodHandle" ∧ yX10_logEntry.cls ≠ "java/lang/invoke/VarHandle" ∧ (parseMethodDescriptor yX10_logEntry.desc).map (fun d => d.parameters.length) = some 2 := by decide +kernel
theorem kd_L_eventsOf : yL_eventsOf.cls ≠ "java/lang/invoke/MethodHandle" ∧ yL_eventsOf.cls ≠ "java/lang/invoke/VarHandle" ∧ (parseMethodDescriptor yL_eventsOf.desc).map (fun d => d.parameters.length) = some 4 := by decide +kernel
theorem kd_X10_eventsOf : yX10_eventsOf.cls ≠ "java/lang/invoke/MethodHandle" ∧ yX10_eventsOf.cls ≠ "java/lang/invoke/VarHandle" ∧ (parseMethodDescriptor yX10_eventsOf.desc).map (fun d => d.parameters.length) = some 2 := by decide +kernel
theorem kd_L_stepEndsIn : yL_stepEndsIn.cls ≠ "java/lang/invoke/MethodHandle" ∧ yL_stepEndsIn.cls ≠ "java/lang/invoke/VarHandle" ∧ (parseMethodDescriptor yL_stepEndsIn.desc).map (fun d => d.parameters.length) = some 3 := by decide +kernel
theorem kd_X10_stepEndsIn : yX10_stepEndsIn.cls ≠ "java/lang/invoke/MethodHandle" ∧ yX10_stepEndsIn.cls ≠ "java/lang/invoke/VarHandle" ∧ (parseMethodDescriptor yX10_stepEndsIn.desc).map (fun d => d.parameters.length) = some 1 := by decide +kernel
theorem kd_X10_needTrial : yX10_needTrial.cls ≠ "java/lang/invoke/MethodHandle" ∧ yX10_needTrial.cls ≠ "java/lang/invoke/VarHandle" ∧ (parseMethodDescriptor yX10_needTrial.desc).map (fun d => d.parameters.length) = some 1 := by decide +kernel
theorem kd_L_doneIn : yL_doneIn.cls ≠ "java/lang/invoke/MethodHandle" ∧ yL_doneIn.cls ≠ "java/lang/invoke/VarHandle" ∧ (parseMethodDescriptor yL_doneIn.desc).map (fun d => d.parameters.length) = some 3 := by decide +kernel
theorem kd_X10_doneIn : yX10_doneIn.cls ≠ "java/lang/invoke/MethodHandle" ∧ yX10_doneIn.cls ≠ "java/lang/invoke/VarHandle" ∧ (parseMethodDescriptor yX10_doneIn.desc).map (fun d => d.parameters.length) = some 1 := by decide +kernel
theorem kd_X10_ticksUntil : yX10_ticksUntil.cls ≠ "java/lang/invoke/MethodHandle" ∧ yX10_ticksUntil.cls ≠ "java/lang/invoke/VarHandle" ∧ (parseMethodDescriptor yX10_ticksUntil.desc).map (fun d => d.parameters.length) = some 2 := by decide +kernel
theorem kd_L_tripsIn : yL_tripsIn.cls ≠ "java/lang/invoke/MethodHandle" ∧ yL_tripsIn.cls ≠ "java/lang/invoke/VarHandle" ∧ (parseMethodDescriptor yL_tripsIn.desc).map (fun d => d.parameters.length) = some 3 := by decide +kernel
theorem kd_X10_tripsIn : yX10_tripsIn.cls ≠ "java/lang/invoke/MethodHandle" ∧ yX10_tripsIn.cls ≠ "java/lang/invoke/VarHandle" ∧ (parseMethodDescriptor yX10_tripsIn.desc).map (fun d => d.parameters.length) = some 1 := by decide +kernel
theorem kd_L_valueAfter : yL_valueAfter.cls ≠ "java/lang/invoke/MethodHandle" ∧ yL_valueAfter.cls ≠ "java/lang/invoke/VarHandle" ∧ (parseMethodDescriptor yL_valueAfter.desc).map (fun d => d.parameters.length) = some 5 := by decide +kernel
theorem kd_X10_valueAfter : yX10_valueAfter.cls ≠ "java/lang/invoke/MethodHandle" ∧ yX10_valueAfter.cls ≠ "java/lang/invoke/VarHandle" ∧ (parseMethodDescriptor yX10_valueAfter.desc).map (fun d => d.parameters.length) = some 3 := by decide +kernel
theorem kd_L_peakTemperature : yL_peakTemperature.cls ≠ "java/lang/invoke/MethodHandle" ∧ yL_peakTemperature.cls ≠ "java/lang/invoke/VarHandle" ∧ (parseMethodDescriptor yL_peakTemperature.desc).map (fun d => d.parameters.length) = some 4 := by decide +kernel
theorem kd_X10_peakTemperature : yX10_peakTemperature.cls ≠ "java/lang/invoke/MethodHandle" ∧ yX10_peakTemperature.cls ≠ "java/lang/invoke/VarHandle" ∧ (parseMethodDescriptor yX10_peakTemperature.desc).map (fun d => d.parameters.length) = some 2 := by decide +kernel
theorem kd_L_settledIn : yL_settledIn.cls ≠ "java/lang/invoke/MethodHandle" ∧ yL_settledIn.cls ≠ "java/lang/invoke/VarHandle" ∧ (parseMethodDescriptor yL_settledIn.desc).map (fun d => d.parameters.length) = some 3 := by decide +kernel
theorem kd_X10_settledIn : yX10_settledIn.cls ≠ "java/lang/invoke/MethodHandle" ∧ yX10_settledIn.cls ≠ "java/lang/invoke/VarHandle" ∧ (parseMethodDescriptor yX10_settledIn.desc).map (fun d => d.parameters.length) = some 1 := by decide +kernel
theorem kd_L_duration : yL_duration.cls ≠ "java/lang/invoke/MethodHandle" ∧ yL_duration.cls ≠ "java/lang/invoke/VarHandle" ∧ (parseMethodDescriptor yL_duration.desc).map (fun d => d.parameters.length) = some 4 := by decide +kernel
theorem kd_X10_duration : yX10_duration.cls ≠ "java/lang/invoke/MethodHandle" ∧ yX10_duration.cls ≠ "java/lang/invoke/VarHandle" ∧ (parseMethodDescriptor yX10_duration.desc).map (fun d => d.parameters.length) = some 2 := by decide +kernel
theorem kd_X10_needTrialOf : yX10_needTrialOf.cls ≠ "java/lang/invoke/MethodHandle" ∧ yX10_needTrialOf.cls ≠ "java/lang/invoke/VarHandle" ∧ (parseMethodDescriptor yX10_needTrialOf.desc).map (fun d => d.parameters.length) = some 2 := by decide +kernel
theorem kd_L_shortest : yL_shortest.cls ≠ "java/lang/invoke/MethodHandle" ∧ yL_shortest.cls ≠ "java/lang/invoke/VarHandle" ∧ (parseMethodDescriptor yL_shortest.desc).map (fun d => d.parameters.length) = some 3 := by decide +kernel
theorem kd_X10_shortest : yX10_shortest.cls ≠ "java/lang/invoke/MethodHandle" ∧ yX10_shortest.cls ≠ "java/lang/invoke/VarHandle" ∧ (parseMethodDescriptor yX10_shortest.desc).map (fun d => d.parameters.length) = some 1 := by decide +kernel
theorem kd_L_capacityIf : yL_capacityIf.cls ≠ "java/lang/invoke/MethodHandle" ∧ yL_capacityIf.cls ≠ "java/lang/invoke/VarHandle" ∧ (parseMethodDescriptor yL_capacityIf.desc).map (fun d => d.parameters.length) = some 4 := by decide +kernel
theorem kd_X10_capacityIf : yX10_capacityIf.cls ≠ "java/lang/invoke/MethodHandle" ∧ yX10_capacityIf.cls ≠ "java/lang/invoke/VarHandle" ∧ (parseMethodDescriptor yX10_capacityIf.desc).map (fun d => d.parameters.length) = some 2 := by decide +kernel
theorem kd_L_safeCurrent : yL_safeCurrent.cls ≠ "java/lang/invoke/MethodHandle" ∧ yL_safeCurrent.cls ≠ "java/lang/invoke/VarHandle" ∧ (parseMethodDescriptor yL_safeCurrent.desc).map (fun d => d.parameters.length) = some 4 := by decide +kernel
theorem kd_X10_safeCurrent : yX10_safeCurrent.cls ≠ "java/lang/invoke/MethodHandle" ∧ yX10_safeCurrent.cls ≠ "java/lang/invoke/VarHandle" ∧ (parseMethodDescriptor yX10_safeCurrent.desc).map (fun d => d.parameters.length) = some 2 := by decide +kernel
theorem kd_X10_isSafe : yX10_isSafe.cls ≠ "java/lang/invoke/MethodHandle" ∧ yX10_isSafe.cls ≠ "java/lang/invoke/VarHandle" ∧ (parseMethodDescriptor yX10_isSafe.desc).map (fun d => d.parameters.length) = some 3 := by decide +kernel
theorem kd_L_saveSnapshot : yL_saveSnapshot.cls ≠ "java/lang/invoke/MethodHandle" ∧ yL_saveSnapshot.cls ≠ "java/lang/invoke/VarHandle" ∧ (parseMethodDescriptor yL_saveSnapshot.desc).map (fun d => d.parameters.length) = some 3 := by decide +kernel
theorem kd_X10_saveSnapshot : yX10_saveSnapshot.cls ≠ "java/lang/invoke/MethodHandle" ∧ yX10_saveSnapshot.cls ≠ "java/lang/invoke/VarHandle" ∧ (parseMethodDescriptor yX10_saveSnapshot.desc).map (fun d => d.parameters.length) = some 1 := by decide +kernel
theorem kd_X10_savedAt : yX10_savedAt.cls ≠ "java/lang/invoke/MethodHandle" ∧ yX10_savedAt.cls ≠ "java/lang/invoke/VarHandle" ∧ (parseMethodDescriptor yX10_savedAt.desc).map (fun d => d.parameters.length) = some 1 := by decide +kernel
theorem kd_X10_keepAt : yX10_keepAt.cls ≠ "java/lang/invoke/MethodHandle" ∧ yX10_keepAt.cls ≠ "java/lang/invoke/VarHandle" ∧ (parseMethodDescriptor yX10_keepAt.desc).map (fun d => d.parameters.length) = some 2 := by decide +kernel
theorem kd_L_restoreSnapshot : yL_restoreSnapshot.cls ≠ "java/lang/invoke/MethodHandle" ∧ yL_restoreSnapshot.cls ≠ "java/lang/invoke/VarHandle" ∧ (parseMethodDescriptor yL_restoreSnapshot.desc).map (fun d => d.parameters.length) = some 3 := by decide +kernel
theorem kd_X10_restoreSnapshot : yX10_restoreSnapshot.cls ≠ "java/lang/invoke/MethodHandle" ∧ yX10_restoreSnapshot.cls ≠ "java/lang/invoke/VarHandle" ∧ (parseMethodDescriptor yX10_restoreSnapshot.desc).map (fun d => d.parameters.length) = some 1 := by decide +kernel
theorem kd_X11_init : yX11_init.cls ≠ "java/lang/invoke/MethodHandle" ∧ yX11_init.cls ≠ "java/lang/invoke/VarHandle" ∧ (parseMethodDescriptor yX11_init.desc).map (fun d => d.parameters.length) = some 0 := by decide +kernel
theorem kd_X11_starts : yX11_starts.cls ≠ "java/lang/invoke/MethodHandle" ∧ yX11_starts.cls ≠ "java/lang/invoke/VarHandle" ∧ (parseMethodDescriptor yX11_starts.desc).map (fun d => d.parameters.length) = some 1 := by decide +kernel
theorem kd_X11_append : yX11_append.cls ≠ "java/lang/invoke/MethodHandle" ∧ yX11_append.cls ≠ "java/lang/invoke/VarHandle" ∧ (parseMethodDescriptor yX11_append.desc).map (fun d => d.parameters.length) = some 1 := by decide +kernel
theorem kd_X11_loadError : yX11_loadError.cls ≠ "java/lang/invoke/MethodHandle" ∧ yX11_loadError.cls ≠ "java/lang/invoke/VarHandle" ∧ (parseMethodDescriptor yX11_loadError.desc).map (fun d => d.parameters.length) = some 0 := by decide +kernel
theorem kd_X11_load : yX11_load.cls ≠ "java/lang/invoke/MethodHandle" ∧ yX11_load.cls ≠ "java/lang/invoke/VarHandle" ∧ (parseMethodDescriptor yX11_load.desc).map (fun d => d.parameters.length) = some 0 := by decide +kernel
theorem kd_X11_readsAll : yX11_readsAll.cls ≠ "java/lang/invoke/MethodHandle" ∧ yX11_readsAll.cls ≠ "java/lang/invoke/VarHandle" ∧ (parseMethodDescriptor yX11_readsAll.desc).map (fun d => d.parameters.length) = some 0 := by decide +kernel
theorem kd_X11_readStatement : yX11_readStatement.cls ≠ "java/lang/invoke/MethodHandle" ∧ yX11_readStatement.cls ≠ "java/lang/invoke/VarHandle" ∧ (parseMethodDescriptor yX11_readStatement.desc).map (fun d => d.parameters.length) = some 0 := by decide +kernel
theorem kd_X11_see : yX11_see.cls ≠ "java/lang/invoke/MethodHandle" ∧ yX11_see.cls ≠ "java/lang/invoke/VarHandle" ∧ (parseMethodDescriptor yX11_see.desc).map (fun d => d.parameters.length) = some 0 := by decide +kernel
theorem kd_X11_byteAt : yX11_byteAt.cls ≠ "java/lang/invoke/MethodHandle" ∧ yX11_byteAt.cls ≠ "java/lang/invoke/VarHandle" ∧ (parseMethodDescriptor yX11_byteAt.desc).map (fun d => d.parameters.length) = some 1 := by decide +kernel
theorem kd_X11_isWord : yX11_isWord.cls ≠ "java/lang/invoke/MethodHandle" ∧ yX11_isWord.cls ≠ "java/lang/invoke/VarHandle" ∧ (parseMethodDescriptor yX11_isWord.desc).map (fun d => d.parameters.length) = some 1 := by decide +kernel
theorem kd_X11_wordEnd : yX11_wordEnd.cls ≠ "java/lang/invoke/MethodHandle" ∧ yX11_wordEnd.cls ≠ "java/lang/invoke/VarHandle" ∧ (parseMethodDescriptor yX11_wordEnd.desc).map (fun d => d.parameters.length) = some 0 := by decide +kernel
theorem kd_X11_isLetter : yX11_isLetter.cls ≠ "java/lang/invoke/MethodHandle" ∧ yX11_isLetter.cls ≠ "java/lang/invoke/VarHandle" ∧ (parseMethodDescriptor yX11_isLetter.desc).map (fun d => d.parameters.length) = some 1 := by decide +kernel
theorem kd_X11_in : yX11_in.cls ≠ "java/lang/invoke/MethodHandle" ∧ yX11_in.cls ≠ "java/lang/invoke/VarHandle" ∧ (parseMethodDescriptor yX11_in.desc).map (fun d => d.parameters.length) = some 3 := by decide +kernel
theorem kd_X11_readCurve : yX11_readCurve.cls ≠ "java/lang/invoke/MethodHandle" ∧ yX11_readCurve.cls ≠ "java/lang/invoke/VarHandle" ∧ (parseMethodDescriptor yX11_readCurve.desc).map (fun d => d.parameters.length) = some 0 := by decide +kernel
theorem kd_X11_fails : yX11_fails.cls ≠ "java/lang/invoke/MethodHandle" ∧ yX11_fails.cls ≠ "java/lang/invoke/VarHandle" ∧ (parseMethodDescriptor yX11_fails.desc).map (fun d => d.parameters.length) = some 1 := by decide +kernel
theorem kd_X11_passes : yX11_passes.cls ≠ "java/lang/invoke/MethodHandle" ∧ yX11_passes.cls ≠ "java/lang/invoke/VarHandle" ∧ (parseMethodDescriptor yX11_passes.desc).map (fun d => d.parameters.length) = some 0 := by decide +kernel
theorem kd_X11_readName : yX11_readName.cls ≠ "java/lang/invoke/MethodHandle" ∧ yX11_readName.cls ≠ "java/lang/invoke/VarHandle" ∧ (parseMethodDescriptor yX11_readName.desc).map (fun d => d.parameters.length) = some 1 := by decide +kernel
theorem kd_X11_named : yX11_named.cls ≠ "java/lang/invoke/MethodHandle" ∧ yX11_named.cls ≠ "java/lang/invoke/VarHandle" ∧ (parseMethodDescriptor yX11_named.desc).map (fun d => d.parameters.length) = some 3 := by decide +kernel
theorem kd_X11_isNamed : yX11_isNamed.cls ≠ "java/lang/invoke/MethodHandle" ∧ yX11_isNamed.cls ≠ "java/lang/invoke/VarHandle" ∧ (parseMethodDescriptor yX11_isNamed.desc).map (fun d => d.parameters.length) = some 4 := by decide +kernel
theorem kd_X11_reads : yX11_reads.cls ≠ "java/lang/invoke/MethodHandle" ∧ yX11_reads.cls ≠ "java/lang/invoke/VarHandle" ∧ (parseMethodDescriptor yX11_reads.desc).map (fun d => d.parameters.length) = some 3 := by decide +kernel
theorem kd_X11_isDigit : yX11_isDigit.cls ≠ "java/lang/invoke/MethodHandle" ∧ yX11_isDigit.cls ≠ "java/lang/invoke/VarHandle" ∧ (parseMethodDescriptor yX11_isDigit.desc).map (fun d => d.parameters.length) = some 1 := by decide +kernel
theorem kd_X11_readCell : yX11_readCell.cls ≠ "java/lang/invoke/MethodHandle" ∧ yX11_readCell.cls ≠ "java/lang/invoke/VarHandle" ∧ (parseMethodDescriptor yX11_readCell.desc).map (fun d => d.parameters.length) = some 0 := by decide +kernel
theorem kd_X11_readProgram : yX11_readProgram.cls ≠ "java/lang/invoke/MethodHandle" ∧ yX11_readProgram.cls ≠ "java/lang/invoke/VarHandle" ∧ (parseMethodDescriptor yX11_readProgram.desc).map (fun d => d.parameters.length) = some 0 := by decide +kernel
theorem kd_X11_readStep : yX11_readStep.cls ≠ "java/lang/invoke/MethodHandle" ∧ yX11_readStep.cls ≠ "java/lang/invoke/VarHandle" ∧ (parseMethodDescriptor yX11_readStep.desc).map (fun d => d.parameters.length) = some 2 := by decide +kernel
theorem kd_X11_begins : yX11_begins.cls ≠ "java/lang/invoke/MethodHandle" ∧ yX11_begins.cls ≠ "java/lang/invoke/VarHandle" ∧ (parseMethodDescriptor yX11_begins.desc).map (fun d => d.parameters.length) = some 3 := by decide +kernel
theorem kd_X11_copies : yX11_copies.cls ≠ "java/lang/invoke/MethodHandle" ∧ yX11_copies.cls ≠ "java/lang/invoke/VarHandle" ∧ (parseMethodDescriptor yX11_copies.desc).map (fun d => d.parameters.length) = some 2 := by decide +kernel
theorem kd_X11_curveNamed : yX11_curveNamed.cls ≠ "java/lang/invoke/MethodHandle" ∧ yX11_curveNamed.cls ≠ "java/lang/invoke/VarHandle" ∧ (parseMethodDescriptor yX11_curveNamed.desc).map (fun d => d.parameters.length) = some 0 := by decide +kernel
theorem kd_X11_count : yX11_count.cls ≠ "java/lang/invoke/MethodHandle" ∧ yX11_count.cls ≠ "java/lang/invoke/VarHandle" ∧ (parseMethodDescriptor yX11_count.desc).map (fun d => d.parameters.length) = some 1 := by decide +kernel
theorem kd_X11_throwsIf : yX11_throwsIf.cls ≠ "java/lang/invoke/MethodHandle" ∧ yX11_throwsIf.cls ≠ "java/lang/invoke/VarHandle" ∧ (parseMethodDescriptor yX11_throwsIf.desc).map (fun d => d.parameters.length) = some 2 := by decide +kernel
theorem kd_X11_setting : yX11_setting.cls ≠ "java/lang/invoke/MethodHandle" ∧ yX11_setting.cls ≠ "java/lang/invoke/VarHandle" ∧ (parseMethodDescriptor yX11_setting.desc).map (fun d => d.parameters.length) = some 1 := by decide +kernel
theorem kd_X11_setAmbient : yX11_setAmbient.cls ≠ "java/lang/invoke/MethodHandle" ∧ yX11_setAmbient.cls ≠ "java/lang/invoke/VarHandle" ∧ (parseMethodDescriptor yX11_setAmbient.desc).map (fun d => d.parameters.length) = some 1 := by decide +kernel
theorem kd_X11_setDerate : yX11_setDerate.cls ≠ "java/lang/invoke/MethodHandle" ∧ yX11_setDerate.cls ≠ "java/lang/invoke/VarHandle" ∧ (parseMethodDescriptor yX11_setDerate.desc).map (fun d => d.parameters.length) = some 1 := by decide +kernel
theorem kd_X11_setLimits : yX11_setLimits.cls ≠ "java/lang/invoke/MethodHandle" ∧ yX11_setLimits.cls ≠ "java/lang/invoke/VarHandle" ∧ (parseMethodDescriptor yX11_setLimits.desc).map (fun d => d.parameters.length) = some 2 := by decide +kernel
theorem kd_X11_of : yX11_of.cls ≠ "java/lang/invoke/MethodHandle" ∧ yX11_of.cls ≠ "java/lang/invoke/VarHandle" ∧ (parseMethodDescriptor yX11_of.desc).map (fun d => d.parameters.length) = some 2 := by decide +kernel
theorem kd_X11_stepValue : yX11_stepValue.cls ≠ "java/lang/invoke/MethodHandle" ∧ yX11_stepValue.cls ≠ "java/lang/invoke/VarHandle" ∧ (parseMethodDescriptor yX11_stepValue.desc).map (fun d => d.parameters.length) = some 3 := by decide +kernel
theorem kd_X11_stepsOf : yX11_stepsOf.cls ≠ "java/lang/invoke/MethodHandle" ∧ yX11_stepsOf.cls ≠ "java/lang/invoke/VarHandle" ∧ (parseMethodDescriptor yX11_stepsOf.desc).map (fun d => d.parameters.length) = some 1 := by decide +kernel
theorem kd_X11_stepOf : yX11_stepOf.cls ≠ "java/lang/invoke/MethodHandle" ∧ yX11_stepOf.cls ≠ "java/lang/invoke/VarHandle" ∧ (parseMethodDescriptor yX11_stepOf.desc).map (fun d => d.parameters.length) = some 3 := by decide +kernel
theorem kd_X11_now : yX11_now.cls ≠ "java/lang/invoke/MethodHandle" ∧ yX11_now.cls ≠ "java/lang/invoke/VarHandle" ∧ (parseMethodDescriptor yX11_now.desc).map (fun d => d.parameters.length) = some 0 := by decide +kernel
theorem kd_X11_advance : yX11_advance.cls ≠ "java/lang/invoke/MethodHandle" ∧ yX11_advance.cls ≠ "java/lang/invoke/VarHandle" ∧ (parseMethodDescriptor yX11_advance.desc).map (fun d => d.parameters.length) = some 1 := by decide +kernel
theorem kd_X11_ticks : yX11_ticks.cls ≠ "java/lang/invoke/MethodHandle" ∧ yX11_ticks.cls ≠ "java/lang/invoke/VarHandle" ∧ (parseMethodDescriptor yX11_ticks.desc).map (fun d => d.parameters.length) = some 0 := by decide +kernel
theorem kd_X11_goes : yX11_goes.cls ≠ "java/lang/invoke/MethodHandle" ∧ yX11_goes.cls ≠ "java/lang/invoke/VarHandle" ∧ (parseMethodDescriptor yX11_goes.desc).map (fun d => d.parameters.length) = some 1 := by decide +kernel
theorem kd_X11_currentOf : yX11_currentOf.cls ≠ "java/lang/invoke/MethodHandle" ∧ yX11_currentOf.cls ≠ "java/lang/invoke/VarHandle" ∧ (parseMethodDescriptor yX11_currentOf.desc).map (fun d => d.parameters.length) = some 1 := by decide +kernel
theorem kd_X11_wantedOf : yX11_wantedOf.cls ≠ "java/lang/invoke/MethodHandle" ∧ yX11_wantedOf.cls ≠ "java/lang/invoke/VarHandle" ∧ (parseMethodDescriptor yX11_wantedOf.desc).map (fun d => d.parameters.length) = some 1 := by decide +kernel
theorem kd_X11_step : yX11_step.cls ≠ "java/lang/invoke/MethodHandle" ∧ yX11_step.cls ≠ "java/lang/invoke/VarHandle" ∧ (parseMethodDescriptor yX11_step.desc).map (fun d => d.parameters.length) = some 2 := by decide +kernel
theorem kd_X11_restAt : yX11_restAt.cls ≠ "java/lang/invoke/MethodHandle" ∧ yX11_restAt.cls ≠ "java/lang/invoke/VarHandle" ∧ (parseMethodDescriptor yX11_restAt.desc).map (fun d => d.parameters.length) = some 2 := by decide +kernel
theorem kd_X11_voltsMany : yX11_voltsMany.cls ≠ "java/lang/invoke/MethodHandle" ∧ yX11_voltsMany.cls ≠ "java/lang/invoke/VarHandle" ∧ (parseMethodDescriptor yX11_voltsMany.desc).map (fun d => d.parameters.length) = some 1 := by decide +kernel
theorem kd_X11_volts : yX11_volts.cls ≠ "java/lang/invoke/MethodHandle" ∧ yX11_volts.cls ≠ "java/lang/invoke/VarHandle" ∧ (parseMethodDescriptor yX11_volts.desc).map (fun d => d.parameters.length) = some 2 := by decide +kernel
theorem kd_X11_flows : yX11_flows.cls ≠ "java/lang/invoke/MethodHandle" ∧ yX11_flows.cls ≠ "java/lang/invoke/VarHandle" ∧ (parseMethodDescriptor yX11_flows.desc).map (fun d => d.parameters.length) = some 2 := by decide +kernel
theorem kd_X11_polarizes : yX11_polarizes.cls ≠ "java/lang/invoke/MethodHandle" ∧ yX11_polarizes.cls ≠ "java/lang/invoke/VarHandle" ∧ (parseMethodDescriptor yX11_polarizes.desc).map (fun d => d.parameters.length) = some 2 := by decide +kernel
theorem kd_X11_put : yX11_put.cls ≠ "java/lang/invoke/MethodHandle" ∧ yX11_put.cls ≠ "java/lang/invoke/VarHandle" ∧ (parseMethodDescriptor yX11_put.desc).map (fun d => d.parameters.length) = some 3 := by decide +kernel
theorem kd_X11_moves : yX11_moves.cls ≠ "java/lang/invoke/MethodHandle" ∧ yX11_moves.cls ≠ "java/lang/invoke/VarHandle" ∧ (parseMethodDescriptor yX11_moves.desc).map (fun d => d.parameters.length) = some 2 := by decide +kernel
theorem kd_X11_adds : yX11_adds.cls ≠ "java/lang/invoke/MethodHandle" ∧ yX11_adds.cls ≠ "java/lang/invoke/VarHandle" ∧ (parseMethodDescriptor yX11_adds.desc).map (fun d => d.parameters.length) = some 3 := by decide +kernel
theorem kd_X11_fades : yX11_fades.cls ≠ "java/lang/invoke/MethodHandle" ∧ yX11_fades.cls ≠ "java/lang/invoke/VarHandle" ∧ (parseMethodDescriptor yX11_fades.desc).map (fun d => d.parameters.length) = some 2 := by decide +kernel
theorem kd_J9_abs_0f7a4 : yJ9_abs_0f7a4.cls ≠ "java/lang/invoke/MethodHandle" ∧ yJ9_abs_0f7a4.cls ≠ "java/lang/invoke/VarHandle" ∧ (parseMethodDescriptor yJ9_abs_0f7a4.desc).map (fun d => d.parameters.length) = some 1 := by decide +kernel
theorem kd_X11_warms : yX11_warms.cls ≠ "java/lang/invoke/MethodHandle" ∧ yX11_warms.cls ≠ "java/lang/invoke/VarHandle" ∧ (parseMethodDescriptor yX11_warms.desc).map (fun d => d.parameters.length) = some 2 := by decide +kernel
theorem kd_X11_filled : yX11_filled.cls ≠ "java/lang/invoke/MethodHandle" ∧ yX11_filled.cls ≠ "java/lang/invoke/VarHandle" ∧ (parseMethodDescriptor yX11_filled.desc).map (fun d => d.parameters.length) = some 1 := by decide +kernel
theorem kd_X11_warns : yX11_warns.cls ≠ "java/lang/invoke/MethodHandle" ∧ yX11_warns.cls ≠ "java/lang/invoke/VarHandle" ∧ (parseMethodDescriptor yX11_warns.desc).map (fun d => d.parameters.length) = some 1 := by decide +kernel
theorem kd_X11_warningNow : yX11_warningNow.cls ≠ "java/lang/invoke/MethodHandle" ∧ yX11_warningNow.cls ≠ "java/lang/invoke/VarHandle" ∧ (parseMethodDescriptor yX11_warningNow.desc).map (fun d => d.parameters.length) = some 1 := by decide +kernel
theorem kd_X11_notes : yX11_notes.cls ≠ "java/lang/invoke/MethodHandle" ∧ yX11_notes.cls ≠ "java/lang/invoke/VarHandle" ∧ (parseMethodDescriptor yX11_notes.desc).map (fun d => d.parameters.length) = some 3 := by decide +kernel
theorem kd_X11_watches : yX11_watches.cls ≠ "java/lang/invoke/MethodHandle" ∧ yX11_watches.cls ≠ "java/lang/invoke/VarHandle" ∧ (parseMethodDescriptor yX11_watches.desc).map (fun d => d.parameters.length) = some 1 := by decide +kernel
theorem kd_X11_reasonNow : yX11_reasonNow.cls ≠ "java/lang/invoke/MethodHandle" ∧ yX11_reasonNow.cls ≠ "java/lang/invoke/VarHandle" ∧ (parseMethodDescriptor yX11_reasonNow.desc).map (fun d => d.parameters.length) = some 1 := by decide +kernel
theorem kd_X11_isOver : yX11_isOver.cls ≠ "java/lang/invoke/MethodHandle" ∧ yX11_isOver.cls ≠ "java/lang/invoke/VarHandle" ∧ (parseMethodDescriptor yX11_isOver.desc).map (fun d => d.parameters.length) = some 1 := by decide +kernel
theorem kd_X11_ends : yX11_ends.cls ≠ "java/lang/invoke/MethodHandle" ∧ yX11_ends.cls ≠ "java/lang/invoke/VarHandle" ∧ (parseMethodDescriptor yX11_ends.desc).map (fun d => d.parameters.length) = some 1 := by decide +kernel
theorem kd_X11_records : yX11_records.cls ≠ "java/lang/invoke/MethodHandle" ∧ yX11_records.cls ≠ "java/lang/invoke/VarHandle" ∧ (parseMethodDescriptor yX11_records.desc).map (fun d => d.parameters.length) = some 2 := by decide +kernel
theorem kd_X11_sum : yX11_sum.cls ≠ "java/lang/invoke/MethodHandle" ∧ yX11_sum.cls ≠ "java/lang/invoke/VarHandle" ∧ (parseMethodDescriptor yX11_sum.desc).map (fun d => d.parameters.length) = some 2 := by decide +kernel
theorem kd_X11_clears : yX11_clears.cls ≠ "java/lang/invoke/MethodHandle" ∧ yX11_clears.cls ≠ "java/lang/invoke/VarHandle" ∧ (parseMethodDescriptor yX11_clears.desc).map (fun d => d.parameters.length) = some 1 := by decide +kernel
theorem kd_X11_putSum : yX11_putSum.cls ≠ "java/lang/invoke/MethodHandle" ∧ yX11_putSum.cls ≠ "java/lang/invoke/VarHandle" ∧ (parseMethodDescriptor yX11_putSum.desc).map (fun d => d.parameters.length) = some 3 := by decide +kernel
theorem kd_X11_comes : yX11_comes.cls ≠ "java/lang/invoke/MethodHandle" ∧ yX11_comes.cls ≠ "java/lang/invoke/VarHandle" ∧ (parseMethodDescriptor yX11_comes.desc).map (fun d => d.parameters.length) = some 2 := by decide +kernel
theorem kd_X11_comesToEnd : yX11_comesToEnd.cls ≠ "java/lang/invoke/MethodHandle" ∧ yX11_comesToEnd.cls ≠ "java/lang/invoke/VarHandle" ∧ (parseMethodDescriptor yX11_comesToEnd.desc).map (fun d => d.parameters.length) = some 1 := by decide +kernel
theorem kd_X11_leavesQueue : yX11_leavesQueue.cls ≠ "java/lang/invoke/MethodHandle" ∧ yX11_leavesQueue.cls ≠ "java/lang/invoke/VarHandle" ∧ (parseMethodDescriptor yX11_leavesQueue.desc).map (fun d => d.parameters.length) = some 1 := by decide +kernel
theorem kd_X11_startsOn : yX11_startsOn.cls ≠ "java/lang/invoke/MethodHandle" ∧ yX11_startsOn.cls ≠ "java/lang/invoke/VarHandle" ∧ (parseMethodDescriptor yX11_startsOn.desc).map (fun d => d.parameters.length) = some 2 := by decide +kernel
theorem kd_X11_start : yX11_start.cls ≠ "java/lang/invoke/MethodHandle" ∧ yX11_start.cls ≠ "java/lang/invoke/VarHandle" ∧ (parseMethodDescriptor yX11_start.desc).map (fun d => d.parameters.length) = some 2 := by decide +kernel
theorem kd_X11_noProgram : yX11_noProgram.cls ≠ "java/lang/invoke/MethodHandle" ∧ yX11_noProgram.cls ≠ "java/lang/invoke/VarHandle" ∧ (parseMethodDescriptor yX11_noProgram.desc).map (fun d => d.parameters.length) = some 2 := by decide +kernel
theorem kd_X11_noChannel : yX11_noChannel.cls ≠ "java/lang/invoke/MethodHandle" ∧ yX11_noChannel.cls ≠ "java/lang/invoke/VarHandle" ∧ (parseMethodDescriptor yX11_noChannel.desc).map (fun d => d.parameters.length) = some 1 := by decide +kernel
theorem kd_X11_isIn : yX11_isIn.cls ≠ "java/lang/invoke/MethodHandle" ∧ yX11_isIn.cls ≠ "java/lang/invoke/VarHandle" ∧ (parseMethodDescriptor yX11_isIn.desc).map (fun d => d.parameters.length) = some 2 := by decide +kernel
theorem kd_X11_pause : yX11_pause.cls ≠ "java/lang/invoke/MethodHandle" ∧ yX11_pause.cls ≠ "java/lang/invoke/VarHandle" ∧ (parseMethodDescriptor yX11_pause.desc).map (fun d => d.parameters.length) = some 1 := by decide +kernel
theorem kd_X11_turns : yX11_turns.cls ≠ "java/lang/invoke/MethodHandle" ∧ yX11_turns.cls ≠ "java/lang/invoke/VarHandle" ∧ (parseMethodDescriptor yX11_turns.desc).map (fun d => d.parameters.length) = some 3 := by decide +kernel
theorem kd_X11_resume : yX11_resume.cls ≠ "java/lang/invoke/MethodHandle" ∧ yX11_resume.cls ≠ "java/lang/invoke/VarHandle" ∧ (parseMethodDescriptor yX11_resume.desc).map (fun d => d.parameters.length) = some 1 := by decide +kernel
theorem kd_X11_stop : yX11_stop.cls ≠ "java/lang/invoke/MethodHandle" ∧ yX11_stop.cls ≠ "java/lang/invoke/VarHandle" ∧ (parseMethodDescriptor yX11_stop.desc).map (fun d => d.parameters.length) = some 1 := by decide +kernel
theorem kd_X11_skip : yX11_skip.cls ≠ "java/lang/invoke/MethodHandle" ∧ yX11_skip.cls ≠ "java/lang/invoke/VarHandle" ∧ (parseMethodDescriptor yX11_skip.desc).map (fun d => d.parameters.length) = some 1 := by decide +kernel
theorem kd_X11_replace : yX11_replace.cls ≠ "java/lang/invoke/MethodHandle" ∧ yX11_replace.cls ≠ "java/lang/invoke/VarHandle" ∧ (parseMethodDescriptor yX11_replace.desc).map (fun d => d.parameters.length) = some 2 := by decide +kernel
theorem kd_X11_enqueue : yX11_enqueue.cls ≠ "java/lang/invoke/MethodHandle" ∧ yX11_enqueue.cls ≠ "java/lang/invoke/VarHandle" ∧ (parseMethodDescriptor yX11_enqueue.desc).map (fun d => d.parameters.length) = some 2 := by decide +kernel
theorem kd_X11_dequeue : yX11_dequeue.cls ≠ "java/lang/invoke/MethodHandle" ∧ yX11_dequeue.cls ≠ "java/lang/invoke/VarHandle" ∧ (parseMethodDescriptor yX11_dequeue.desc).map (fun d => d.parameters.length) = some 1 := by decide +kernel
theorem kd_X11_startNext : yX11_startNext.cls ≠ "java/lang/invoke/MethodHandle" ∧ yX11_startNext.cls ≠ "java/lang/invoke/VarHandle" ∧ (parseMethodDescriptor yX11_startNext.desc).map (fun d => d.parameters.length) = some 1 := by decide +kernel
theorem kd_X11_queueAt : yX11_queueAt.cls ≠ "java/lang/invoke/MethodHandle" ∧ yX11_queueAt.cls ≠ "java/lang/invoke/VarHandle" ∧ (parseMethodDescriptor yX11_queueAt.desc).map (fun d => d.parameters.length) = some 2 := by decide +kernel
theorem kd_X11_queueSize : yX11_queueSize.cls ≠ "java/lang/invoke/MethodHandle" ∧ yX11_queueSize.cls ≠ "java/lang/invoke/VarHandle" ∧ (parseMethodDescriptor yX11_queueSize.desc).map (fun d => d.parameters.length) = some 1 := by decide +kernel
theorem kd_X11_internalResistance : yX11_internalResistance.cls ≠ "java/lang/invoke/MethodHandle" ∧ yX11_internalResistance.cls ≠ "java/lang/invoke/VarHandle" ∧ (parseMethodDescriptor yX11_internalResistance.desc).map (fun d => d.parameters.length) = some 1 := by decide +kernel
theorem kd_X11_ticksIn : yX11_ticksIn.cls ≠ "java/lang/invoke/MethodHandle" ∧ yX11_ticksIn.cls ≠ "java/lang/invoke/VarHandle" ∧ (parseMethodDescriptor yX11_ticksIn.desc).map (fun d => d.parameters.length) = some 2 := by decide +kernel
theorem kd_X11_warnings : yX11_warnings.cls ≠ "java/lang/invoke/MethodHandle" ∧ yX11_warnings.cls ≠ "java/lang/invoke/VarHandle" ∧ (parseMethodDescriptor yX11_warnings.desc).map (fun d => d.parameters.length) = some 1 := by decide +kernel
theorem kd_X11_warned : yX11_warned.cls ≠ "java/lang/invoke/MethodHandle" ∧ yX11_warned.cls ≠ "java/lang/invoke/VarHandle" ∧ (parseMethodDescriptor yX11_warned.desc).map (fun d => d.parameters.length) = some 1 := by decide +kernel
theorem kd_X11_logSize : yX11_logSize.cls ≠ "java/lang/invoke/MethodHandle" ∧ yX11_logSize.cls ≠ "java/lang/invoke/VarHandle" ∧ (parseMethodDescriptor yX11_logSize.desc).map (fun d => d.parameters.length) = some 0 := by decide +kernel
theorem kd_X11_logEntry : yX11_logEntry.cls ≠ "java/lang/invoke/MethodHandle" ∧ yX11_logEntry.cls ≠ "java/lang/invoke/VarHandle" ∧ (parseMethodDescriptor yX11_logEntry.desc).map (fun d => d.parameters.length) = some 2 := by decide +kernel
theorem kd_X11_eventsOf : yX11_eventsOf.cls ≠ "java/lang/invoke/MethodHandle" ∧ yX11_eventsOf.cls ≠ "java/lang/invoke/VarHandle" ∧ (parseMethodDescriptor yX11_eventsOf.desc).map (fun d => d.parameters.length) = some 2 := by decide +kernel
theorem kd_X11_value : yX11_value.cls ≠ "java/lang/invoke/MethodHandle" ∧ yX11_value.cls ≠ "java/lang/invoke/VarHandle" ∧ (parseMethodDescriptor yX11_value.desc).map (fun d => d.parameters.length) = some 2 := by decide +kernel
theorem kd_X11_restVoltage : yX11_restVoltage.cls ≠ "java/lang/invoke/MethodHandle" ∧ yX11_restVoltage.cls ≠ "java/lang/invoke/VarHandle" ∧ (parseMethodDescriptor yX11_restVoltage.desc).map (fun d => d.parameters.length) = some 2 := by decide +kernel
theorem kd_X11_chargeFor : yX11_chargeFor.cls ≠ "java/lang/invoke/MethodHandle" ∧ yX11_chargeFor.cls ≠ "java/lang/invoke/VarHandle" ∧ (parseMethodDescriptor yX11_chargeFor.desc).map (fun d => d.parameters.length) = some 2 := by decide +kernel
theorem kd_X11_filling : yX11_filling.cls ≠ "java/lang/invoke/MethodHandle" ∧ yX11_filling.cls ≠ "java/lang/invoke/VarHandle" ∧ (parseMethodDescriptor yX11_filling.desc).map (fun d => d.parameters.length) = some 1 := by decide +kernel
theorem kd_X11_ledger : yX11_ledger.cls ≠ "java/lang/invoke/MethodHandle" ∧ yX11_ledger.cls ≠ "java/lang/invoke/VarHandle" ∧ (parseMethodDescriptor yX11_ledger.desc).map (fun d => d.parameters.length) = some 2 := by decide +kernel
theorem kd_X11_chargeEfficiency : yX11_chargeEfficiency.cls ≠ "java/lang/invoke/MethodHandle" ∧ yX11_chargeEfficiency.cls ≠ "java/lang/invoke/VarHandle" ∧ (parseMethodDescriptor yX11_chargeEfficiency.desc).map (fun d => d.parameters.length) = some 1 := by decide +kernel
theorem kd_X11_energyEfficiency : yX11_energyEfficiency.cls ≠ "java/lang/invoke/MethodHandle" ∧ yX11_energyEfficiency.cls ≠ "java/lang/invoke/VarHandle" ∧ (parseMethodDescriptor yX11_energyEfficiency.desc).map (fun d => d.parameters.length) = some 1 := by decide +kernel
theorem kd_X11_power : yX11_power.cls ≠ "java/lang/invoke/MethodHandle" ∧ yX11_power.cls ≠ "java/lang/invoke/VarHandle" ∧ (parseMethodDescriptor yX11_power.desc).map (fun d => d.parameters.length) = some 1 := by decide +kernel
theorem kd_X11_measuredRest : yX11_measuredRest.cls ≠ "java/lang/invoke/MethodHandle" ∧ yX11_measuredRest.cls ≠ "java/lang/invoke/VarHandle" ∧ (parseMethodDescriptor yX11_measuredRest.desc).map (fun d => d.parameters.length) = some 1 := by decide +kernel
theorem kd_X11_capacityByRule : yX11_capacityByRule.cls ≠ "java/lang/invoke/MethodHandle" ∧ yX11_capacityByRule.cls ≠ "java/lang/invoke/VarHandle" ∧ (parseMethodDescriptor yX11_capacityByRule.desc).map (fun d => d.parameters.length) = some 1 := by decide +kernel
theorem kd_X11_repeats : yX11_repeats.cls ≠ "java/lang/invoke/MethodHandle" ∧ yX11_repeats.cls ≠ "java/lang/invoke/VarHandle" ∧ (parseMethodDescriptor yX11_repeats.desc).map (fun d => d.parameters.length) = some 2 := by decide +kernel
theorem kd_X11_inState : yX11_inState.cls ≠ "java/lang/invoke/MethodHandle" ∧ yX11_inState.cls ≠ "java/lang/invoke/VarHandle" ∧ (parseMethodDescriptor yX11_inState.desc).map (fun d => d.parameters.length) = some 1 := by decide +kernel
theorem kd_X11_weakest : yX11_weakest.cls ≠ "java/lang/invoke/MethodHandle" ∧ yX11_weakest.cls ≠ "java/lang/invoke/VarHandle" ∧ (parseMethodDescriptor yX11_weakest.desc).map (fun d => d.parameters.length) = some 0 := by decide +kernel
theorem kd_X11_share : yX11_share.cls ≠ "java/lang/invoke/MethodHandle" ∧ yX11_share.cls ≠ "java/lang/invoke/VarHandle" ∧ (parseMethodDescriptor yX11_share.desc).map (fun d => d.parameters.length) = some 1 := by decide +kernel
theorem kd_X11_hottest : yX11_hottest.cls ≠ "java/lang/invoke/MethodHandle" ∧ yX11_hottest.cls ≠ "java/lang/invoke/VarHandle" ∧ (parseMethodDescriptor yX11_hottest.desc).map (fun d => d.parameters.length) = some 0 := by decide +kernel
theorem kd_X11_recordCount : yX11_recordCount.cls ≠ "java/lang/invoke/MethodHandle" ∧ yX11_recordCount.cls ≠ "java/lang/invoke/VarHandle" ∧ (parseMethodDescriptor yX11_recordCount.desc).map (fun d => d.parameters.length) = some 0 := by decide +kernel
theorem kd_X11_record : yX11_record.cls ≠ "java/lang/invoke/MethodHandle" ∧ yX11_record.cls ≠ "java/lang/invoke/VarHandle" ∧ (parseMethodDescriptor yX11_record.desc).map (fun d => d.parameters.length) = some 2 := by decide +kernel
theorem kd_X11_recorded : yX11_recorded.cls ≠ "java/lang/invoke/MethodHandle" ∧ yX11_recorded.cls ≠ "java/lang/invoke/VarHandle" ∧ (parseMethodDescriptor yX11_recorded.desc).map (fun d => d.parameters.length) = some 2 := by decide +kernel
theorem kd_X11_counting : yX11_counting.cls ≠ "java/lang/invoke/MethodHandle" ∧ yX11_counting.cls ≠ "java/lang/invoke/VarHandle" ∧ (parseMethodDescriptor yX11_counting.desc).map (fun d => d.parameters.length) = some 1 := by decide +kernel
theorem kd_X11_isCounting : yX11_isCounting.cls ≠ "java/lang/invoke/MethodHandle" ∧ yX11_isCounting.cls ≠ "java/lang/invoke/VarHandle" ∧ (parseMethodDescriptor yX11_isCounting.desc).map (fun d => d.parameters.length) = some 2 := by decide +kernel
theorem kd_X11_loss : yX11_loss.cls ≠ "java/lang/invoke/MethodHandle" ∧ yX11_loss.cls ≠ "java/lang/invoke/VarHandle" ∧ (parseMethodDescriptor yX11_loss.desc).map (fun d => d.parameters.length) = some 1 := by decide +kernel
theorem kd_X11_stepEndsIn : yX11_stepEndsIn.cls ≠ "java/lang/invoke/MethodHandle" ∧ yX11_stepEndsIn.cls ≠ "java/lang/invoke/VarHandle" ∧ (parseMethodDescriptor yX11_stepEndsIn.desc).map (fun d => d.parameters.length) = some 1 := by decide +kernel
theorem kd_X11_goesAside : yX11_goesAside.cls ≠ "java/lang/invoke/MethodHandle" ∧ yX11_goesAside.cls ≠ "java/lang/invoke/VarHandle" ∧ (parseMethodDescriptor yX11_goesAside.desc).map (fun d => d.parameters.length) = some 0 := by decide +kernel
theorem kd_X11_copiesSums : yX11_copiesSums.cls ≠ "java/lang/invoke/MethodHandle" ∧ yX11_copiesSums.cls ≠ "java/lang/invoke/VarHandle" ∧ (parseMethodDescriptor yX11_copiesSums.desc).map (fun d => d.parameters.length) = some 2 := by decide +kernel
theorem kd_X11_alone : yX11_alone.cls ≠ "java/lang/invoke/MethodHandle" ∧ yX11_alone.cls ≠ "java/lang/invoke/VarHandle" ∧ (parseMethodDescriptor yX11_alone.desc).map (fun d => d.parameters.length) = some 1 := by decide +kernel
theorem kd_X11_comesBack : yX11_comesBack.cls ≠ "java/lang/invoke/MethodHandle" ∧ yX11_comesBack.cls ≠ "java/lang/invoke/VarHandle" ∧ (parseMethodDescriptor yX11_comesBack.desc).map (fun d => d.parameters.length) = some 0 := by decide +kernel
theorem kd_X11_doneIn : yX11_doneIn.cls ≠ "java/lang/invoke/MethodHandle" ∧ yX11_doneIn.cls ≠ "java/lang/invoke/VarHandle" ∧ (parseMethodDescriptor yX11_doneIn.desc).map (fun d => d.parameters.length) = some 1 := by decide +kernel
theorem kd_X11_untilAside : yX11_untilAside.cls ≠ "java/lang/invoke/MethodHandle" ∧ yX11_untilAside.cls ≠ "java/lang/invoke/VarHandle" ∧ (parseMethodDescriptor yX11_untilAside.desc).map (fun d => d.parameters.length) = some 2 := by decide +kernel
theorem kd_X11_until : yX11_until.cls ≠ "java/lang/invoke/MethodHandle" ∧ yX11_until.cls ≠ "java/lang/invoke/VarHandle" ∧ (parseMethodDescriptor yX11_until.desc).map (fun d => d.parameters.length) = some 2 := by decide +kernel
theorem kd_X11_tripsIn : yX11_tripsIn.cls ≠ "java/lang/invoke/MethodHandle" ∧ yX11_tripsIn.cls ≠ "java/lang/invoke/VarHandle" ∧ (parseMethodDescriptor yX11_tripsIn.desc).map (fun d => d.parameters.length) = some 1 := by decide +kernel
theorem kd_X11_valueAfter : yX11_valueAfter.cls ≠ "java/lang/invoke/MethodHandle" ∧ yX11_valueAfter.cls ≠ "java/lang/invoke/VarHandle" ∧ (parseMethodDescriptor yX11_valueAfter.desc).map (fun d => d.parameters.length) = some 3 := by decide +kernel
theorem kd_X11_peakTemperature : yX11_peakTemperature.cls ≠ "java/lang/invoke/MethodHandle" ∧ yX11_peakTemperature.cls ≠ "java/lang/invoke/VarHandle" ∧ (parseMethodDescriptor yX11_peakTemperature.desc).map (fun d => d.parameters.length) = some 2 := by decide +kernel
theorem kd_X11_settledIn : yX11_settledIn.cls ≠ "java/lang/invoke/MethodHandle" ∧ yX11_settledIn.cls ≠ "java/lang/invoke/VarHandle" ∧ (parseMethodDescriptor yX11_settledIn.desc).map (fun d => d.parameters.length) = some 1 := by decide +kernel
theorem kd_X11_duration : yX11_duration.cls ≠ "java/lang/invoke/MethodHandle" ∧ yX11_duration.cls ≠ "java/lang/invoke/VarHandle" ∧ (parseMethodDescriptor yX11_duration.desc).map (fun d => d.parameters.length) = some 2 := by decide +kernel
theorem kd_X11_durationOf : yX11_durationOf.cls ≠ "java/lang/invoke/MethodHandle" ∧ yX11_durationOf.cls ≠ "java/lang/invoke/VarHandle" ∧ (parseMethodDescriptor yX11_durationOf.desc).map (fun d => d.parameters.length) = some 2 := by decide +kernel
theorem kd_X11_shortest : yX11_shortest.cls ≠ "java/lang/invoke/MethodHandle" ∧ yX11_shortest.cls ≠ "java/lang/invoke/VarHandle" ∧ (parseMethodDescriptor yX11_shortest.desc).map (fun d => d.parameters.length) = some 1 := by decide +kernel
theorem kd_X11_capacityIf : yX11_capacityIf.cls ≠ "java/lang/invoke/MethodHandle" ∧ yX11_capacityIf.cls ≠ "java/lang/invoke/VarHandle" ∧ (parseMethodDescriptor yX11_capacityIf.desc).map (fun d => d.parameters.length) = some 2 := by decide +kernel
theorem kd_X11_safeCurrent : yX11_safeCurrent.cls ≠ "java/lang/invoke/MethodHandle" ∧ yX11_safeCurrent.cls ≠ "java/lang/invoke/VarHandle" ∧ (parseMethodDescriptor yX11_safeCurrent.desc).map (fun d => d.parameters.length) = some 2 := by decide +kernel
theorem kd_X11_isSafe : yX11_isSafe.cls ≠ "java/lang/invoke/MethodHandle" ∧ yX11_isSafe.cls ≠ "java/lang/invoke/VarHandle" ∧ (parseMethodDescriptor yX11_isSafe.desc).map (fun d => d.parameters.length) = some 3 := by decide +kernel
theorem kd_X11_saveSnapshot : yX11_saveSnapshot.cls ≠ "java/lang/invoke/MethodHandle" ∧ yX11_saveSnapshot.cls ≠ "java/lang/invoke/VarHandle" ∧ (parseMethodDescriptor yX11_saveSnapshot.desc).map (fun d => d.parameters.length) = some 1 := by decide +kernel
theorem kd_X11_noSlot : yX11_noSlot.cls ≠ "java/lang/invoke/MethodHandle" ∧ yX11_noSlot.cls ≠ "java/lang/invoke/VarHandle" ∧ (parseMethodDescriptor yX11_noSlot.desc).map (fun d => d.parameters.length) = some 1 := by decide +kernel
theorem kd_X11_restoreSnapshot : yX11_restoreSnapshot.cls ≠ "java/lang/invoke/MethodHandle" ∧ yX11_restoreSnapshot.cls ≠ "java/lang/invoke/VarHandle" ∧ (parseMethodDescriptor yX11_restoreSnapshot.desc).map (fun d => d.parameters.length) = some 1 := by decide +kernel
theorem fs0_X0 : ∀ j, j < 16 → defaultValue (tyX0 j) = vp_V [.null, .int 0, .int 0, .int 0, .int 0, .int 0, .int 0, .int 0, .int 0, .int 0, .int 0, .int 0, .int 0, .int 0, .int 0, .null] j := by
  intro j hj
  match j, hj with
  | 0, _ => rfl
  | 1, _ => rfl
  | 2, _ => rfl
  | 3, _ => rfl
  | 4, _ => rfl
  | 5, _ => rfl
  | 6, _ => rfl
  | 7, _ => rfl
  | 8, _ => rfl
  | 9, _ => rfl
  | 10, _ => rfl
  | 11, _ => rfl
  | 12, _ => rfl
  | 13, _ => rfl
  | 14, _ => rfl
  | 15, _ => rfl
  | k + 16, hk => exact absurd hk (by omega)
theorem fs0_X1 : ∀ j, j < 14 → defaultValue (tyX1 j) = vp_V [.int 0, .null, .null, .int 0, .int 0, .int 0, .int 0, .null, .null, .int 0, .long 0, .long 0, .int 0, .long 0] j := by
  intro j hj
  match j, hj with
  | 0, _ => rfl
  | 1, _ => rfl
  | 2, _ => rfl
  | 3, _ => rfl
  | 4, _ => rfl
  | 5, _ => rfl
  | 6, _ => rfl
  | 7, _ => rfl
  | 8, _ => rfl
  | 9, _ => rfl
  | 10, _ => rfl
  | 11, _ => rfl
  | 12, _ => rfl
  | 13, _ => rfl
  | k + 14, hk => exact absurd hk (by omega)
theorem fs0_X2 : ∀ j, j < 4 → defaultValue (tyX2 j) = vp_V [.int 0, .null, .null, .null] j := by
  intro j hj
  match j, hj with
  | 0, _ => rfl
  | 1, _ => rfl
  | 2, _ => rfl
  | 3, _ => rfl
  | k + 4, hk => exact absurd hk (by omega)
theorem fs0_X3 : ∀ j, j < 4 → defaultValue (tyX3 j) = vp_V [.long 0, .long 0, .long 0, .long 0] j := by
  intro j hj
  match j, hj with
  | 0, _ => rfl
  | 1, _ => rfl
  | 2, _ => rfl
  | 3, _ => rfl
  | k + 4, hk => exact absurd hk (by omega)
theorem fs0_X4 : ∀ j, j < 7 → defaultValue (tyX4 j) = vp_V [.int 0, .int 0, .int 0, .int 0, .int 0, .int 0, .null] j := by
  intro j hj
  match j, hj with
  | 0, _ => rfl
  | 1, _ => rfl
  | 2, _ => rfl
  | 3, _ => rfl
  | 4, _ => rfl
  | 5, _ => rfl
  | 6, _ => rfl
  | k + 7, hk => exact absurd hk (by omega)
theorem fs0_X5 : ∀ j, j < 5 → defaultValue (tyX5 j) = vp_V [.int 0, .null, .null, .null, .null] j := by
  intro j hj
  match j, hj with
  | 0, _ => rfl
  | 1, _ => rfl
  | 2, _ => rfl
  | 3, _ => rfl
  | 4, _ => rfl
  | k + 5, hk => exact absurd hk (by omega)
theorem fs0_X6 : ∀ j, j < 7 → defaultValue (tyX6 j) = vp_V [.null, .int 0, .null, .int 0, .int 0, .int 0, .int 0] j := by
  intro j hj
  match j, hj with
  | 0, _ => rfl
  | 1, _ => rfl
  | 2, _ => rfl
  | 3, _ => rfl
  | 4, _ => rfl
  | 5, _ => rfl
  | 6, _ => rfl
  | k + 7, hk => exact absurd hk (by omega)
theorem fs0_X7 : ∀ j, j < 12 → defaultValue (tyX7 j) = vp_V [.int 0, .int 0, .int 0, .int 0, .int 0, .int 0, .int 0, .int 0, .int 0, .int 0, .int 0, .int 0] j := by
  intro j hj
  match j, hj with
  | 0, _ => rfl
  | 1, _ => rfl
  | 2, _ => rfl
  | 3, _ => rfl
  | 4, _ => rfl
  | 5, _ => rfl
  | 6, _ => rfl
  | 7, _ => rfl
  | 8, _ => rfl
  | 9, _ => rfl
  | 10, _ => rfl
  | 11, _ => rfl
  | k + 12, hk => exact absurd hk (by omega)
theorem fs0_X8 : ∀ j, j < 5 → defaultValue (tyX8 j) = vp_V [.int 0, .int 0, .null, .int 0, .int 0] j := by
  intro j hj
  match j, hj with
  | 0, _ => rfl
  | 1, _ => rfl
  | 2, _ => rfl
  | 3, _ => rfl
  | 4, _ => rfl
  | k + 5, hk => exact absurd hk (by omega)
theorem fs0_X9 : ∀ j, j < 8 → defaultValue (tyX9 j) = vp_V [.int 0, .null, .null, .null, .int 0, .null, .null, .null] j := by
  intro j hj
  match j, hj with
  | 0, _ => rfl
  | 1, _ => rfl
  | 2, _ => rfl
  | 3, _ => rfl
  | 4, _ => rfl
  | 5, _ => rfl
  | 6, _ => rfl
  | 7, _ => rfl
  | k + 8, hk => exact absurd hk (by omega)
theorem fs0_X10 : ∀ j, j < 6 → defaultValue (tyX10 j) = vp_V [.null, .null, .null, .null, .int 0, .int 0] j := by
  intro j hj
  match j, hj with
  | 0, _ => rfl
  | 1, _ => rfl
  | 2, _ => rfl
  | 3, _ => rfl
  | 4, _ => rfl
  | 5, _ => rfl
  | k + 6, hk => exact absurd hk (by omega)
theorem fs0_X11 : ∀ j, j < 19 → defaultValue (tyX11 j) = vp_V [.null, .null, .null, .null, .null, .null, .null, .null, .null, .null, .int 0, .null, .int 0, .int 0, .int 0, .int 0, .int 0, .int 0, .int 0] j := by
  intro j hj
  match j, hj with
  | 0, _ => rfl
  | 1, _ => rfl
  | 2, _ => rfl
  | 3, _ => rfl
  | 4, _ => rfl
  | 5, _ => rfl
  | 6, _ => rfl
  | 7, _ => rfl
  | 8, _ => rfl
  | 9, _ => rfl
  | 10, _ => rfl
  | 11, _ => rfl
  | 12, _ => rfl
  | 13, _ => rfl
  | 14, _ => rfl
  | 15, _ => rfl
  | 16, _ => rfl
  | 17, _ => rfl
  | 18, _ => rfl
  | k + 19, hk => exact absurd hk (by omega)
theorem jm_min_s : Cond.static Lib.Math.min.name ∈ cm_all := ks_J9_min_7cf53
theorem jm_min_c : Cond.code Lib.Math.min.name Lib.Math.min.code 2 (some .int) ∈ cm_all := cm_inT (cm_t3 _ (List.mem_of_getElem? (i := 146) rfl)) rfl
theorem jm_max_s : Cond.static Lib.Math.max.name ∈ cm_all := ks_J9_max_7cf53
theorem jm_max_c : Cond.code Lib.Math.max.name Lib.Math.max.code 2 (some .int) ∈ cm_all := cm_inT (cm_t2 _ (List.mem_of_getElem? (i := 146) rfl)) rfl
theorem jm_min_long_s : Cond.static Lib.MathLoose.min_long.x ∈ cm_all := ks_J9_min_f86c9
theorem jm_min_long_c : Cond.code Lib.MathLoose.min_long.x Lib.MathLoose.min_long.code 4 (some .long) ∈ cm_all := cm_inT (cm_t5 _ (List.mem_of_getElem? (i := 12) rfl)) rfl
theorem jm_max_long_s : Cond.static Lib.MathLoose.max_long.x ∈ cm_all := ks_J9_max_f86c9
theorem jm_max_long_c : Cond.code Lib.MathLoose.max_long.x Lib.MathLoose.max_long.code 4 (some .long) ∈ cm_all := cm_inT (cm_t5 _ (List.mem_of_getElem? (i := 17) rfl)) rfl
theorem jm_abs_s : Cond.static Lib.Math.abs.name ∈ cm_all := ks_J9_abs_0f7a4
theorem jm_abs_c : Cond.code Lib.Math.abs.name Lib.Math.abs.code 1 (some .int) ∈ cm_all := cm_inT (cm_t8 _ (List.mem_of_getElem? (i := 98) rfl)) rfl
set_option maxRecDepth 100000 in
theorem kt_RX10_356 : ∀ w ∈ vx_at0 RX10 356 "java/lang/IllegalArgumentException" cm_names, w ∈ cm_all := cm_sub (by decide +kernel) (by decide +kernel)
set_option maxRecDepth 100000 in
theorem ktg_RX10_356 : ∀ w ∈ Cond.classLink RX10 354 "java/lang/IllegalArgumentException" :: Cond.initialized "java/lang/IllegalArgumentException" :: vx_at0 RX10 356 "java/lang/IllegalArgumentException" cm_names, vx_ot w = true := by decide +kernel
set_option maxRecDepth 100000 in
theorem kt_RX10_359 : ∀ w ∈ vx_at0 RX10 359 "java/lang/IndexOutOfBoundsException" cm_names, w ∈ cm_all := cm_sub (by decide +kernel) (by decide +kernel)
set_option maxRecDepth 100000 in
theorem ktg_RX10_359 : ∀ w ∈ Cond.classLink RX10 357 "java/lang/IndexOutOfBoundsException" :: Cond.initialized "java/lang/IndexOutOfBoundsException" :: vx_at0 RX10 359 "java/lang/IndexOutOfBoundsException" cm_names, vx_ot w = true := by decide +kernel
