/-! words of the tables, by name -/
theorem kl_RX0_106 : Cond.methodLink RX0 106 yJ9_max_7cf53 ∈ cm_all := cm_inT (cm_t5 _ (List.mem_of_getElem? (i := 22) rfl)) rfl
theorem kl_RX1_148 : Cond.methodLinkNest RX1 148 yX0_passCurrent "CellCycler" ∈ cm_all := cm_inT (cm_t5 _ (List.mem_of_getElem? (i := 23) rfl)) rfl
theorem kv_X0_passCurrent : Cond.instanceMethod yX0_passCurrent ∈ cm_all := cm_inT (cm_t5 _ (List.mem_of_getElem? (i := 25) rfl)) rfl
theorem kc_X0_passCurrent : Cond.code yX0_passCurrent cX0_passCurrent 3 none ∈ cm_all := cm_inT (cm_t5 _ (List.mem_of_getElem? (i := 26) rfl)) rfl
theorem kl_RX0_108 : Cond.methodLink RX0 108 yX0_polarize ∈ cm_all := cm_inT (cm_t5 _ (List.mem_of_getElem? (i := 27) rfl)) rfl
theorem kv_X0_polarize : Cond.instanceMethod yX0_polarize ∈ cm_all := cm_inT (cm_t5 _ (List.mem_of_getElem? (i := 29) rfl)) rfl
theorem kc_X0_polarize : Cond.code yX0_polarize cX0_polarize 4 none ∈ cm_all := cm_inT (cm_t5 _ (List.mem_of_getElem? (i := 30) rfl)) rfl
theorem kl_RX0_135 : Cond.methodLink RX0 135 yJ6_compare_7cf53 ∈ cm_all := cm_inT (cm_t5 _ (List.mem_of_getElem? (i := 31) rfl)) rfl
theorem ks_J6_compare_7cf53 : Cond.static yJ6_compare_7cf53 ∈ cm_all := cm_inT (cm_t5 _ (List.mem_of_getElem? (i := 32) rfl)) rfl
theorem kc_J6_compare_7cf53 : Cond.code yJ6_compare_7cf53 cJ6_compare_7cf53 2 (some .int) ∈ cm_all := cm_inT (cm_t5 _ (List.mem_of_getElem? (i := 33) rfl)) rfl
theorem kl_RX0_112 : Cond.methodLink RX0 112 yX0_moveCharge ∈ cm_all := cm_inT (cm_t5 _ (List.mem_of_getElem? (i := 34) rfl)) rfl
theorem kv_X0_moveCharge : Cond.instanceMethod yX0_moveCharge ∈ cm_all := cm_inT (cm_t5 _ (List.mem_of_getElem? (i := 36) rfl)) rfl
theorem kc_X0_moveCharge : Cond.code yX0_moveCharge cX0_moveCharge 4 none ∈ cm_all := cm_inT (cm_t5 _ (List.mem_of_getElem? (i := 37) rfl)) rfl
theorem kl_RX0_146 : Cond.methodLink RX0 146 yJ9_min_7cf53 ∈ cm_all := cm_inT (cm_t5 _ (List.mem_of_getElem? (i := 38) rfl)) rfl
theorem kl_RX0_116 : Cond.methodLink RX0 116 yX0_wear ∈ cm_all := cm_inT (cm_t5 _ (List.mem_of_getElem? (i := 39) rfl)) rfl
theorem kv_X0_wear : Cond.instanceMethod yX0_wear ∈ cm_all := cm_inT (cm_t5 _ (List.mem_of_getElem? (i := 41) rfl)) rfl
theorem kc_X0_wear : Cond.code yX0_wear cX0_wear 4 none ∈ cm_all := cm_inT (cm_t5 _ (List.mem_of_getElem? (i := 42) rfl)) rfl
theorem kl_RX0_154 : Cond.methodLinkNest RX0 154 yX10_remainder "CellCycler" ∈ cm_all := cm_inT (cm_t5 _ (List.mem_of_getElem? (i := 43) rfl)) rfl
theorem ks_X10_remainder : Cond.static yX10_remainder ∈ cm_all := cm_inT (cm_t5 _ (List.mem_of_getElem? (i := 44) rfl)) rfl
theorem kc_X10_remainder : Cond.code yX10_remainder cX10_remainder 4 (some .long) ∈ cm_all := cm_inT (cm_t5 _ (List.mem_of_getElem? (i := 45) rfl)) rfl
theorem kl_RX0_119 : Cond.methodLink RX0 119 yX0_warm ∈ cm_all := cm_inT (cm_t5 _ (List.mem_of_getElem? (i := 46) rfl)) rfl
theorem kv_X0_warm : Cond.instanceMethod yX0_warm ∈ cm_all := cm_inT (cm_t5 _ (List.mem_of_getElem? (i := 48) rfl)) rfl
theorem kc_X0_warm : Cond.code yX0_warm cX0_warm 3 none ∈ cm_all := cm_inT (cm_t5 _ (List.mem_of_getElem? (i := 49) rfl)) rfl
theorem kl_RX1_152 : Cond.methodLinkNest RX1 152 yX0_thousandths "CellCycler" ∈ cm_all := cm_inT (cm_t5 _ (List.mem_of_getElem? (i := 50) rfl)) rfl
theorem kv_X0_thousandths : Cond.instanceMethod yX0_thousandths ∈ cm_all := cm_inT (cm_t5 _ (List.mem_of_getElem? (i := 52) rfl)) rfl
theorem kc_X0_thousandths : Cond.code yX0_thousandths cX0_thousandths 1 (some .int) ∈ cm_all := cm_inT (cm_t5 _ (List.mem_of_getElem? (i := 53) rfl)) rfl
theorem kl_RX1_156 : Cond.methodLinkNest RX1 156 yX4_countFilling "CellCycler" ∈ cm_all := cm_inT (cm_t5 _ (List.mem_of_getElem? (i := 54) rfl)) rfl
theorem kv_X4_countFilling : Cond.instanceMethod yX4_countFilling ∈ cm_all := cm_inT (cm_t5 _ (List.mem_of_getElem? (i := 56) rfl)) rfl
theorem kc_X4_countFilling : Cond.code yX4_countFilling cX4_countFilling 3 none ∈ cm_all := cm_inT (cm_t5 _ (List.mem_of_getElem? (i := 57) rfl)) rfl
theorem kl_RX4_38 : Cond.methodLink RX4 38 yJ9_min_7cf53 ∈ cm_all := cm_inT (cm_t5 _ (List.mem_of_getElem? (i := 58) rfl)) rfl
theorem kl_RX4_44 : Cond.methodLinkNest RX4 44 yX10_at "CellCycler" ∈ cm_all := cm_inT (cm_t5 _ (List.mem_of_getElem? (i := 59) rfl)) rfl
theorem kl_RX4_48 : Cond.methodLinkNest RX4 48 yX10_put "CellCycler" ∈ cm_all := cm_inT (cm_t5 _ (List.mem_of_getElem? (i := 60) rfl)) rfl
theorem kl_RX1_162 : Cond.constantLong RX1 162 (1000) ∈ cm_all := cm_inT (cm_t5 _ (List.mem_of_getElem? (i := 61) rfl)) rfl
theorem kl_RX1_164 : Cond.methodLinkNest RX1 164 yX10_quotient "CellCycler" ∈ cm_all := cm_inT (cm_t5 _ (List.mem_of_getElem? (i := 62) rfl)) rfl
theorem kl_RX1_171 : Cond.methodLink RX1 171 yX1_warn ∈ cm_all := cm_inT (cm_t5 _ (List.mem_of_getElem? (i := 63) rfl)) rfl
theorem kv_X1_warn : Cond.instanceMethod yX1_warn ∈ cm_all := cm_inT (cm_t5 _ (List.mem_of_getElem? (i := 65) rfl)) rfl
theorem kc_X1_warn : Cond.code yX1_warn cX1_warn 4 none ∈ cm_all := cm_inT (cm_t5 _ (List.mem_of_getElem? (i := 66) rfl)) rfl
theorem kl_RX1_100 : Cond.methodLinkNest RX1 100 yX9_note "CellCycler" ∈ cm_all := cm_inT (cm_t5 _ (List.mem_of_getElem? (i := 67) rfl)) rfl
theorem kv_X9_note : Cond.instanceMethod yX9_note ∈ cm_all := cm_inT (cm_t5 _ (List.mem_of_getElem? (i := 69) rfl)) rfl
theorem kc_X9_note : Cond.code yX9_note cX9_note 5 none ∈ cm_all := cm_inT (cm_t5 _ (List.mem_of_getElem? (i := 70) rfl)) rfl
theorem kl_RX9_90 : Cond.methodLinkNest RX9 90 yX8_addRow "CellCycler" ∈ cm_all := cm_inT (cm_t5 _ (List.mem_of_getElem? (i := 71) rfl)) rfl
theorem kv_X8_addRow : Cond.instanceMethod yX8_addRow ∈ cm_all := cm_inT (cm_t5 _ (List.mem_of_getElem? (i := 73) rfl)) rfl
theorem kc_X8_addRow : Cond.code yX8_addRow cX8_addRow 1 none ∈ cm_all := cm_inT (cm_t5 _ (List.mem_of_getElem? (i := 74) rfl)) rfl
theorem kl_RX9_96 : Cond.methodLinkNest RX9 96 yX8_placeOf "CellCycler" ∈ cm_all := cm_inT (cm_t5 _ (List.mem_of_getElem? (i := 75) rfl)) rfl
theorem kv_X8_placeOf : Cond.instanceMethod yX8_placeOf ∈ cm_all := cm_inT (cm_t5 _ (List.mem_of_getElem? (i := 77) rfl)) rfl
theorem kc_X8_placeOf : Cond.code yX8_placeOf cX8_placeOf 3 (some .int) ∈ cm_all := cm_inT (cm_t5 _ (List.mem_of_getElem? (i := 78) rfl)) rfl
theorem kl_RX9_104 : Cond.methodLinkNest RX9 104 yX10_put "CellCycler" ∈ cm_all := cm_inT (cm_t5 _ (List.mem_of_getElem? (i := 79) rfl)) rfl
theorem kl_RX1_179 : Cond.methodLink RX1 179 yX1_stepEnds ∈ cm_all := cm_inT (cm_t5 _ (List.mem_of_getElem? (i := 80) rfl)) rfl
theorem kv_X1_stepEnds : Cond.instanceMethod yX1_stepEnds ∈ cm_all := cm_inT (cm_t5 _ (List.mem_of_getElem? (i := 82) rfl)) rfl
theorem kc_X1_stepEnds : Cond.code yX1_stepEnds cX1_stepEnds 4 (some .boolean) ∈ cm_all := cm_inT (cm_t5 _ (List.mem_of_getElem? (i := 83) rfl)) rfl
theorem kl_RX1_231 : Cond.methodLinkNest RX1 231 yX5_secondOf "CellCycler" ∈ cm_all := cm_inT (cm_t5 _ (List.mem_of_getElem? (i := 84) rfl)) rfl
theorem kl_RX1_183 : Cond.methodLink RX1 183 yX1_tripReason ∈ cm_all := cm_inT (cm_t5 _ (List.mem_of_getElem? (i := 85) rfl)) rfl
theorem kv_X1_tripReason : Cond.instanceMethod yX1_tripReason ∈ cm_all := cm_inT (cm_t5 _ (List.mem_of_getElem? (i := 87) rfl)) rfl
theorem kc_X1_tripReason : Cond.code yX1_tripReason cX1_tripReason 3 (some .int) ∈ cm_all := cm_inT (cm_t5 _ (List.mem_of_getElem? (i := 88) rfl)) rfl
theorem kl_RX1_186 : Cond.methodLink RX1 186 yX1_trip ∈ cm_all := cm_inT (cm_t5 _ (List.mem_of_getElem? (i := 89) rfl)) rfl
theorem kv_X1_trip : Cond.instanceMethod yX1_trip ∈ cm_all := cm_inT (cm_t5 _ (List.mem_of_getElem? (i := 91) rfl)) rfl
theorem kc_X1_trip : Cond.code yX1_trip cX1_trip 3 none ∈ cm_all := cm_inT (cm_t5 _ (List.mem_of_getElem? (i := 92) rfl)) rfl
theorem kl_RX1_190 : Cond.methodLink RX1 190 yX1_measureEnd ∈ cm_all := cm_inT (cm_t5 _ (List.mem_of_getElem? (i := 93) rfl)) rfl
theorem kv_X1_measureEnd : Cond.instanceMethod yX1_measureEnd ∈ cm_all := cm_inT (cm_t5 _ (List.mem_of_getElem? (i := 95) rfl)) rfl
theorem kc_X1_measureEnd : Cond.code yX1_measureEnd cX1_measureEnd 2 none ∈ cm_all := cm_inT (cm_t5 _ (List.mem_of_getElem? (i := 96) rfl)) rfl
theorem kl_RX1_234 : Cond.methodLink RX1 234 yX1_makeRecord ∈ cm_all := cm_inT (cm_t5 _ (List.mem_of_getElem? (i := 97) rfl)) rfl
theorem kv_X1_makeRecord : Cond.instanceMethod yX1_makeRecord ∈ cm_all := cm_inT (cm_t5 _ (List.mem_of_getElem? (i := 99) rfl)) rfl
theorem kc_X1_makeRecord : Cond.code yX1_makeRecord cX1_makeRecord 8 none ∈ cm_all := cm_inT (cm_t5 _ (List.mem_of_getElem? (i := 100) rfl)) rfl
theorem kl_RX1_244 : Cond.methodLinkNest RX1 244 yX8_addRow "CellCycler" ∈ cm_all := cm_inT (cm_t5 _ (List.mem_of_getElem? (i := 101) rfl)) rfl
theorem kl_RX1_255 : Cond.methodLinkNest RX1 255 yX8_placeOf "CellCycler" ∈ cm_all := cm_inT (cm_t5 _ (List.mem_of_getElem? (i := 102) rfl)) rfl
theorem kl_RX1_126 : Cond.methodLinkNest RX1 126 yX10_put "CellCycler" ∈ cm_all := cm_inT (cm_t5 _ (List.mem_of_getElem? (i := 103) rfl)) rfl
theorem kl_RX1_97 : Cond.methodLink RX1 97 yX1_countFromHere ∈ cm_all := cm_inT (cm_t5 _ (List.mem_of_getElem? (i := 104) rfl)) rfl
theorem kv_X1_countFromHere : Cond.instanceMethod yX1_countFromHere ∈ cm_all := cm_inT (cm_t5 _ (List.mem_of_getElem? (i := 106) rfl)) rfl
theorem kc_X1_countFromHere : Cond.code yX1_countFromHere cX1_countFromHere 1 none ∈ cm_all := cm_inT (cm_t5 _ (List.mem_of_getElem? (i := 107) rfl)) rfl
theorem kl_RX1_193 : Cond.methodLink RX1 193 yX1_leaveStep ∈ cm_all := cm_inT (cm_t5 _ (List.mem_of_getElem? (i := 108) rfl)) rfl
theorem kv_X1_leaveStep : Cond.instanceMethod yX1_leaveStep ∈ cm_all := cm_inT (cm_t5 _ (List.mem_of_getElem? (i := 110) rfl)) rfl
theorem kc_X1_leaveStep : Cond.code yX1_leaveStep cX1_leaveStep 3 none ∈ cm_all := cm_inT (cm_t5 _ (List.mem_of_getElem? (i := 111) rfl)) rfl
theorem kl_RX1_262 : Cond.methodLink RX1 262 yX1_stepBehind ∈ cm_all := cm_inT (cm_t5 _ (List.mem_of_getElem? (i := 112) rfl)) rfl
theorem kv_X1_stepBehind : Cond.instanceMethod yX1_stepBehind ∈ cm_all := cm_inT (cm_t5 _ (List.mem_of_getElem? (i := 114) rfl)) rfl
theorem kc_X1_stepBehind : Cond.code yX1_stepBehind cX1_stepBehind 5 (some .int) ∈ cm_all := cm_inT (cm_t5 _ (List.mem_of_getElem? (i := 115) rfl)) rfl
theorem kl_RX1_266 : Cond.methodLinkNest RX1 266 yX5_stepsOf "CellCycler" ∈ cm_all := cm_inT (cm_t5 _ (List.mem_of_getElem? (i := 116) rfl)) rfl
theorem kl_RX1_122 : Cond.methodLinkNest RX1 122 yX10_at "CellCycler" ∈ cm_all := cm_inT (cm_t5 _ (List.mem_of_getElem? (i := 117) rfl)) rfl
theorem kl_RX1_106 : Cond.methodLink RX1 106 yX1_enterStep ∈ cm_all := cm_inT (cm_t5 _ (List.mem_of_getElem? (i := 118) rfl)) rfl
theorem kv_X1_enterStep : Cond.instanceMethod yX1_enterStep ∈ cm_all := cm_inT (cm_t5 _ (List.mem_of_getElem? (i := 120) rfl)) rfl
theorem kc_X1_enterStep : Cond.code yX1_enterStep cX1_enterStep 2 none ∈ cm_all := cm_inT (cm_t5 _ (List.mem_of_getElem? (i := 121) rfl)) rfl
theorem kl_RX1_269 : Cond.methodLink RX1 269 yX1_takeWaiting ∈ cm_all := cm_inT (cm_t5 _ (List.mem_of_getElem? (i := 122) rfl)) rfl
theorem kv_X1_takeWaiting : Cond.instanceMethod yX1_takeWaiting ∈ cm_all := cm_inT (cm_t5 _ (List.mem_of_getElem? (i := 124) rfl)) rfl
theorem kc_X1_takeWaiting : Cond.code yX1_takeWaiting cX1_takeWaiting 3 (some .int) ∈ cm_all := cm_inT (cm_t5 _ (List.mem_of_getElem? (i := 125) rfl)) rfl
theorem kl_RX1_130 : Cond.methodLink RX1 130 yJ9_max_7cf53 ∈ cm_all := cm_inT (cm_t5 _ (List.mem_of_getElem? (i := 126) rfl)) rfl
theorem kl_RX1_272 : Cond.methodLink RX1 272 yX1_begin ∈ cm_all := cm_inT (cm_t5 _ (List.mem_of_getElem? (i := 127) rfl)) rfl
theorem kv_X1_begin : Cond.instanceMethod yX1_begin ∈ cm_all := cm_inT (cm_t5 _ (List.mem_of_getElem? (i := 129) rfl)) rfl
theorem kc_X1_begin : Cond.code yX1_begin cX1_begin 3 none ∈ cm_all := cm_inT (cm_t5 _ (List.mem_of_getElem? (i := 130) rfl)) rfl
theorem kl_RL_226 : Cond.methodLink RL 226 yL_start ∈ cm_all := cm_inT (cm_t5 _ (List.mem_of_getElem? (i := 131) rfl)) rfl
theorem ks_L_start : Cond.static yL_start ∈ cm_all := cm_inT (cm_t5 _ (List.mem_of_getElem? (i := 132) rfl)) rfl
theorem kw_L_start : Cond.codeWith yL_start cL_start 5 (some .int) [(0, 10, 13, 32)] ∈ cm_all := cm_inT (cm_t5 _ (List.mem_of_getElem? (i := 133) rfl)) rfl
theorem kl_RL_37 : Cond.methodLink RL 37 yX10_start ∈ cm_all := cm_inT (cm_t5 _ (List.mem_of_getElem? (i := 134) rfl)) rfl
theorem kv_X10_start : Cond.instanceMethod yX10_start ∈ cm_all := cm_inT (cm_t5 _ (List.mem_of_getElem? (i := 135) rfl)) rfl
theorem kx_X10_start : Cond.selects yX10_start.cls yX10_start yX10_start ∈ cm_all := cm_inT (cm_t5 _ (List.mem_of_getElem? (i := 136) rfl)) rfl
theorem kc_X10_start : Cond.code yX10_start cX10_start 4 (some .int) ∈ cm_all := cm_inT (cm_t5 _ (List.mem_of_getElem? (i := 137) rfl)) rfl
theorem kl_RX10_172 : Cond.methodLink RX10 172 yX10_needChannel ∈ cm_all := cm_inT (cm_t5 _ (List.mem_of_getElem? (i := 138) rfl)) rfl
theorem kv_X10_needChannel : Cond.instanceMethod yX10_needChannel ∈ cm_all := cm_inT (cm_t5 _ (List.mem_of_getElem? (i := 140) rfl)) rfl
theorem kc_X10_needChannel : Cond.code yX10_needChannel cX10_needChannel 3 (some (.object "CellCycler$Channel")) ∈ cm_all := cm_inT (cm_t5 _ (List.mem_of_getElem? (i := 141) rfl)) rfl
theorem kl_RX10_175 : Cond.methodLinkNest RX10 175 yX1_isFree "CellCycler" ∈ cm_all := cm_inT (cm_t5 _ (List.mem_of_getElem? (i := 142) rfl)) rfl
theorem kv_X1_isFree : Cond.instanceMethod yX1_isFree ∈ cm_all := cm_inT (cm_t5 _ (List.mem_of_getElem? (i := 144) rfl)) rfl
theorem kc_X1_isFree : Cond.code yX1_isFree cX1_isFree 1 (some .boolean) ∈ cm_all := cm_inT (cm_t5 _ (List.mem_of_getElem? (i := 145) rfl)) rfl
theorem kl_RX10_179 : Cond.methodLinkNest RX10 179 yX1_begin "CellCycler" ∈ cm_all := cm_inT (cm_t5 _ (List.mem_of_getElem? (i := 146) rfl)) rfl
theorem kl_RX10_183 : Cond.methodLinkNest RX10 183 yX9_channelsIn "CellCycler" ∈ cm_all := cm_inT (cm_t5 _ (List.mem_of_getElem? (i := 147) rfl)) rfl
theorem kv_X9_channelsIn : Cond.instanceMethod yX9_channelsIn ∈ cm_all := cm_inT (cm_t5 _ (List.mem_of_getElem? (i := 149) rfl)) rfl
theorem kc_X9_channelsIn : Cond.code yX9_channelsIn cX9_channelsIn 5 (some .int) ∈ cm_all := cm_inT (cm_t5 _ (List.mem_of_getElem? (i := 150) rfl)) rfl
theorem kl_RX10_186 : Cond.methodLink RX10 186 yJ6_bitCount_0f7a4 ∈ cm_all := cm_inT (cm_t5 _ (List.mem_of_getElem? (i := 151) rfl)) rfl
theorem ks_J6_bitCount_0f7a4 : Cond.static yJ6_bitCount_0f7a4 ∈ cm_all := cm_inT (cm_t5 _ (List.mem_of_getElem? (i := 152) rfl)) rfl
theorem kc_J6_bitCount_0f7a4 : Cond.code yJ6_bitCount_0f7a4 cJ6_bitCount_0f7a4 1 (some .int) ∈ cm_all := cm_inT (cm_t5 _ (List.mem_of_getElem? (i := 153) rfl)) rfl
theorem kl_RJ6_265 : Cond.constant RJ6 265 (1431655765) ∈ cm_all := cm_inT (cm_t5 _ (List.mem_of_getElem? (i := 154) rfl)) rfl
theorem kl_RJ6_266 : Cond.constant RJ6 266 (858993459) ∈ cm_all := cm_inT (cm_t5 _ (List.mem_of_getElem? (i := 155) rfl)) rfl
theorem kl_RJ6_267 : Cond.constant RJ6 267 (252645135) ∈ cm_all := cm_inT (cm_t5 _ (List.mem_of_getElem? (i := 156) rfl)) rfl
theorem kl_RL_229 : Cond.methodLink RL 229 yL_pause ∈ cm_all := cm_inT (cm_t5 _ (List.mem_of_getElem? (i := 157) rfl)) rfl
theorem ks_L_pause : Cond.static yL_pause ∈ cm_all := cm_inT (cm_t5 _ (List.mem_of_getElem? (i := 158) rfl)) rfl
theorem kw_L_pause : Cond.codeWith yL_pause cL_pause 4 (some .int) [(0, 9, 12, 32)] ∈ cm_all := cm_inT (cm_t5 _ (List.mem_of_getElem? (i := 159) rfl)) rfl
theorem kl_RL_40 : Cond.methodLink RL 40 yX10_pause ∈ cm_all := cm_inT (cm_t5 _ (List.mem_of_getElem? (i := 160) rfl)) rfl
theorem kv_X10_pause : Cond.instanceMethod yX10_pause ∈ cm_all := cm_inT (cm_t5 _ (List.mem_of_getElem? (i := 161) rfl)) rfl
theorem kx_X10_pause : Cond.selects yX10_pause.cls yX10_pause yX10_pause ∈ cm_all := cm_inT (cm_t5 _ (List.mem_of_getElem? (i := 162) rfl)) rfl
theorem kc_X10_pause : Cond.code yX10_pause cX10_pause 3 (some .int) ∈ cm_all := cm_inT (cm_t5 _ (List.mem_of_getElem? (i := 163) rfl)) rfl
theorem kl_RL_232 : Cond.methodLink RL 232 yL_resume ∈ cm_all := cm_inT (cm_t5 _ (List.mem_of_getElem? (i := 164) rfl)) rfl
theorem ks_L_resume : Cond.static yL_resume ∈ cm_all := cm_inT (cm_t5 _ (List.mem_of_getElem? (i := 165) rfl)) rfl
theorem kw_L_resume : Cond.codeWith yL_resume cL_resume 4 (some .int) [(0, 9, 12, 32)] ∈ cm_all := cm_inT (cm_t5 _ (List.mem_of_getElem? (i := 166) rfl)) rfl
theorem kl_RL_43 : Cond.methodLink RL 43 yX10_resume ∈ cm_all := cm_inT (cm_t5 _ (List.mem_of_getElem? (i := 167) rfl)) rfl
theorem kv_X10_resume : Cond.instanceMethod yX10_resume ∈ cm_all := cm_inT (cm_t5 _ (List.mem_of_getElem? (i := 168) rfl)) rfl
theorem kx_X10_resume : Cond.selects yX10_resume.cls yX10_resume yX10_resume ∈ cm_all := cm_inT (cm_t5 _ (List.mem_of_getElem? (i := 169) rfl)) rfl
theorem kc_X10_resume : Cond.code yX10_resume cX10_resume 3 (some .int) ∈ cm_all := cm_inT (cm_t5 _ (List.mem_of_getElem? (i := 170) rfl)) rfl
theorem kl_RL_235 : Cond.methodLink RL 235 yL_stop ∈ cm_all := cm_inT (cm_t5 _ (List.mem_of_getElem? (i := 171) rfl)) rfl
theorem ks_L_stop : Cond.static yL_stop ∈ cm_all := cm_inT (cm_t5 _ (List.mem_of_getElem? (i := 172) rfl)) rfl
theorem kw_L_stop : Cond.codeWith yL_stop cL_stop 4 (some .int) [(0, 9, 12, 32)] ∈ cm_all := cm_inT (cm_t5 _ (List.mem_of_getElem? (i := 173) rfl)) rfl
theorem kl_RL_46 : Cond.methodLink RL 46 yX10_stop ∈ cm_all := cm_inT (cm_t5 _ (List.mem_of_getElem? (i := 174) rfl)) rfl
theorem kv_X10_stop : Cond.instanceMethod yX10_stop ∈ cm_all := cm_inT (cm_t5 _ (List.mem_of_getElem? (i := 175) rfl)) rfl
theorem kx_X10_stop : Cond.selects yX10_stop.cls yX10_stop yX10_stop ∈ cm_all := cm_inT (cm_t5 _ (List.mem_of_getElem? (i := 176) rfl)) rfl
theorem kc_X10_stop : Cond.code yX10_stop cX10_stop 4 (some .int) ∈ cm_all := cm_inT (cm_t5 _ (List.mem_of_getElem? (i := 177) rfl)) rfl
theorem kl_RL_238 : Cond.methodLink RL 238 yL_skip ∈ cm_all := cm_inT (cm_t5 _ (List.mem_of_getElem? (i := 178) rfl)) rfl
theorem ks_L_skip : Cond.static yL_skip ∈ cm_all := cm_inT (cm_t5 _ (List.mem_of_getElem? (i := 179) rfl)) rfl
theorem kw_L_skip : Cond.codeWith yL_skip cL_skip 4 (some .int) [(0, 9, 12, 32)] ∈ cm_all := cm_inT (cm_t5 _ (List.mem_of_getElem? (i := 180) rfl)) rfl
theorem kl_RL_49 : Cond.methodLink RL 49 yX10_skip ∈ cm_all := cm_inT (cm_t5 _ (List.mem_of_getElem? (i := 181) rfl)) rfl
theorem kv_X10_skip : Cond.instanceMethod yX10_skip ∈ cm_all := cm_inT (cm_t5 _ (List.mem_of_getElem? (i := 182) rfl)) rfl
theorem kx_X10_skip : Cond.selects yX10_skip.cls yX10_skip yX10_skip ∈ cm_all := cm_inT (cm_t5 _ (List.mem_of_getElem? (i := 183) rfl)) rfl
theorem kc_X10_skip : Cond.code yX10_skip cX10_skip 3 (some .int) ∈ cm_all := cm_inT (cm_t5 _ (List.mem_of_getElem? (i := 184) rfl)) rfl
theorem kl_RX10_194 : Cond.methodLinkNest RX10 194 yX1_leaveStep "CellCycler" ∈ cm_all := cm_inT (cm_t5 _ (List.mem_of_getElem? (i := 185) rfl)) rfl
theorem kl_RL_241 : Cond.methodLink RL 241 yL_replace ∈ cm_all := cm_inT (cm_t5 _ (List.mem_of_getElem? (i := 186) rfl)) rfl
theorem ks_L_replace : Cond.static yL_replace ∈ cm_all := cm_inT (cm_t5 _ (List.mem_of_getElem? (i := 187) rfl)) rfl
theorem kw_L_replace : Cond.codeWith yL_replace cL_replace 5 (some .int) [(0, 10, 13, 32), (0, 10, 17, 13)] ∈ cm_all := cm_inT (cm_t5 _ (List.mem_of_getElem? (i := 188) rfl)) rfl
theorem kl_RL_52 : Cond.methodLink RL 52 yX10_replace ∈ cm_all := cm_inT (cm_t5 _ (List.mem_of_getElem? (i := 189) rfl)) rfl
theorem kv_X10_replace : Cond.instanceMethod yX10_replace ∈ cm_all := cm_inT (cm_t5 _ (List.mem_of_getElem? (i := 190) rfl)) rfl
theorem kx_X10_replace : Cond.selects yX10_replace.cls yX10_replace yX10_replace ∈ cm_all := cm_inT (cm_t5 _ (List.mem_of_getElem? (i := 191) rfl)) rfl
theorem kc_X10_replace : Cond.code yX10_replace cX10_replace 5 (some .int) ∈ cm_all := cm_inT (cm_t5 _ (List.mem_of_getElem? (i := 192) rfl)) rfl
theorem kl_RX10_203 : Cond.methodLinkNest RX10 203 yX1_insertCell "CellCycler" ∈ cm_all := cm_inT (cm_t5 _ (List.mem_of_getElem? (i := 193) rfl)) rfl
theorem kl_RX10_207 : Cond.methodLinkNest RX10 207 yX9_note "CellCycler" ∈ cm_all := cm_inT (cm_t5 _ (List.mem_of_getElem? (i := 194) rfl)) rfl
theorem kl_RL_244 : Cond.methodLink RL 244 yL_enqueue ∈ cm_all := cm_inT (cm_t5 _ (List.mem_of_getElem? (i := 195) rfl)) rfl
theorem ks_L_enqueue : Cond.static yL_enqueue ∈ cm_all := cm_inT (cm_t5 _ (List.mem_of_getElem? (i := 196) rfl)) rfl
theorem kw_L_enqueue : Cond.codeWith yL_enqueue cL_enqueue 5 (some .int) [(0, 10, 13, 32)] ∈ cm_all := cm_inT (cm_t5 _ (List.mem_of_getElem? (i := 197) rfl)) rfl
theorem kl_RL_55 : Cond.methodLink RL 55 yX10_enqueue ∈ cm_all := cm_inT (cm_t5 _ (List.mem_of_getElem? (i := 198) rfl)) rfl
theorem kv_X10_enqueue : Cond.instanceMethod yX10_enqueue ∈ cm_all := cm_inT (cm_t5 _ (List.mem_of_getElem? (i := 199) rfl)) rfl
theorem kx_X10_enqueue : Cond.selects yX10_enqueue.cls yX10_enqueue yX10_enqueue ∈ cm_all := cm_inT (cm_t5 _ (List.mem_of_getElem? (i := 200) rfl)) rfl
theorem kc_X10_enqueue : Cond.code yX10_enqueue cX10_enqueue 4 (some .int) ∈ cm_all := cm_inT (cm_t5 _ (List.mem_of_getElem? (i := 201) rfl)) rfl
theorem kl_RL_247 : Cond.methodLink RL 247 yL_dequeue ∈ cm_all := cm_inT (cm_t5 _ (List.mem_of_getElem? (i := 202) rfl)) rfl
theorem ks_L_dequeue : Cond.static yL_dequeue ∈ cm_all := cm_inT (cm_t5 _ (List.mem_of_getElem? (i := 203) rfl)) rfl
theorem kw_L_dequeue : Cond.codeWith yL_dequeue cL_dequeue 4 (some .int) [(0, 9, 12, 32)] ∈ cm_all := cm_inT (cm_t5 _ (List.mem_of_getElem? (i := 204) rfl)) rfl
theorem kl_RL_58 : Cond.methodLink RL 58 yX10_dequeue ∈ cm_all := cm_inT (cm_t5 _ (List.mem_of_getElem? (i := 205) rfl)) rfl
theorem kv_X10_dequeue : Cond.instanceMethod yX10_dequeue ∈ cm_all := cm_inT (cm_t5 _ (List.mem_of_getElem? (i := 206) rfl)) rfl
theorem kx_X10_dequeue : Cond.selects yX10_dequeue.cls yX10_dequeue yX10_dequeue ∈ cm_all := cm_inT (cm_t5 _ (List.mem_of_getElem? (i := 207) rfl)) rfl
theorem kc_X10_dequeue : Cond.code yX10_dequeue cX10_dequeue 3 (some .int) ∈ cm_all := cm_inT (cm_t5 _ (List.mem_of_getElem? (i := 208) rfl)) rfl
theorem kl_RL_250 : Cond.methodLink RL 250 yL_startNext ∈ cm_all := cm_inT (cm_t5 _ (List.mem_of_getElem? (i := 209) rfl)) rfl
theorem ks_L_startNext : Cond.static yL_startNext ∈ cm_all := cm_inT (cm_t5 _ (List.mem_of_getElem? (i := 210) rfl)) rfl
theorem kw_L_startNext : Cond.codeWith yL_startNext cL_startNext 4 (some .int) [(0, 9, 12, 32)] ∈ cm_all := cm_inT (cm_t5 _ (List.mem_of_getElem? (i := 211) rfl)) rfl
theorem kl_RL_61 : Cond.methodLink RL 61 yX10_startNext ∈ cm_all := cm_inT (cm_t5 _ (List.mem_of_getElem? (i := 212) rfl)) rfl
theorem kv_X10_startNext : Cond.instanceMethod yX10_startNext ∈ cm_all := cm_inT (cm_t5 _ (List.mem_of_getElem? (i := 213) rfl)) rfl
theorem kx_X10_startNext : Cond.selects yX10_startNext.cls yX10_startNext yX10_startNext ∈ cm_all := cm_inT (cm_t5 _ (List.mem_of_getElem? (i := 214) rfl)) rfl
theorem kc_X10_startNext : Cond.code yX10_startNext cX10_startNext 3 (some .int) ∈ cm_all := cm_inT (cm_t5 _ (List.mem_of_getElem? (i := 215) rfl)) rfl
theorem kl_RX10_220 : Cond.methodLinkNest RX10 220 yX1_takeWaiting "CellCycler" ∈ cm_all := cm_inT (cm_t5 _ (List.mem_of_getElem? (i := 216) rfl)) rfl
theorem kl_RL_253 : Cond.methodLink RL 253 yL_queueAt ∈ cm_all := cm_inT (cm_t5 _ (List.mem_of_getElem? (i := 217) rfl)) rfl
theorem ks_L_queueAt : Cond.static yL_queueAt ∈ cm_all := cm_inT (cm_t5 _ (List.mem_of_getElem? (i := 218) rfl)) rfl
theorem kw_L_queueAt : Cond.codeWith yL_queueAt cL_queueAt 5 (some .int) [(0, 10, 13, 32)] ∈ cm_all := cm_inT (cm_t5 _ (List.mem_of_getElem? (i := 219) rfl)) rfl
theorem kl_RL_64 : Cond.methodLink RL 64 yX10_queueAt ∈ cm_all := cm_inT (cm_t5 _ (List.mem_of_getElem? (i := 220) rfl)) rfl
theorem kv_X10_queueAt : Cond.instanceMethod yX10_queueAt ∈ cm_all := cm_inT (cm_t5 _ (List.mem_of_getElem? (i := 221) rfl)) rfl
theorem kx_X10_queueAt : Cond.selects yX10_queueAt.cls yX10_queueAt yX10_queueAt ∈ cm_all := cm_inT (cm_t5 _ (List.mem_of_getElem? (i := 222) rfl)) rfl
theorem kc_X10_queueAt : Cond.code yX10_queueAt cX10_queueAt 4 (some .int) ∈ cm_all := cm_inT (cm_t5 _ (List.mem_of_getElem? (i := 223) rfl)) rfl
theorem kl_RL_256 : Cond.methodLink RL 256 yL_queueSize ∈ cm_all := cm_inT (cm_t5 _ (List.mem_of_getElem? (i := 224) rfl)) rfl
theorem ks_L_queueSize : Cond.static yL_queueSize ∈ cm_all := cm_inT (cm_t5 _ (List.mem_of_getElem? (i := 225) rfl)) rfl
theorem kw_L_queueSize : Cond.codeWith yL_queueSize cL_queueSize 4 (some .int) [(0, 9, 12, 32)] ∈ cm_all := cm_inT (cm_t5 _ (List.mem_of_getElem? (i := 226) rfl)) rfl
theorem kl_RL_67 : Cond.methodLink RL 67 yX10_queueSize ∈ cm_all := cm_inT (cm_t5 _ (List.mem_of_getElem? (i := 227) rfl)) rfl
theorem kv_X10_queueSize : Cond.instanceMethod yX10_queueSize ∈ cm_all := cm_inT (cm_t5 _ (List.mem_of_getElem? (i := 228) rfl)) rfl
theorem kx_X10_queueSize : Cond.selects yX10_queueSize.cls yX10_queueSize yX10_queueSize ∈ cm_all := cm_inT (cm_t5 _ (List.mem_of_getElem? (i := 229) rfl)) rfl
theorem kc_X10_queueSize : Cond.code yX10_queueSize cX10_queueSize 2 (some .int) ∈ cm_all := cm_inT (cm_t5 _ (List.mem_of_getElem? (i := 230) rfl)) rfl
theorem kl_RL_259 : Cond.methodLink RL 259 yL_value ∈ cm_all := cm_inT (cm_t5 _ (List.mem_of_getElem? (i := 231) rfl)) rfl
theorem ks_L_value : Cond.static yL_value ∈ cm_all := cm_inT (cm_t5 _ (List.mem_of_getElem? (i := 232) rfl)) rfl
theorem kw_L_value : Cond.codeWith yL_value cL_value 5 (some .int) [(0, 10, 13, 32), (0, 10, 17, 13)] ∈ cm_all := cm_inT (cm_t5 _ (List.mem_of_getElem? (i := 233) rfl)) rfl
theorem kl_RL_70 : Cond.methodLink RL 70 yX10_value ∈ cm_all := cm_inT (cm_t5 _ (List.mem_of_getElem? (i := 234) rfl)) rfl
theorem kv_X10_value : Cond.instanceMethod yX10_value ∈ cm_all := cm_inT (cm_t5 _ (List.mem_of_getElem? (i := 235) rfl)) rfl
theorem kx_X10_value : Cond.selects yX10_value.cls yX10_value yX10_value ∈ cm_all := cm_inT (cm_t5 _ (List.mem_of_getElem? (i := 236) rfl)) rfl
theorem kc_X10_value : Cond.code yX10_value cX10_value 4 (some .int) ∈ cm_all := cm_inT (cm_t5 _ (List.mem_of_getElem? (i := 237) rfl)) rfl
theorem kl_RX10_227 : Cond.methodLinkNest RX10 227 yX1_number "CellCycler" ∈ cm_all := cm_inT (cm_t5 _ (List.mem_of_getElem? (i := 238) rfl)) rfl
theorem kv_X1_number : Cond.instanceMethod yX1_number ∈ cm_all := cm_inT (cm_t6 _ (List.mem_of_getElem? (i := 0) rfl)) rfl
theorem kc_X1_number : Cond.code yX1_number cX1_number 3 (some .int) ∈ cm_all := cm_inT (cm_t6 _ (List.mem_of_getElem? (i := 1) rfl)) rfl
theorem kl_RL_262 : Cond.methodLink RL 262 yL_restVoltage ∈ cm_all := cm_inT (cm_t6 _ (List.mem_of_getElem? (i := 2) rfl)) rfl
theorem ks_L_restVoltage : Cond.static yL_restVoltage ∈ cm_all := cm_inT (cm_t6 _ (List.mem_of_getElem? (i := 3) rfl)) rfl
theorem kw_L_restVoltage : Cond.codeWith yL_restVoltage cL_restVoltage 5 (some .int) [(0, 10, 13, 32), (0, 10, 17, 13)] ∈ cm_all := cm_inT (cm_t6 _ (List.mem_of_getElem? (i := 4) rfl)) rfl
theorem kl_RL_73 : Cond.methodLink RL 73 yX10_restVoltage ∈ cm_all := cm_inT (cm_t6 _ (List.mem_of_getElem? (i := 5) rfl)) rfl
theorem kv_X10_restVoltage : Cond.instanceMethod yX10_restVoltage ∈ cm_all := cm_inT (cm_t6 _ (List.mem_of_getElem? (i := 6) rfl)) rfl
theorem kx_X10_restVoltage : Cond.selects yX10_restVoltage.cls yX10_restVoltage yX10_restVoltage ∈ cm_all := cm_inT (cm_t6 _ (List.mem_of_getElem? (i := 7) rfl)) rfl
theorem kc_X10_restVoltage : Cond.code yX10_restVoltage cX10_restVoltage 4 (some .int) ∈ cm_all := cm_inT (cm_t6 _ (List.mem_of_getElem? (i := 8) rfl)) rfl
theorem kl_RX10_230 : Cond.constant RX10 230 (200000) ∈ cm_all := cm_inT (cm_t6 _ (List.mem_of_getElem? (i := 9) rfl)) rfl
theorem kl_RX10_231 : Cond.methodLinkNest RX10 231 yX0_restVoltageAt "CellCycler" ∈ cm_all := cm_inT (cm_t6 _ (List.mem_of_getElem? (i := 10) rfl)) rfl
theorem kl_RL_265 : Cond.methodLink RL 265 yL_chargeFor ∈ cm_all := cm_inT (cm_t6 _ (List.mem_of_getElem? (i := 11) rfl)) rfl
theorem ks_L_chargeFor : Cond.static yL_chargeFor ∈ cm_all := cm_inT (cm_t6 _ (List.mem_of_getElem? (i := 12) rfl)) rfl
theorem kw_L_chargeFor : Cond.codeWith yL_chargeFor cL_chargeFor 5 (some .int) [(0, 10, 13, 32), (0, 10, 17, 13)] ∈ cm_all := cm_inT (cm_t6 _ (List.mem_of_getElem? (i := 13) rfl)) rfl
theorem kl_RL_76 : Cond.methodLink RL 76 yX10_chargeFor ∈ cm_all := cm_inT (cm_t6 _ (List.mem_of_getElem? (i := 14) rfl)) rfl
theorem kv_X10_chargeFor : Cond.instanceMethod yX10_chargeFor ∈ cm_all := cm_inT (cm_t6 _ (List.mem_of_getElem? (i := 15) rfl)) rfl
theorem kx_X10_chargeFor : Cond.selects yX10_chargeFor.cls yX10_chargeFor yX10_chargeFor ∈ cm_all := cm_inT (cm_t6 _ (List.mem_of_getElem? (i := 16) rfl)) rfl
theorem kc_X10_chargeFor : Cond.code yX10_chargeFor cX10_chargeFor 4 (some .int) ∈ cm_all := cm_inT (cm_t6 _ (List.mem_of_getElem? (i := 17) rfl)) rfl
theorem kl_RX10_234 : Cond.methodLinkNest RX10 234 yX0_smallestChargeFor "CellCycler" ∈ cm_all := cm_inT (cm_t6 _ (List.mem_of_getElem? (i := 18) rfl)) rfl
theorem kv_X0_smallestChargeFor : Cond.instanceMethod yX0_smallestChargeFor ∈ cm_all := cm_inT (cm_t6 _ (List.mem_of_getElem? (i := 20) rfl)) rfl
theorem kc_X0_smallestChargeFor : Cond.code yX0_smallestChargeFor cX0_smallestChargeFor 6 (some .int) ∈ cm_all := cm_inT (cm_t6 _ (List.mem_of_getElem? (i := 21) rfl)) rfl
theorem kl_RL_268 : Cond.methodLink RL 268 yL_filling ∈ cm_all := cm_inT (cm_t6 _ (List.mem_of_getElem? (i := 22) rfl)) rfl
theorem ks_L_filling : Cond.static yL_filling ∈ cm_all := cm_inT (cm_t6 _ (List.mem_of_getElem? (i := 23) rfl)) rfl
theorem kw_L_filling : Cond.codeWith yL_filling cL_filling 4 (some .int) [(0, 9, 12, 32)] ∈ cm_all := cm_inT (cm_t6 _ (List.mem_of_getElem? (i := 24) rfl)) rfl
theorem kl_RL_79 : Cond.methodLink RL 79 yX10_filling ∈ cm_all := cm_inT (cm_t6 _ (List.mem_of_getElem? (i := 25) rfl)) rfl
theorem kv_X10_filling : Cond.instanceMethod yX10_filling ∈ cm_all := cm_inT (cm_t6 _ (List.mem_of_getElem? (i := 26) rfl)) rfl
theorem kx_X10_filling : Cond.selects yX10_filling.cls yX10_filling yX10_filling ∈ cm_all := cm_inT (cm_t6 _ (List.mem_of_getElem? (i := 27) rfl)) rfl
theorem kc_X10_filling : Cond.code yX10_filling cX10_filling 2 (some .int) ∈ cm_all := cm_inT (cm_t6 _ (List.mem_of_getElem? (i := 28) rfl)) rfl
theorem kl_RX10_237 : Cond.methodLinkNest RX10 237 yX0_thousandths "CellCycler" ∈ cm_all := cm_inT (cm_t6 _ (List.mem_of_getElem? (i := 29) rfl)) rfl
theorem kl_RL_271 : Cond.methodLink RL 271 yL_ledger ∈ cm_all := cm_inT (cm_t6 _ (List.mem_of_getElem? (i := 30) rfl)) rfl
theorem ks_L_ledger : Cond.static yL_ledger ∈ cm_all := cm_inT (cm_t6 _ (List.mem_of_getElem? (i := 31) rfl)) rfl
theorem kw_L_ledger : Cond.codeWith yL_ledger cL_ledger 5 (some .int) [(0, 9, 12, 32), (0, 9, 16, 13)] ∈ cm_all := cm_inT (cm_t6 _ (List.mem_of_getElem? (i := 32) rfl)) rfl
theorem kl_RL_82 : Cond.methodLink RL 82 yX10_ledger ∈ cm_all := cm_inT (cm_t6 _ (List.mem_of_getElem? (i := 33) rfl)) rfl
theorem kv_X10_ledger : Cond.instanceMethod yX10_ledger ∈ cm_all := cm_inT (cm_t6 _ (List.mem_of_getElem? (i := 34) rfl)) rfl
theorem kx_X10_ledger : Cond.selects yX10_ledger.cls yX10_ledger yX10_ledger ∈ cm_all := cm_inT (cm_t6 _ (List.mem_of_getElem? (i := 35) rfl)) rfl
theorem kc_X10_ledger : Cond.code yX10_ledger cX10_ledger 4 (some .long) ∈ cm_all := cm_inT (cm_t6 _ (List.mem_of_getElem? (i := 36) rfl)) rfl
theorem kl_RL_274 : Cond.methodLink RL 274 yL_chargeEfficiency ∈ cm_all := cm_inT (cm_t6 _ (List.mem_of_getElem? (i := 37) rfl)) rfl
theorem ks_L_chargeEfficiency : Cond.static yL_chargeEfficiency ∈ cm_all := cm_inT (cm_t6 _ (List.mem_of_getElem? (i := 38) rfl)) rfl
theorem kw_L_chargeEfficiency : Cond.codeWith yL_chargeEfficiency cL_chargeEfficiency 4 (some .int) [(0, 9, 12, 32)] ∈ cm_all := cm_inT (cm_t6 _ (List.mem_of_getElem? (i := 39) rfl)) rfl
theorem kl_RL_86 : Cond.methodLink RL 86 yX10_chargeEfficiency ∈ cm_all := cm_inT (cm_t6 _ (List.mem_of_getElem? (i := 40) rfl)) rfl
theorem kv_X10_chargeEfficiency : Cond.instanceMethod yX10_chargeEfficiency ∈ cm_all := cm_inT (cm_t6 _ (List.mem_of_getElem? (i := 41) rfl)) rfl
theorem kx_X10_chargeEfficiency : Cond.selects yX10_chargeEfficiency.cls yX10_chargeEfficiency yX10_chargeEfficiency ∈ cm_all := cm_inT (cm_t6 _ (List.mem_of_getElem? (i := 42) rfl)) rfl
theorem kc_X10_chargeEfficiency : Cond.code yX10_chargeEfficiency cX10_chargeEfficiency 3 (some .float) ∈ cm_all := cm_inT (cm_t6 _ (List.mem_of_getElem? (i := 43) rfl)) rfl
theorem kl_RL_278 : Cond.methodLink RL 278 yL_energyEfficiency ∈ cm_all := cm_inT (cm_t6 _ (List.mem_of_getElem? (i := 44) rfl)) rfl
theorem ks_L_energyEfficiency : Cond.static yL_energyEfficiency ∈ cm_all := cm_inT (cm_t6 _ (List.mem_of_getElem? (i := 45) rfl)) rfl
theorem kw_L_energyEfficiency : Cond.codeWith yL_energyEfficiency cL_energyEfficiency 4 (some .int) [(0, 8, 11, 32)] ∈ cm_all := cm_inT (cm_t6 _ (List.mem_of_getElem? (i := 46) rfl)) rfl
theorem kl_RL_90 : Cond.methodLink RL 90 yX10_energyEfficiency ∈ cm_all := cm_inT (cm_t6 _ (List.mem_of_getElem? (i := 47) rfl)) rfl
theorem kv_X10_energyEfficiency : Cond.instanceMethod yX10_energyEfficiency ∈ cm_all := cm_inT (cm_t6 _ (List.mem_of_getElem? (i := 48) rfl)) rfl
theorem kx_X10_energyEfficiency : Cond.selects yX10_energyEfficiency.cls yX10_energyEfficiency yX10_energyEfficiency ∈ cm_all := cm_inT (cm_t6 _ (List.mem_of_getElem? (i := 49) rfl)) rfl
theorem kc_X10_energyEfficiency : Cond.code yX10_energyEfficiency cX10_energyEfficiency 3 (some .double) ∈ cm_all := cm_inT (cm_t6 _ (List.mem_of_getElem? (i := 50) rfl)) rfl
theorem kl_RL_281 : Cond.methodLink RL 281 yL_power ∈ cm_all := cm_inT (cm_t6 _ (List.mem_of_getElem? (i := 51) rfl)) rfl
theorem ks_L_power : Cond.static yL_power ∈ cm_all := cm_inT (cm_t6 _ (List.mem_of_getElem? (i := 52) rfl)) rfl
theorem kw_L_power : Cond.codeWith yL_power cL_power 4 (some .int) [(0, 9, 12, 32)] ∈ cm_all := cm_inT (cm_t6 _ (List.mem_of_getElem? (i := 53) rfl)) rfl
theorem kl_RL_94 : Cond.methodLink RL 94 yX10_power ∈ cm_all := cm_inT (cm_t6 _ (List.mem_of_getElem? (i := 54) rfl)) rfl
theorem kv_X10_power : Cond.instanceMethod yX10_power ∈ cm_all := cm_inT (cm_t6 _ (List.mem_of_getElem? (i := 55) rfl)) rfl
theorem kx_X10_power : Cond.selects yX10_power.cls yX10_power yX10_power ∈ cm_all := cm_inT (cm_t6 _ (List.mem_of_getElem? (i := 56) rfl)) rfl
theorem kc_X10_power : Cond.code yX10_power cX10_power 3 (some .int) ∈ cm_all := cm_inT (cm_t6 _ (List.mem_of_getElem? (i := 57) rfl)) rfl
theorem kl_RL_284 : Cond.methodLink RL 284 yL_measuredRest ∈ cm_all := cm_inT (cm_t6 _ (List.mem_of_getElem? (i := 58) rfl)) rfl
theorem ks_L_measuredRest : Cond.static yL_measuredRest ∈ cm_all := cm_inT (cm_t6 _ (List.mem_of_getElem? (i := 59) rfl)) rfl
theorem kw_L_measuredRest : Cond.codeWith yL_measuredRest cL_measuredRest 4 (some .int) [(0, 9, 12, 32)] ∈ cm_all := cm_inT (cm_t6 _ (List.mem_of_getElem? (i := 60) rfl)) rfl
theorem kl_RL_97 : Cond.methodLink RL 97 yX10_measuredRest ∈ cm_all := cm_inT (cm_t6 _ (List.mem_of_getElem? (i := 61) rfl)) rfl
theorem kv_X10_measuredRest : Cond.instanceMethod yX10_measuredRest ∈ cm_all := cm_inT (cm_t6 _ (List.mem_of_getElem? (i := 62) rfl)) rfl
theorem kx_X10_measuredRest : Cond.selects yX10_measuredRest.cls yX10_measuredRest yX10_measuredRest ∈ cm_all := cm_inT (cm_t6 _ (List.mem_of_getElem? (i := 63) rfl)) rfl
theorem kc_X10_measuredRest : Cond.code yX10_measuredRest cX10_measuredRest 2 (some .int) ∈ cm_all := cm_inT (cm_t6 _ (List.mem_of_getElem? (i := 64) rfl)) rfl
theorem kl_RL_287 : Cond.methodLink RL 287 yL_capacityByRule ∈ cm_all := cm_inT (cm_t6 _ (List.mem_of_getElem? (i := 65) rfl)) rfl
theorem ks_L_capacityByRule : Cond.static yL_capacityByRule ∈ cm_all := cm_inT (cm_t6 _ (List.mem_of_getElem? (i := 66) rfl)) rfl
theorem kw_L_capacityByRule : Cond.codeWith yL_capacityByRule cL_capacityByRule 4 (some .int) [(0, 9, 12, 32)] ∈ cm_all := cm_inT (cm_t6 _ (List.mem_of_getElem? (i := 67) rfl)) rfl
theorem kl_RL_100 : Cond.methodLink RL 100 yX10_capacityByRule ∈ cm_all := cm_inT (cm_t6 _ (List.mem_of_getElem? (i := 68) rfl)) rfl
theorem kv_X10_capacityByRule : Cond.instanceMethod yX10_capacityByRule ∈ cm_all := cm_inT (cm_t6 _ (List.mem_of_getElem? (i := 69) rfl)) rfl
theorem kx_X10_capacityByRule : Cond.selects yX10_capacityByRule.cls yX10_capacityByRule yX10_capacityByRule ∈ cm_all := cm_inT (cm_t6 _ (List.mem_of_getElem? (i := 70) rfl)) rfl
theorem kc_X10_capacityByRule : Cond.code yX10_capacityByRule cX10_capacityByRule 2 (some .int) ∈ cm_all := cm_inT (cm_t6 _ (List.mem_of_getElem? (i := 71) rfl)) rfl
theorem kl_RL_290 : Cond.methodLink RL 290 yL_internalResistance ∈ cm_all := cm_inT (cm_t6 _ (List.mem_of_getElem? (i := 72) rfl)) rfl
theorem ks_L_internalResistance : Cond.static yL_internalResistance ∈ cm_all := cm_inT (cm_t6 _ (List.mem_of_getElem? (i := 73) rfl)) rfl
theorem kw_L_internalResistance : Cond.codeWith yL_internalResistance cL_internalResistance 4 (some .int) [(0, 9, 12, 32)] ∈ cm_all := cm_inT (cm_t6 _ (List.mem_of_getElem? (i := 74) rfl)) rfl
theorem kl_RL_103 : Cond.methodLink RL 103 yX10_internalResistance ∈ cm_all := cm_inT (cm_t6 _ (List.mem_of_getElem? (i := 75) rfl)) rfl
theorem kv_X10_internalResistance : Cond.instanceMethod yX10_internalResistance ∈ cm_all := cm_inT (cm_t6 _ (List.mem_of_getElem? (i := 76) rfl)) rfl
theorem kx_X10_internalResistance : Cond.selects yX10_internalResistance.cls yX10_internalResistance yX10_internalResistance ∈ cm_all := cm_inT (cm_t6 _ (List.mem_of_getElem? (i := 77) rfl)) rfl
theorem kc_X10_internalResistance : Cond.code yX10_internalResistance cX10_internalResistance 2 (some .int) ∈ cm_all := cm_inT (cm_t6 _ (List.mem_of_getElem? (i := 78) rfl)) rfl
theorem kl_RL_293 : Cond.methodLink RL 293 yL_ticksIn ∈ cm_all := cm_inT (cm_t6 _ (List.mem_of_getElem? (i := 79) rfl)) rfl
theorem ks_L_ticksIn : Cond.static yL_ticksIn ∈ cm_all := cm_inT (cm_t6 _ (List.mem_of_getElem? (i := 80) rfl)) rfl
theorem kw_L_ticksIn : Cond.codeWith yL_ticksIn cL_ticksIn 5 (some .int) [(0, 10, 13, 32), (0, 10, 17, 13)] ∈ cm_all := cm_inT (cm_t6 _ (List.mem_of_getElem? (i := 81) rfl)) rfl
theorem kl_RL_106 : Cond.methodLink RL 106 yX10_ticksIn ∈ cm_all := cm_inT (cm_t6 _ (List.mem_of_getElem? (i := 82) rfl)) rfl
theorem kv_X10_ticksIn : Cond.instanceMethod yX10_ticksIn ∈ cm_all := cm_inT (cm_t6 _ (List.mem_of_getElem? (i := 83) rfl)) rfl
theorem kx_X10_ticksIn : Cond.selects yX10_ticksIn.cls yX10_ticksIn yX10_ticksIn ∈ cm_all := cm_inT (cm_t6 _ (List.mem_of_getElem? (i := 84) rfl)) rfl
theorem kc_X10_ticksIn : Cond.code yX10_ticksIn cX10_ticksIn 4 (some .int) ∈ cm_all := cm_inT (cm_t6 _ (List.mem_of_getElem? (i := 85) rfl)) rfl
theorem kl_RL_296 : Cond.methodLink RL 296 yL_warnings ∈ cm_all := cm_inT (cm_t6 _ (List.mem_of_getElem? (i := 86) rfl)) rfl
theorem ks_L_warnings : Cond.static yL_warnings ∈ cm_all := cm_inT (cm_t6 _ (List.mem_of_getElem? (i := 87) rfl)) rfl
theorem kw_L_warnings : Cond.codeWith yL_warnings cL_warnings 4 (some .int) [(0, 9, 12, 32)] ∈ cm_all := cm_inT (cm_t6 _ (List.mem_of_getElem? (i := 88) rfl)) rfl
theorem kl_RL_109 : Cond.methodLink RL 109 yX10_warnings ∈ cm_all := cm_inT (cm_t6 _ (List.mem_of_getElem? (i := 89) rfl)) rfl
theorem kv_X10_warnings : Cond.instanceMethod yX10_warnings ∈ cm_all := cm_inT (cm_t6 _ (List.mem_of_getElem? (i := 90) rfl)) rfl
theorem kx_X10_warnings : Cond.selects yX10_warnings.cls yX10_warnings yX10_warnings ∈ cm_all := cm_inT (cm_t6 _ (List.mem_of_getElem? (i := 91) rfl)) rfl
theorem kc_X10_warnings : Cond.code yX10_warnings cX10_warnings 2 (some .int) ∈ cm_all := cm_inT (cm_t6 _ (List.mem_of_getElem? (i := 92) rfl)) rfl
theorem kl_RL_299 : Cond.methodLink RL 299 yL_warned ∈ cm_all := cm_inT (cm_t6 _ (List.mem_of_getElem? (i := 93) rfl)) rfl
theorem ks_L_warned : Cond.static yL_warned ∈ cm_all := cm_inT (cm_t6 _ (List.mem_of_getElem? (i := 94) rfl)) rfl
theorem kw_L_warned : Cond.codeWith yL_warned cL_warned 4 (some .int) [(0, 9, 12, 32)] ∈ cm_all := cm_inT (cm_t6 _ (List.mem_of_getElem? (i := 95) rfl)) rfl
theorem kl_RL_112 : Cond.methodLink RL 112 yX10_warned ∈ cm_all := cm_inT (cm_t6 _ (List.mem_of_getElem? (i := 96) rfl)) rfl
theorem kv_X10_warned : Cond.instanceMethod yX10_warned ∈ cm_all := cm_inT (cm_t6 _ (List.mem_of_getElem? (i := 97) rfl)) rfl
theorem kx_X10_warned : Cond.selects yX10_warned.cls yX10_warned yX10_warned ∈ cm_all := cm_inT (cm_t6 _ (List.mem_of_getElem? (i := 98) rfl)) rfl
theorem kc_X10_warned : Cond.code yX10_warned cX10_warned 2 (some .int) ∈ cm_all := cm_inT (cm_t6 _ (List.mem_of_getElem? (i := 99) rfl)) rfl
theorem kl_RL_302 : Cond.methodLink RL 302 yL_repeats ∈ cm_all := cm_inT (cm_t6 _ (List.mem_of_getElem? (i := 100) rfl)) rfl
theorem ks_L_repeats : Cond.static yL_repeats ∈ cm_all := cm_inT (cm_t6 _ (List.mem_of_getElem? (i := 101) rfl)) rfl
theorem kw_L_repeats : Cond.codeWith yL_repeats cL_repeats 5 (some .int) [(0, 10, 13, 32)] ∈ cm_all := cm_inT (cm_t6 _ (List.mem_of_getElem? (i := 102) rfl)) rfl
theorem kl_RL_115 : Cond.methodLink RL 115 yX10_repeats ∈ cm_all := cm_inT (cm_t6 _ (List.mem_of_getElem? (i := 103) rfl)) rfl
theorem kv_X10_repeats : Cond.instanceMethod yX10_repeats ∈ cm_all := cm_inT (cm_t6 _ (List.mem_of_getElem? (i := 104) rfl)) rfl
theorem kx_X10_repeats : Cond.selects yX10_repeats.cls yX10_repeats yX10_repeats ∈ cm_all := cm_inT (cm_t6 _ (List.mem_of_getElem? (i := 105) rfl)) rfl
theorem kc_X10_repeats : Cond.code yX10_repeats cX10_repeats 3 (some .int) ∈ cm_all := cm_inT (cm_t6 _ (List.mem_of_getElem? (i := 106) rfl)) rfl
theorem kl_RL_305 : Cond.methodLink RL 305 yL_inState ∈ cm_all := cm_inT (cm_t6 _ (List.mem_of_getElem? (i := 107) rfl)) rfl
theorem ks_L_inState : Cond.static yL_inState ∈ cm_all := cm_inT (cm_t6 _ (List.mem_of_getElem? (i := 108) rfl)) rfl
theorem kw_L_inState : Cond.codeWith yL_inState cL_inState 4 (some .int) [(0, 9, 12, 13)] ∈ cm_all := cm_inT (cm_t6 _ (List.mem_of_getElem? (i := 109) rfl)) rfl
theorem kl_RL_118 : Cond.methodLink RL 118 yX10_inState ∈ cm_all := cm_inT (cm_t6 _ (List.mem_of_getElem? (i := 110) rfl)) rfl
theorem kv_X10_inState : Cond.instanceMethod yX10_inState ∈ cm_all := cm_inT (cm_t6 _ (List.mem_of_getElem? (i := 111) rfl)) rfl
theorem kx_X10_inState : Cond.selects yX10_inState.cls yX10_inState yX10_inState ∈ cm_all := cm_inT (cm_t6 _ (List.mem_of_getElem? (i := 112) rfl)) rfl
theorem kc_X10_inState : Cond.code yX10_inState cX10_inState 2 (some .int) ∈ cm_all := cm_inT (cm_t6 _ (List.mem_of_getElem? (i := 113) rfl)) rfl
theorem kl_RL_320 : Cond.methodLink RL 320 yL_record ∈ cm_all := cm_inT (cm_t6 _ (List.mem_of_getElem? (i := 114) rfl)) rfl
theorem ks_L_record : Cond.static yL_record ∈ cm_all := cm_inT (cm_t6 _ (List.mem_of_getElem? (i := 115) rfl)) rfl
theorem kw_L_record : Cond.codeWith yL_record cL_record 5 (some .int) [(0, 10, 13, 13)] ∈ cm_all := cm_inT (cm_t6 _ (List.mem_of_getElem? (i := 116) rfl)) rfl
theorem kl_RL_121 : Cond.methodLink RL 121 yX10_record ∈ cm_all := cm_inT (cm_t6 _ (List.mem_of_getElem? (i := 117) rfl)) rfl
theorem kv_X10_record : Cond.instanceMethod yX10_record ∈ cm_all := cm_inT (cm_t6 _ (List.mem_of_getElem? (i := 118) rfl)) rfl
theorem kx_X10_record : Cond.selects yX10_record.cls yX10_record yX10_record ∈ cm_all := cm_inT (cm_t6 _ (List.mem_of_getElem? (i := 119) rfl)) rfl
theorem kc_X10_record : Cond.code yX10_record cX10_record 4 (some .int) ∈ cm_all := cm_inT (cm_t6 _ (List.mem_of_getElem? (i := 120) rfl)) rfl
theorem kl_RX10_311 : Cond.methodLinkNest RX10 311 yX8_get "CellCycler" ∈ cm_all := cm_inT (cm_t6 _ (List.mem_of_getElem? (i := 121) rfl)) rfl
theorem kv_X8_get : Cond.instanceMethod yX8_get ∈ cm_all := cm_inT (cm_t6 _ (List.mem_of_getElem? (i := 123) rfl)) rfl
theorem kc_X8_get : Cond.code yX8_get cX8_get 3 (some .int) ∈ cm_all := cm_inT (cm_t6 _ (List.mem_of_getElem? (i := 124) rfl)) rfl
theorem kl_RX8_32 : Cond.methodLink RX8 32 yX8_placeOf ∈ cm_all := cm_inT (cm_t6 _ (List.mem_of_getElem? (i := 125) rfl)) rfl
theorem kl_RX8_36 : Cond.methodLinkNest RX8 36 yX10_at "CellCycler" ∈ cm_all := cm_inT (cm_t6 _ (List.mem_of_getElem? (i := 126) rfl)) rfl
theorem kl_RL_323 : Cond.methodLink RL 323 yL_counting ∈ cm_all := cm_inT (cm_t6 _ (List.mem_of_getElem? (i := 127) rfl)) rfl
theorem ks_L_counting : Cond.static yL_counting ∈ cm_all := cm_inT (cm_t6 _ (List.mem_of_getElem? (i := 128) rfl)) rfl
theorem kw_L_counting : Cond.codeWith yL_counting cL_counting 4 (some .int) [(0, 9, 12, 32)] ∈ cm_all := cm_inT (cm_t6 _ (List.mem_of_getElem? (i := 129) rfl)) rfl
theorem kl_RL_124 : Cond.methodLink RL 124 yX10_counting ∈ cm_all := cm_inT (cm_t6 _ (List.mem_of_getElem? (i := 130) rfl)) rfl
theorem kv_X10_counting : Cond.instanceMethod yX10_counting ∈ cm_all := cm_inT (cm_t6 _ (List.mem_of_getElem? (i := 131) rfl)) rfl
theorem kx_X10_counting : Cond.selects yX10_counting.cls yX10_counting yX10_counting ∈ cm_all := cm_inT (cm_t6 _ (List.mem_of_getElem? (i := 132) rfl)) rfl
theorem kc_X10_counting : Cond.code yX10_counting cX10_counting 4 (some .int) ∈ cm_all := cm_inT (cm_t6 _ (List.mem_of_getElem? (i := 133) rfl)) rfl
theorem kl_RX10_314 : Cond.methodLinkNest RX10 314 yX9_recordCounts "CellCycler" ∈ cm_all := cm_inT (cm_t6 _ (List.mem_of_getElem? (i := 134) rfl)) rfl
theorem kv_X9_recordCounts : Cond.instanceMethod yX9_recordCounts ∈ cm_all := cm_inT (cm_t6 _ (List.mem_of_getElem? (i := 136) rfl)) rfl
theorem kc_X9_recordCounts : Cond.code yX9_recordCounts cX9_recordCounts 3 (some .boolean) ∈ cm_all := cm_inT (cm_t6 _ (List.mem_of_getElem? (i := 137) rfl)) rfl
theorem kl_RX9_108 : Cond.methodLinkNest RX9 108 yX8_get "CellCycler" ∈ cm_all := cm_inT (cm_t6 _ (List.mem_of_getElem? (i := 138) rfl)) rfl
theorem kl_RL_326 : Cond.methodLink RL 326 yL_loss ∈ cm_all := cm_inT (cm_t6 _ (List.mem_of_getElem? (i := 139) rfl)) rfl
theorem ks_L_loss : Cond.static yL_loss ∈ cm_all := cm_inT (cm_t6 _ (List.mem_of_getElem? (i := 140) rfl)) rfl
theorem kw_L_loss : Cond.codeWith yL_loss cL_loss 4 (some .int) [(0, 9, 12, 32)] ∈ cm_all := cm_inT (cm_t6 _ (List.mem_of_getElem? (i := 141) rfl)) rfl
theorem kl_RL_127 : Cond.methodLink RL 127 yX10_loss ∈ cm_all := cm_inT (cm_t6 _ (List.mem_of_getElem? (i := 142) rfl)) rfl
theorem kv_X10_loss : Cond.instanceMethod yX10_loss ∈ cm_all := cm_inT (cm_t6 _ (List.mem_of_getElem? (i := 143) rfl)) rfl
theorem kx_X10_loss : Cond.selects yX10_loss.cls yX10_loss yX10_loss ∈ cm_all := cm_inT (cm_t6 _ (List.mem_of_getElem? (i := 144) rfl)) rfl
theorem kc_X10_loss : Cond.code yX10_loss cX10_loss 5 (some .int) ∈ cm_all := cm_inT (cm_t6 _ (List.mem_of_getElem? (i := 145) rfl)) rfl
theorem kl_RL_333 : Cond.methodLink RL 333 yL_logEntry ∈ cm_all := cm_inT (cm_t6 _ (List.mem_of_getElem? (i := 146) rfl)) rfl
theorem ks_L_logEntry : Cond.static yL_logEntry ∈ cm_all := cm_inT (cm_t6 _ (List.mem_of_getElem? (i := 147) rfl)) rfl
theorem kw_L_logEntry : Cond.codeWith yL_logEntry cL_logEntry 5 (some .int) [(0, 10, 13, 13)] ∈ cm_all := cm_inT (cm_t6 _ (List.mem_of_getElem? (i := 148) rfl)) rfl
theorem kl_RL_130 : Cond.methodLink RL 130 yX10_logEntry ∈ cm_all := cm_inT (cm_t6 _ (List.mem_of_getElem? (i := 149) rfl)) rfl
theorem kv_X10_logEntry : Cond.instanceMethod yX10_logEntry ∈ cm_all := cm_inT (cm_t6 _ (List.mem_of_getElem? (i := 150) rfl)) rfl
theorem kx_X10_logEntry : Cond.selects yX10_logEntry.cls yX10_logEntry yX10_logEntry ∈ cm_all := cm_inT (cm_t6 _ (List.mem_of_getElem? (i := 151) rfl)) rfl
theorem kc_X10_logEntry : Cond.code yX10_logEntry cX10_logEntry 3 (some .int) ∈ cm_all := cm_inT (cm_t6 _ (List.mem_of_getElem? (i := 152) rfl)) rfl
theorem kl_RL_336 : Cond.methodLink RL 336 yL_eventsOf ∈ cm_all := cm_inT (cm_t6 _ (List.mem_of_getElem? (i := 153) rfl)) rfl
theorem ks_L_eventsOf : Cond.static yL_eventsOf ∈ cm_all := cm_inT (cm_t6 _ (List.mem_of_getElem? (i := 154) rfl)) rfl
theorem kw_L_eventsOf : Cond.codeWith yL_eventsOf cL_eventsOf 5 (some .int) [(0, 10, 13, 32), (0, 10, 17, 13)] ∈ cm_all := cm_inT (cm_t6 _ (List.mem_of_getElem? (i := 155) rfl)) rfl
theorem kl_RL_133 : Cond.methodLink RL 133 yX10_eventsOf ∈ cm_all := cm_inT (cm_t6 _ (List.mem_of_getElem? (i := 156) rfl)) rfl
theorem kv_X10_eventsOf : Cond.instanceMethod yX10_eventsOf ∈ cm_all := cm_inT (cm_t6 _ (List.mem_of_getElem? (i := 157) rfl)) rfl
theorem kx_X10_eventsOf : Cond.selects yX10_eventsOf.cls yX10_eventsOf yX10_eventsOf ∈ cm_all := cm_inT (cm_t6 _ (List.mem_of_getElem? (i := 158) rfl)) rfl
theorem kc_X10_eventsOf : Cond.code yX10_eventsOf cX10_eventsOf 5 (some .int) ∈ cm_all := cm_inT (cm_t6 _ (List.mem_of_getElem? (i := 159) rfl)) rfl
theorem kl_RL_339 : Cond.methodLink RL 339 yL_stepEndsIn ∈ cm_all := cm_inT (cm_t6 _ (List.mem_of_getElem? (i := 160) rfl)) rfl
theorem ks_L_stepEndsIn : Cond.static yL_stepEndsIn ∈ cm_all := cm_inT (cm_t6 _ (List.mem_of_getElem? (i := 161) rfl)) rfl
theorem kw_L_stepEndsIn : Cond.codeWith yL_stepEndsIn cL_stepEndsIn 4 (some .int) [(0, 9, 12, 32)] ∈ cm_all := cm_inT (cm_t6 _ (List.mem_of_getElem? (i := 162) rfl)) rfl
theorem kl_RL_136 : Cond.methodLink RL 136 yX10_stepEndsIn ∈ cm_all := cm_inT (cm_t6 _ (List.mem_of_getElem? (i := 163) rfl)) rfl
theorem kv_X10_stepEndsIn : Cond.instanceMethod yX10_stepEndsIn ∈ cm_all := cm_inT (cm_t6 _ (List.mem_of_getElem? (i := 164) rfl)) rfl
theorem kx_X10_stepEndsIn : Cond.selects yX10_stepEndsIn.cls yX10_stepEndsIn yX10_stepEndsIn ∈ cm_all := cm_inT (cm_t6 _ (List.mem_of_getElem? (i := 165) rfl)) rfl
theorem kc_X10_stepEndsIn : Cond.code yX10_stepEndsIn cX10_stepEndsIn 4 (some .int) ∈ cm_all := cm_inT (cm_t6 _ (List.mem_of_getElem? (i := 166) rfl)) rfl
theorem kl_RX10_321 : Cond.methodLink RX10 321 yX10_needTrial ∈ cm_all := cm_inT (cm_t6 _ (List.mem_of_getElem? (i := 167) rfl)) rfl
theorem kv_X10_needTrial : Cond.instanceMethod yX10_needTrial ∈ cm_all := cm_inT (cm_t6 _ (List.mem_of_getElem? (i := 169) rfl)) rfl
theorem kc_X10_needTrial : Cond.code yX10_needTrial cX10_needTrial 3 (some (.object "CellCycler$Channel")) ∈ cm_all := cm_inT (cm_t6 _ (List.mem_of_getElem? (i := 170) rfl)) rfl
theorem kl_RL_342 : Cond.methodLink RL 342 yL_doneIn ∈ cm_all := cm_inT (cm_t6 _ (List.mem_of_getElem? (i := 171) rfl)) rfl
theorem ks_L_doneIn : Cond.static yL_doneIn ∈ cm_all := cm_inT (cm_t6 _ (List.mem_of_getElem? (i := 172) rfl)) rfl
theorem kw_L_doneIn : Cond.codeWith yL_doneIn cL_doneIn 4 (some .int) [(0, 9, 12, 32)] ∈ cm_all := cm_inT (cm_t6 _ (List.mem_of_getElem? (i := 173) rfl)) rfl
theorem kl_RL_139 : Cond.methodLink RL 139 yX10_doneIn ∈ cm_all := cm_inT (cm_t6 _ (List.mem_of_getElem? (i := 174) rfl)) rfl
theorem kv_X10_doneIn : Cond.instanceMethod yX10_doneIn ∈ cm_all := cm_inT (cm_t6 _ (List.mem_of_getElem? (i := 175) rfl)) rfl
theorem kx_X10_doneIn : Cond.selects yX10_doneIn.cls yX10_doneIn yX10_doneIn ∈ cm_all := cm_inT (cm_t6 _ (List.mem_of_getElem? (i := 176) rfl)) rfl
theorem kc_X10_doneIn : Cond.code yX10_doneIn cX10_doneIn 3 (some .int) ∈ cm_all := cm_inT (cm_t6 _ (List.mem_of_getElem? (i := 177) rfl)) rfl
theorem kl_RX10_324 : Cond.methodLink RX10 324 yX10_ticksUntil ∈ cm_all := cm_inT (cm_t6 _ (List.mem_of_getElem? (i := 178) rfl)) rfl
theorem kv_X10_ticksUntil : Cond.instanceMethod yX10_ticksUntil ∈ cm_all := cm_inT (cm_t6 _ (List.mem_of_getElem? (i := 180) rfl)) rfl
theorem kc_X10_ticksUntil : Cond.code yX10_ticksUntil cX10_ticksUntil 4 (some .int) ∈ cm_all := cm_inT (cm_t6 _ (List.mem_of_getElem? (i := 181) rfl)) rfl
theorem kl_RL_345 : Cond.methodLink RL 345 yL_tripsIn ∈ cm_all := cm_inT (cm_t6 _ (List.mem_of_getElem? (i := 182) rfl)) rfl
theorem ks_L_tripsIn : Cond.static yL_tripsIn ∈ cm_all := cm_inT (cm_t6 _ (List.mem_of_getElem? (i := 183) rfl)) rfl
theorem kw_L_tripsIn : Cond.codeWith yL_tripsIn cL_tripsIn 4 (some .int) [(0, 9, 12, 32)] ∈ cm_all := cm_inT (cm_t6 _ (List.mem_of_getElem? (i := 184) rfl)) rfl
theorem kl_RL_142 : Cond.methodLink RL 142 yX10_tripsIn ∈ cm_all := cm_inT (cm_t6 _ (List.mem_of_getElem? (i := 185) rfl)) rfl
theorem kv_X10_tripsIn : Cond.instanceMethod yX10_tripsIn ∈ cm_all := cm_inT (cm_t6 _ (List.mem_of_getElem? (i := 186) rfl)) rfl
theorem kx_X10_tripsIn : Cond.selects yX10_tripsIn.cls yX10_tripsIn yX10_tripsIn ∈ cm_all := cm_inT (cm_t6 _ (List.mem_of_getElem? (i := 187) rfl)) rfl
theorem kc_X10_tripsIn : Cond.code yX10_tripsIn cX10_tripsIn 2 (some .int) ∈ cm_all := cm_inT (cm_t6 _ (List.mem_of_getElem? (i := 188) rfl)) rfl
theorem kl_RL_348 : Cond.methodLink RL 348 yL_valueAfter ∈ cm_all := cm_inT (cm_t6 _ (List.mem_of_getElem? (i := 189) rfl)) rfl
theorem ks_L_valueAfter : Cond.static yL_valueAfter ∈ cm_all := cm_inT (cm_t6 _ (List.mem_of_getElem? (i := 190) rfl)) rfl
theorem kw_L_valueAfter : Cond.codeWith yL_valueAfter cL_valueAfter 6 (some .int) [(0, 12, 15, 32), (0, 12, 19, 13)] ∈ cm_all := cm_inT (cm_t6 _ (List.mem_of_getElem? (i := 191) rfl)) rfl
theorem kl_RL_145 : Cond.methodLink RL 145 yX10_valueAfter ∈ cm_all := cm_inT (cm_t6 _ (List.mem_of_getElem? (i := 192) rfl)) rfl
theorem kv_X10_valueAfter : Cond.instanceMethod yX10_valueAfter ∈ cm_all := cm_inT (cm_t6 _ (List.mem_of_getElem? (i := 193) rfl)) rfl
theorem kx_X10_valueAfter : Cond.selects yX10_valueAfter.cls yX10_valueAfter yX10_valueAfter ∈ cm_all := cm_inT (cm_t6 _ (List.mem_of_getElem? (i := 194) rfl)) rfl
theorem kc_X10_valueAfter : Cond.code yX10_valueAfter cX10_valueAfter 6 (some .int) ∈ cm_all := cm_inT (cm_t6 _ (List.mem_of_getElem? (i := 195) rfl)) rfl
theorem kl_RL_351 : Cond.methodLink RL 351 yL_peakTemperature ∈ cm_all := cm_inT (cm_t6 _ (List.mem_of_getElem? (i := 196) rfl)) rfl
theorem ks_L_peakTemperature : Cond.static yL_peakTemperature ∈ cm_all := cm_inT (cm_t6 _ (List.mem_of_getElem? (i := 197) rfl)) rfl
theorem kw_L_peakTemperature : Cond.codeWith yL_peakTemperature cL_peakTemperature 5 (some .int) [(0, 10, 13, 32), (0, 10, 17, 13)] ∈ cm_all := cm_inT (cm_t6 _ (List.mem_of_getElem? (i := 198) rfl)) rfl
theorem kl_RL_148 : Cond.methodLink RL 148 yX10_peakTemperature ∈ cm_all := cm_inT (cm_t6 _ (List.mem_of_getElem? (i := 199) rfl)) rfl
theorem kv_X10_peakTemperature : Cond.instanceMethod yX10_peakTemperature ∈ cm_all := cm_inT (cm_t6 _ (List.mem_of_getElem? (i := 200) rfl)) rfl
theorem kx_X10_peakTemperature : Cond.selects yX10_peakTemperature.cls yX10_peakTemperature yX10_peakTemperature ∈ cm_all := cm_inT (cm_t6 _ (List.mem_of_getElem? (i := 201) rfl)) rfl
theorem kc_X10_peakTemperature : Cond.code yX10_peakTemperature cX10_peakTemperature 6 (some .int) ∈ cm_all := cm_inT (cm_t6 _ (List.mem_of_getElem? (i := 202) rfl)) rfl
theorem kl_RX10_328 : Cond.methodLink RX10 328 yJ9_max_7cf53 ∈ cm_all := cm_inT (cm_t6 _ (List.mem_of_getElem? (i := 203) rfl)) rfl
theorem kl_RL_354 : Cond.methodLink RL 354 yL_settledIn ∈ cm_all := cm_inT (cm_t6 _ (List.mem_of_getElem? (i := 204) rfl)) rfl
theorem ks_L_settledIn : Cond.static yL_settledIn ∈ cm_all := cm_inT (cm_t6 _ (List.mem_of_getElem? (i := 205) rfl)) rfl
theorem kw_L_settledIn : Cond.codeWith yL_settledIn cL_settledIn 4 (some .int) [(0, 9, 12, 32)] ∈ cm_all := cm_inT (cm_t6 _ (List.mem_of_getElem? (i := 206) rfl)) rfl
theorem kl_RL_151 : Cond.methodLink RL 151 yX10_settledIn ∈ cm_all := cm_inT (cm_t6 _ (List.mem_of_getElem? (i := 207) rfl)) rfl
theorem kv_X10_settledIn : Cond.instanceMethod yX10_settledIn ∈ cm_all := cm_inT (cm_t6 _ (List.mem_of_getElem? (i := 208) rfl)) rfl
theorem kx_X10_settledIn : Cond.selects yX10_settledIn.cls yX10_settledIn yX10_settledIn ∈ cm_all := cm_inT (cm_t6 _ (List.mem_of_getElem? (i := 209) rfl)) rfl
theorem kc_X10_settledIn : Cond.code yX10_settledIn cX10_settledIn 4 (some .int) ∈ cm_all := cm_inT (cm_t6 _ (List.mem_of_getElem? (i := 210) rfl)) rfl
theorem kl_RL_357 : Cond.methodLink RL 357 yL_duration ∈ cm_all := cm_inT (cm_t6 _ (List.mem_of_getElem? (i := 211) rfl)) rfl
theorem ks_L_duration : Cond.static yL_duration ∈ cm_all := cm_inT (cm_t6 _ (List.mem_of_getElem? (i := 212) rfl)) rfl
theorem kw_L_duration : Cond.codeWith yL_duration cL_duration 5 (some .int) [(0, 10, 13, 32)] ∈ cm_all := cm_inT (cm_t6 _ (List.mem_of_getElem? (i := 213) rfl)) rfl
theorem kl_RL_154 : Cond.methodLink RL 154 yX10_duration ∈ cm_all := cm_inT (cm_t6 _ (List.mem_of_getElem? (i := 214) rfl)) rfl
theorem kv_X10_duration : Cond.instanceMethod yX10_duration ∈ cm_all := cm_inT (cm_t6 _ (List.mem_of_getElem? (i := 215) rfl)) rfl
theorem kx_X10_duration : Cond.selects yX10_duration.cls yX10_duration yX10_duration ∈ cm_all := cm_inT (cm_t6 _ (List.mem_of_getElem? (i := 216) rfl)) rfl
theorem kc_X10_duration : Cond.code yX10_duration cX10_duration 3 (some .int) ∈ cm_all := cm_inT (cm_t6 _ (List.mem_of_getElem? (i := 217) rfl)) rfl
theorem kl_RX10_336 : Cond.methodLink RX10 336 yX10_needTrialOf ∈ cm_all := cm_inT (cm_t6 _ (List.mem_of_getElem? (i := 218) rfl)) rfl
theorem kv_X10_needTrialOf : Cond.instanceMethod yX10_needTrialOf ∈ cm_all := cm_inT (cm_t6 _ (List.mem_of_getElem? (i := 220) rfl)) rfl
theorem kc_X10_needTrialOf : Cond.code yX10_needTrialOf cX10_needTrialOf 4 (some (.object "CellCycler$Channel")) ∈ cm_all := cm_inT (cm_t6 _ (List.mem_of_getElem? (i := 221) rfl)) rfl
theorem kl_RL_360 : Cond.methodLink RL 360 yL_shortest ∈ cm_all := cm_inT (cm_t6 _ (List.mem_of_getElem? (i := 222) rfl)) rfl
theorem ks_L_shortest : Cond.static yL_shortest ∈ cm_all := cm_inT (cm_t6 _ (List.mem_of_getElem? (i := 223) rfl)) rfl
theorem kw_L_shortest : Cond.codeWith yL_shortest cL_shortest 4 (some .int) [(0, 9, 12, 32)] ∈ cm_all := cm_inT (cm_t6 _ (List.mem_of_getElem? (i := 224) rfl)) rfl
theorem kl_RL_157 : Cond.methodLink RL 157 yX10_shortest ∈ cm_all := cm_inT (cm_t6 _ (List.mem_of_getElem? (i := 225) rfl)) rfl
theorem kv_X10_shortest : Cond.instanceMethod yX10_shortest ∈ cm_all := cm_inT (cm_t6 _ (List.mem_of_getElem? (i := 226) rfl)) rfl
theorem kx_X10_shortest : Cond.selects yX10_shortest.cls yX10_shortest yX10_shortest ∈ cm_all := cm_inT (cm_t6 _ (List.mem_of_getElem? (i := 227) rfl)) rfl
theorem kc_X10_shortest : Cond.code yX10_shortest cX10_shortest 6 (some .int) ∈ cm_all := cm_inT (cm_t6 _ (List.mem_of_getElem? (i := 228) rfl)) rfl
theorem kl_RL_363 : Cond.methodLink RL 363 yL_capacityIf ∈ cm_all := cm_inT (cm_t6 _ (List.mem_of_getElem? (i := 229) rfl)) rfl
theorem ks_L_capacityIf : Cond.static yL_capacityIf ∈ cm_all := cm_inT (cm_t6 _ (List.mem_of_getElem? (i := 230) rfl)) rfl
theorem kw_L_capacityIf : Cond.codeWith yL_capacityIf cL_capacityIf 5 (some .int) [(0, 10, 13, 32)] ∈ cm_all := cm_inT (cm_t6 _ (List.mem_of_getElem? (i := 231) rfl)) rfl
theorem kl_RL_160 : Cond.methodLink RL 160 yX10_capacityIf ∈ cm_all := cm_inT (cm_t6 _ (List.mem_of_getElem? (i := 232) rfl)) rfl
theorem kv_X10_capacityIf : Cond.instanceMethod yX10_capacityIf ∈ cm_all := cm_inT (cm_t6 _ (List.mem_of_getElem? (i := 233) rfl)) rfl
theorem kx_X10_capacityIf : Cond.selects yX10_capacityIf.cls yX10_capacityIf yX10_capacityIf ∈ cm_all := cm_inT (cm_t6 _ (List.mem_of_getElem? (i := 234) rfl)) rfl
theorem kc_X10_capacityIf : Cond.code yX10_capacityIf cX10_capacityIf 4 (some .int) ∈ cm_all := cm_inT (cm_t6 _ (List.mem_of_getElem? (i := 235) rfl)) rfl
theorem kl_RL_366 : Cond.methodLink RL 366 yL_safeCurrent ∈ cm_all := cm_inT (cm_t6 _ (List.mem_of_getElem? (i := 236) rfl)) rfl
theorem ks_L_safeCurrent : Cond.static yL_safeCurrent ∈ cm_all := cm_inT (cm_t6 _ (List.mem_of_getElem? (i := 237) rfl)) rfl
theorem kw_L_safeCurrent : Cond.codeWith yL_safeCurrent cL_safeCurrent 5 (some .int) [(0, 10, 13, 32), (0, 10, 17, 13)] ∈ cm_all := cm_inT (cm_t6 _ (List.mem_of_getElem? (i := 238) rfl)) rfl
theorem kl_RL_163 : Cond.methodLink RL 163 yX10_safeCurrent ∈ cm_all := cm_inT (cm_t6 _ (List.mem_of_getElem? (i := 239) rfl)) rfl
theorem kv_X10_safeCurrent : Cond.instanceMethod yX10_safeCurrent ∈ cm_all := cm_inT (cm_t7 _ (List.mem_of_getElem? (i := 0) rfl)) rfl
theorem kx_X10_safeCurrent : Cond.selects yX10_safeCurrent.cls yX10_safeCurrent yX10_safeCurrent ∈ cm_all := cm_inT (cm_t7 _ (List.mem_of_getElem? (i := 1) rfl)) rfl
theorem kc_X10_safeCurrent : Cond.code yX10_safeCurrent cX10_safeCurrent 6 (some .int) ∈ cm_all := cm_inT (cm_t7 _ (List.mem_of_getElem? (i := 2) rfl)) rfl
theorem kl_RX10_340 : Cond.methodLink RX10 340 yX10_isSafe ∈ cm_all := cm_inT (cm_t7 _ (List.mem_of_getElem? (i := 3) rfl)) rfl
theorem kv_X10_isSafe : Cond.instanceMethod yX10_isSafe ∈ cm_all := cm_inT (cm_t7 _ (List.mem_of_getElem? (i := 5) rfl)) rfl
theorem kc_X10_isSafe : Cond.code yX10_isSafe cX10_isSafe 6 (some .boolean) ∈ cm_all := cm_inT (cm_t7 _ (List.mem_of_getElem? (i := 6) rfl)) rfl
theorem kl_RX10_360 : Cond.methodLinkNest RX10 360 yX0_allowed "CellCycler" ∈ cm_all := cm_inT (cm_t7 _ (List.mem_of_getElem? (i := 7) rfl)) rfl
theorem kl_RX10_364 : Cond.methodLinkNest RX10 364 yX0_passCurrent "CellCycler" ∈ cm_all := cm_inT (cm_t7 _ (List.mem_of_getElem? (i := 8) rfl)) rfl
theorem kl_RX10_344 : Cond.methodLinkNest RX10 344 yX0_copyFrom "CellCycler" ∈ cm_all := cm_inT (cm_t7 _ (List.mem_of_getElem? (i := 9) rfl)) rfl
theorem kl_RL_369 : Cond.methodLink RL 369 yL_saveSnapshot ∈ cm_all := cm_inT (cm_t7 _ (List.mem_of_getElem? (i := 10) rfl)) rfl
theorem ks_L_saveSnapshot : Cond.static yL_saveSnapshot ∈ cm_all := cm_inT (cm_t7 _ (List.mem_of_getElem? (i := 11) rfl)) rfl
theorem kw_L_saveSnapshot : Cond.codeWith yL_saveSnapshot cL_saveSnapshot 4 (some .int) [(0, 9, 12, 13)] ∈ cm_all := cm_inT (cm_t7 _ (List.mem_of_getElem? (i := 12) rfl)) rfl
theorem kl_RL_166 : Cond.methodLink RL 166 yX10_saveSnapshot ∈ cm_all := cm_inT (cm_t7 _ (List.mem_of_getElem? (i := 13) rfl)) rfl
theorem kv_X10_saveSnapshot : Cond.instanceMethod yX10_saveSnapshot ∈ cm_all := cm_inT (cm_t7 _ (List.mem_of_getElem? (i := 14) rfl)) rfl
theorem kx_X10_saveSnapshot : Cond.selects yX10_saveSnapshot.cls yX10_saveSnapshot yX10_saveSnapshot ∈ cm_all := cm_inT (cm_t7 _ (List.mem_of_getElem? (i := 15) rfl)) rfl
theorem kc_X10_saveSnapshot : Cond.code yX10_saveSnapshot cX10_saveSnapshot 3 (some .int) ∈ cm_all := cm_inT (cm_t7 _ (List.mem_of_getElem? (i := 16) rfl)) rfl
theorem kl_RX10_347 : Cond.methodLink RX10 347 yX10_savedAt ∈ cm_all := cm_inT (cm_t7 _ (List.mem_of_getElem? (i := 17) rfl)) rfl
theorem kv_X10_savedAt : Cond.instanceMethod yX10_savedAt ∈ cm_all := cm_inT (cm_t7 _ (List.mem_of_getElem? (i := 19) rfl)) rfl
theorem kc_X10_savedAt : Cond.code yX10_savedAt cX10_savedAt 2 (some (.object "CellCycler$World")) ∈ cm_all := cm_inT (cm_t7 _ (List.mem_of_getElem? (i := 20) rfl)) rfl
theorem kl_RX10_351 : Cond.methodLink RX10 351 yX10_keepAt ∈ cm_all := cm_inT (cm_t7 _ (List.mem_of_getElem? (i := 21) rfl)) rfl
theorem kv_X10_keepAt : Cond.instanceMethod yX10_keepAt ∈ cm_all := cm_inT (cm_t7 _ (List.mem_of_getElem? (i := 23) rfl)) rfl
theorem kc_X10_keepAt : Cond.code yX10_keepAt cX10_keepAt 3 none ∈ cm_all := cm_inT (cm_t7 _ (List.mem_of_getElem? (i := 24) rfl)) rfl
theorem kl_RL_372 : Cond.methodLink RL 372 yL_restoreSnapshot ∈ cm_all := cm_inT (cm_t7 _ (List.mem_of_getElem? (i := 25) rfl)) rfl
theorem ks_L_restoreSnapshot : Cond.static yL_restoreSnapshot ∈ cm_all := cm_inT (cm_t7 _ (List.mem_of_getElem? (i := 26) rfl)) rfl
theorem kw_L_restoreSnapshot : Cond.codeWith yL_restoreSnapshot cL_restoreSnapshot 4 (some .int) [(0, 9, 12, 13)] ∈ cm_all := cm_inT (cm_t7 _ (List.mem_of_getElem? (i := 27) rfl)) rfl
theorem kl_RL_169 : Cond.methodLink RL 169 yX10_restoreSnapshot ∈ cm_all := cm_inT (cm_t7 _ (List.mem_of_getElem? (i := 28) rfl)) rfl
theorem kv_X10_restoreSnapshot : Cond.instanceMethod yX10_restoreSnapshot ∈ cm_all := cm_inT (cm_t7 _ (List.mem_of_getElem? (i := 29) rfl)) rfl
theorem kx_X10_restoreSnapshot : Cond.selects yX10_restoreSnapshot.cls yX10_restoreSnapshot yX10_restoreSnapshot ∈ cm_all := cm_inT (cm_t7 _ (List.mem_of_getElem? (i := 30) rfl)) rfl
theorem kc_X10_restoreSnapshot : Cond.code yX10_restoreSnapshot cX10_restoreSnapshot 3 (some .int) ∈ cm_all := cm_inT (cm_t7 _ (List.mem_of_getElem? (i := 31) rfl)) rfl
theorem kl_RL_173 : Cond.classLink RL 173 RX11 ∈ cm_all := cm_inT (cm_t7 _ (List.mem_of_getElem? (i := 32) rfl)) rfl
theorem kn_RX11 : Cond.instantiable RX11 19 ∈ cm_all := cm_inT (cm_t7 _ (List.mem_of_getElem? (i := 33) rfl)) rfl
theorem kl_RL_175 : Cond.methodLink RL 175 yX11_init ∈ cm_all := cm_inT (cm_t7 _ (List.mem_of_getElem? (i := 34) rfl)) rfl
theorem kv_X11_init : Cond.instanceMethod yX11_init ∈ cm_all := cm_inT (cm_t7 _ (List.mem_of_getElem? (i := 35) rfl)) rfl
theorem kc_X11_init : Cond.code yX11_init cX11_init 1 none ∈ cm_all := cm_inT (cm_t7 _ (List.mem_of_getElem? (i := 36) rfl)) rfl
theorem kl_RX11_3 : Cond.methodLink RX11 3 ⟨"java/lang/Object", "<init>", "()V"⟩ ∈ cm_all := cm_inT (cm_t7 _ (List.mem_of_getElem? (i := 37) rfl)) rfl
theorem kl_RX11_45 : Cond.methodLink RX11 45 yX11_starts ∈ cm_all := cm_inT (cm_t7 _ (List.mem_of_getElem? (i := 38) rfl)) rfl
theorem ks_X11_starts : Cond.static yX11_starts ∈ cm_all := cm_inT (cm_t7 _ (List.mem_of_getElem? (i := 39) rfl)) rfl
theorem kc_X11_starts : Cond.code yX11_starts cX11_starts 2 none ∈ cm_all := cm_inT (cm_t7 _ (List.mem_of_getElem? (i := 40) rfl)) rfl
theorem kl_RX11_53 : Cond.constant RX11 53 (100000) ∈ cm_all := cm_inT (cm_t7 _ (List.mem_of_getElem? (i := 41) rfl)) rfl
theorem kl_RX11_9 : Cond.fieldLink RX11 9 "CellCyclerModel" "w" "[I" ∈ cm_all := cm_inT (cm_t7 _ (List.mem_of_getElem? (i := 42) rfl)) rfl
theorem kl_RX11_13 : Cond.fieldLink RX11 13 "CellCyclerModel" "aside" "[I" ∈ cm_all := cm_inT (cm_t7 _ (List.mem_of_getElem? (i := 43) rfl)) rfl
theorem kl_RX11_16 : Cond.fieldLink RX11 16 "CellCyclerModel" "fresh" "[I" ∈ cm_all := cm_inT (cm_t7 _ (List.mem_of_getElem? (i := 44) rfl)) rfl
theorem kl_RX11_19 : Cond.fieldLink RX11 19 "CellCyclerModel" "slot0" "[I" ∈ cm_all := cm_inT (cm_t7 _ (List.mem_of_getElem? (i := 45) rfl)) rfl
theorem kl_RX11_22 : Cond.fieldLink RX11 22 "CellCyclerModel" "slot1" "[I" ∈ cm_all := cm_inT (cm_t7 _ (List.mem_of_getElem? (i := 46) rfl)) rfl
theorem kl_RX11_25 : Cond.fieldLink RX11 25 "CellCyclerModel" "sums" "[J" ∈ cm_all := cm_inT (cm_t7 _ (List.mem_of_getElem? (i := 47) rfl)) rfl
theorem kl_RX11_29 : Cond.fieldLink RX11 29 "CellCyclerModel" "sumsAside" "[J" ∈ cm_all := cm_inT (cm_t7 _ (List.mem_of_getElem? (i := 48) rfl)) rfl
theorem kl_RX11_32 : Cond.fieldLink RX11 32 "CellCyclerModel" "sums0" "[J" ∈ cm_all := cm_inT (cm_t7 _ (List.mem_of_getElem? (i := 49) rfl)) rfl
theorem kl_RX11_35 : Cond.fieldLink RX11 35 "CellCyclerModel" "sums1" "[J" ∈ cm_all := cm_inT (cm_t7 _ (List.mem_of_getElem? (i := 50) rfl)) rfl
theorem kl_RX11_38 : Cond.fieldLink RX11 38 "CellCyclerModel" "isSaved" "[Z" ∈ cm_all := cm_inT (cm_t7 _ (List.mem_of_getElem? (i := 51) rfl)) rfl
theorem kl_RX11_49 : Cond.fieldLink RX11 49 "CellCyclerModel" "thrown" "I" ∈ cm_all := cm_inT (cm_t7 _ (List.mem_of_getElem? (i := 52) rfl)) rfl
theorem kl_RX11_42 : Cond.fieldLink RX11 42 "CellCyclerModel" "buffer" "[I" ∈ cm_all := cm_inT (cm_t7 _ (List.mem_of_getElem? (i := 53) rfl)) rfl
theorem kl_RX11_56 : Cond.fieldLink RX11 56 "CellCyclerModel" "length" "I" ∈ cm_all := cm_inT (cm_t7 _ (List.mem_of_getElem? (i := 54) rfl)) rfl
theorem kl_RX11_78 : Cond.fieldLink RX11 78 "CellCyclerModel" "point" "I" ∈ cm_all := cm_inT (cm_t7 _ (List.mem_of_getElem? (i := 55) rfl)) rfl
theorem kl_RX11_81 : Cond.fieldLink RX11 81 "CellCyclerModel" "begin" "I" ∈ cm_all := cm_inT (cm_t7 _ (List.mem_of_getElem? (i := 56) rfl)) rfl
theorem kl_RX11_87 : Cond.fieldLink RX11 87 "CellCyclerModel" "wrong" "I" ∈ cm_all := cm_inT (cm_t7 _ (List.mem_of_getElem? (i := 57) rfl)) rfl
theorem kl_RX11_84 : Cond.fieldLink RX11 84 "CellCyclerModel" "wrongKind" "I" ∈ cm_all := cm_inT (cm_t7 _ (List.mem_of_getElem? (i := 58) rfl)) rfl
theorem kl_RX11_59 : Cond.fieldLink RX11 59 "CellCyclerModel" "loadFault" "I" ∈ cm_all := cm_inT (cm_t7 _ (List.mem_of_getElem? (i := 59) rfl)) rfl
theorem kl_RX11_300 : Cond.fieldLink RX11 300 "CellCyclerModel" "ended" "I" ∈ cm_all := cm_inT (cm_t7 _ (List.mem_of_getElem? (i := 60) rfl)) rfl
theorem ka_boolean : Cond.arrayClass .boolean ∈ cm_all := cm_inT (cm_t7 _ (List.mem_of_getElem? (i := 100) rfl)) rfl
theorem kl_RL_182 : Cond.methodLink RL 182 yX11_append ∈ cm_all := cm_inT (cm_t7 _ (List.mem_of_getElem? (i := 101) rfl)) rfl
theorem kv_X11_append : Cond.instanceMethod yX11_append ∈ cm_all := cm_inT (cm_t7 _ (List.mem_of_getElem? (i := 102) rfl)) rfl
theorem kx_X11_append : Cond.selects yX11_append.cls yX11_append yX11_append ∈ cm_all := cm_inT (cm_t7 _ (List.mem_of_getElem? (i := 103) rfl)) rfl
theorem kc_X11_append : Cond.code yX11_append cX11_append 6 (some .int) ∈ cm_all := cm_inT (cm_t7 _ (List.mem_of_getElem? (i := 104) rfl)) rfl
theorem kl_RX11_54 : Cond.constantLong RX11 54 (255) ∈ cm_all := cm_inT (cm_t7 _ (List.mem_of_getElem? (i := 105) rfl)) rfl
theorem kl_RL_191 : Cond.methodLink RL 191 yX11_loadError ∈ cm_all := cm_inT (cm_t7 _ (List.mem_of_getElem? (i := 106) rfl)) rfl
theorem kv_X11_loadError : Cond.instanceMethod yX11_loadError ∈ cm_all := cm_inT (cm_t7 _ (List.mem_of_getElem? (i := 107) rfl)) rfl
theorem kx_X11_loadError : Cond.selects yX11_loadError.cls yX11_loadError yX11_loadError ∈ cm_all := cm_inT (cm_t7 _ (List.mem_of_getElem? (i := 108) rfl)) rfl
theorem kc_X11_loadError : Cond.code yX11_loadError cX11_loadError 1 (some .int) ∈ cm_all := cm_inT (cm_t7 _ (List.mem_of_getElem? (i := 109) rfl)) rfl
theorem kl_RL_187 : Cond.methodLink RL 187 yX11_load ∈ cm_all := cm_inT (cm_t7 _ (List.mem_of_getElem? (i := 110) rfl)) rfl
theorem kv_X11_load : Cond.instanceMethod yX11_load ∈ cm_all := cm_inT (cm_t7 _ (List.mem_of_getElem? (i := 111) rfl)) rfl
theorem kx_X11_load : Cond.selects yX11_load.cls yX11_load yX11_load ∈ cm_all := cm_inT (cm_t7 _ (List.mem_of_getElem? (i := 112) rfl)) rfl
theorem kc_X11_load : Cond.code yX11_load cX11_load 3 (some .int) ∈ cm_all := cm_inT (cm_t7 _ (List.mem_of_getElem? (i := 113) rfl)) rfl
theorem kl_RX11_198 : Cond.methodLink RX11 198 yX11_readsAll ∈ cm_all := cm_inT (cm_t7 _ (List.mem_of_getElem? (i := 114) rfl)) rfl
theorem kv_X11_readsAll : Cond.instanceMethod yX11_readsAll ∈ cm_all := cm_inT (cm_t7 _ (List.mem_of_getElem? (i := 116) rfl)) rfl
theorem kc_X11_readsAll : Cond.code yX11_readsAll cX11_readsAll 1 (some .boolean) ∈ cm_all := cm_inT (cm_t7 _ (List.mem_of_getElem? (i := 117) rfl)) rfl
theorem kl_RX11_195 : Cond.methodLink RX11 195 yX11_readStatement ∈ cm_all := cm_inT (cm_t7 _ (List.mem_of_getElem? (i := 118) rfl)) rfl
theorem kv_X11_readStatement : Cond.instanceMethod yX11_readStatement ∈ cm_all := cm_inT (cm_t7 _ (List.mem_of_getElem? (i := 120) rfl)) rfl
theorem kc_X11_readStatement : Cond.code yX11_readStatement cX11_readStatement 1 (some .boolean) ∈ cm_all := cm_inT (cm_t7 _ (List.mem_of_getElem? (i := 121) rfl)) rfl
theorem kl_RX11_106 : Cond.methodLink RX11 106 yX11_see ∈ cm_all := cm_inT (cm_t7 _ (List.mem_of_getElem? (i := 122) rfl)) rfl
theorem kv_X11_see : Cond.instanceMethod yX11_see ∈ cm_all := cm_inT (cm_t7 _ (List.mem_of_getElem? (i := 124) rfl)) rfl
theorem kc_X11_see : Cond.code yX11_see cX11_see 1 (some .int) ∈ cm_all := cm_inT (cm_t7 _ (List.mem_of_getElem? (i := 125) rfl)) rfl
theorem kl_RX11_62 : Cond.methodLink RX11 62 yX11_byteAt ∈ cm_all := cm_inT (cm_t7 _ (List.mem_of_getElem? (i := 126) rfl)) rfl
theorem kv_X11_byteAt : Cond.instanceMethod yX11_byteAt ∈ cm_all := cm_inT (cm_t7 _ (List.mem_of_getElem? (i := 128) rfl)) rfl
theorem kc_X11_byteAt : Cond.code yX11_byteAt cX11_byteAt 2 (some .int) ∈ cm_all := cm_inT (cm_t7 _ (List.mem_of_getElem? (i := 129) rfl)) rfl
theorem kl_RX11_146 : Cond.methodLink RX11 146 yX11_isWord ∈ cm_all := cm_inT (cm_t7 _ (List.mem_of_getElem? (i := 131) rfl)) rfl
theorem kv_X11_isWord : Cond.instanceMethod yX11_isWord ∈ cm_all := cm_inT (cm_t7 _ (List.mem_of_getElem? (i := 133) rfl)) rfl
theorem kc_X11_isWord : Cond.code yX11_isWord cX11_isWord 5 (some .boolean) ∈ cm_all := cm_inT (cm_t7 _ (List.mem_of_getElem? (i := 134) rfl)) rfl
theorem kl_RX11_94 : Cond.methodLink RX11 94 yX11_wordEnd ∈ cm_all := cm_inT (cm_t7 _ (List.mem_of_getElem? (i := 135) rfl)) rfl
theorem kv_X11_wordEnd : Cond.instanceMethod yX11_wordEnd ∈ cm_all := cm_inT (cm_t7 _ (List.mem_of_getElem? (i := 137) rfl)) rfl
theorem kc_X11_wordEnd : Cond.code yX11_wordEnd cX11_wordEnd 2 (some .int) ∈ cm_all := cm_inT (cm_t7 _ (List.mem_of_getElem? (i := 138) rfl)) rfl
theorem kl_RX11_90 : Cond.methodLink RX11 90 yX11_isLetter ∈ cm_all := cm_inT (cm_t7 _ (List.mem_of_getElem? (i := 139) rfl)) rfl
theorem kv_X11_isLetter : Cond.instanceMethod yX11_isLetter ∈ cm_all := cm_inT (cm_t7 _ (List.mem_of_getElem? (i := 141) rfl)) rfl
theorem kc_X11_isLetter : Cond.code yX11_isLetter cX11_isLetter 2 (some .boolean) ∈ cm_all := cm_inT (cm_t7 _ (List.mem_of_getElem? (i := 142) rfl)) rfl
theorem kl_RX11_66 : Cond.constantLong RX11 66 (97) ∈ cm_all := cm_inT (cm_t7 _ (List.mem_of_getElem? (i := 143) rfl)) rfl
theorem kl_RX11_68 : Cond.constantLong RX11 68 (122) ∈ cm_all := cm_inT (cm_t7 _ (List.mem_of_getElem? (i := 144) rfl)) rfl
theorem kl_RX11_70 : Cond.methodLink RX11 70 yX11_in ∈ cm_all := cm_inT (cm_t7 _ (List.mem_of_getElem? (i := 145) rfl)) rfl
theorem ks_X11_in : Cond.static yX11_in ∈ cm_all := cm_inT (cm_t7 _ (List.mem_of_getElem? (i := 146) rfl)) rfl
theorem kc_X11_in : Cond.code yX11_in cX11_in 6 (some .boolean) ∈ cm_all := cm_inT (cm_t7 _ (List.mem_of_getElem? (i := 147) rfl)) rfl
theorem kl_RX11_98 : Cond.methodLink RX11 98 yJ0_length_8abf5 ∈ cm_all := cm_inT (cm_t7 _ (List.mem_of_getElem? (i := 148) rfl)) rfl
theorem kl_RX11_102 : Cond.methodLink RX11 102 yJ0_charAt_5068e ∈ cm_all := cm_inT (cm_t7 _ (List.mem_of_getElem? (i := 149) rfl)) rfl
theorem kl_RX11_164 : Cond.methodLink RX11 164 yX11_readCurve ∈ cm_all := cm_inT (cm_t7 _ (List.mem_of_getElem? (i := 150) rfl)) rfl
theorem kv_X11_readCurve : Cond.instanceMethod yX11_readCurve ∈ cm_all := cm_inT (cm_t7 _ (List.mem_of_getElem? (i := 152) rfl)) rfl
theorem kc_X11_readCurve : Cond.code yX11_readCurve cX11_readCurve 4 (some .boolean) ∈ cm_all := cm_inT (cm_t7 _ (List.mem_of_getElem? (i := 153) rfl)) rfl
theorem kl_RX11_112 : Cond.methodLink RX11 112 yX11_fails ∈ cm_all := cm_inT (cm_t7 _ (List.mem_of_getElem? (i := 154) rfl)) rfl
theorem kv_X11_fails : Cond.instanceMethod yX11_fails ∈ cm_all := cm_inT (cm_t7 _ (List.mem_of_getElem? (i := 156) rfl)) rfl
theorem kc_X11_fails : Cond.code yX11_fails cX11_fails 2 (some .boolean) ∈ cm_all := cm_inT (cm_t7 _ (List.mem_of_getElem? (i := 157) rfl)) rfl
theorem kl_RX11_133 : Cond.methodLink RX11 133 yX11_passes ∈ cm_all := cm_inT (cm_t7 _ (List.mem_of_getElem? (i := 158) rfl)) rfl
theorem kv_X11_passes : Cond.instanceMethod yX11_passes ∈ cm_all := cm_inT (cm_t7 _ (List.mem_of_getElem? (i := 160) rfl)) rfl
theorem kc_X11_passes : Cond.code yX11_passes cX11_passes 1 (some .boolean) ∈ cm_all := cm_inT (cm_t7 _ (List.mem_of_getElem? (i := 161) rfl)) rfl
theorem kl_RX11_137 : Cond.methodLink RX11 137 yX11_readName ∈ cm_all := cm_inT (cm_t7 _ (List.mem_of_getElem? (i := 162) rfl)) rfl
theorem kv_X11_readName : Cond.instanceMethod yX11_readName ∈ cm_all := cm_inT (cm_t7 _ (List.mem_of_getElem? (i := 164) rfl)) rfl
theorem kc_X11_readName : Cond.code yX11_readName cX11_readName 4 (some .boolean) ∈ cm_all := cm_inT (cm_t7 _ (List.mem_of_getElem? (i := 165) rfl)) rfl
theorem kl_RX11_129 : Cond.methodLink RX11 129 yX11_named ∈ cm_all := cm_inT (cm_t7 _ (List.mem_of_getElem? (i := 166) rfl)) rfl
theorem kv_X11_named : Cond.instanceMethod yX11_named ∈ cm_all := cm_inT (cm_t7 _ (List.mem_of_getElem? (i := 168) rfl)) rfl
theorem kc_X11_named : Cond.code yX11_named cX11_named 6 (some .int) ∈ cm_all := cm_inT (cm_t7 _ (List.mem_of_getElem? (i := 169) rfl)) rfl
theorem kl_RX11_125 : Cond.methodLink RX11 125 yX11_isNamed ∈ cm_all := cm_inT (cm_t7 _ (List.mem_of_getElem? (i := 170) rfl)) rfl
theorem kv_X11_isNamed : Cond.instanceMethod yX11_isNamed ∈ cm_all := cm_inT (cm_t7 _ (List.mem_of_getElem? (i := 172) rfl)) rfl
theorem kc_X11_isNamed : Cond.code yX11_isNamed cX11_isNamed 8 (some .boolean) ∈ cm_all := cm_inT (cm_t7 _ (List.mem_of_getElem? (i := 173) rfl)) rfl
theorem kl_RX11_74 : Cond.constantLong RX11 74 (48) ∈ cm_all := cm_inT (cm_t7 _ (List.mem_of_getElem? (i := 174) rfl)) rfl
theorem kl_RX11_76 : Cond.constantLong RX11 76 (57) ∈ cm_all := cm_inT (cm_t7 _ (List.mem_of_getElem? (i := 175) rfl)) rfl
theorem kl_RX11_140 : Cond.methodLink RX11 140 yX11_reads ∈ cm_all := cm_inT (cm_t7 _ (List.mem_of_getElem? (i := 176) rfl)) rfl
theorem kv_X11_reads : Cond.instanceMethod yX11_reads ∈ cm_all := cm_inT (cm_t7 _ (List.mem_of_getElem? (i := 178) rfl)) rfl
theorem kc_X11_reads : Cond.code yX11_reads cX11_reads 6 (some .boolean) ∈ cm_all := cm_inT (cm_t7 _ (List.mem_of_getElem? (i := 179) rfl)) rfl
theorem kl_RX11_109 : Cond.methodLink RX11 109 yX11_isDigit ∈ cm_all := cm_inT (cm_t7 _ (List.mem_of_getElem? (i := 180) rfl)) rfl
theorem kv_X11_isDigit : Cond.instanceMethod yX11_isDigit ∈ cm_all := cm_inT (cm_t7 _ (List.mem_of_getElem? (i := 182) rfl)) rfl
theorem kc_X11_isDigit : Cond.code yX11_isDigit cX11_isDigit 2 (some .boolean) ∈ cm_all := cm_inT (cm_t7 _ (List.mem_of_getElem? (i := 183) rfl)) rfl
theorem kl_RX11_115 : Cond.constantLong RX11 115 (100000000) ∈ cm_all := cm_inT (cm_t7 _ (List.mem_of_getElem? (i := 184) rfl)) rfl
theorem kl_RX11_117 : Cond.constantLong RX11 117 (10) ∈ cm_all := cm_inT (cm_t7 _ (List.mem_of_getElem? (i := 185) rfl)) rfl
theorem kl_RX11_119 : Cond.methodLink RX11 119 yJ9_min_f86c9 ∈ cm_all := cm_inT (cm_t7 _ (List.mem_of_getElem? (i := 186) rfl)) rfl
theorem kl_RX11_169 : Cond.methodLink RX11 169 yX11_readCell ∈ cm_all := cm_inT (cm_t7 _ (List.mem_of_getElem? (i := 188) rfl)) rfl
theorem kv_X11_readCell : Cond.instanceMethod yX11_readCell ∈ cm_all := cm_inT (cm_t7 _ (List.mem_of_getElem? (i := 190) rfl)) rfl
theorem kc_X11_readCell : Cond.code yX11_readCell cX11_readCell 3 (some .boolean) ∈ cm_all := cm_inT (cm_t7 _ (List.mem_of_getElem? (i := 191) rfl)) rfl
theorem kl_RX11_174 : Cond.methodLink RX11 174 yX11_readProgram ∈ cm_all := cm_inT (cm_t7 _ (List.mem_of_getElem? (i := 193) rfl)) rfl
theorem kv_X11_readProgram : Cond.instanceMethod yX11_readProgram ∈ cm_all := cm_inT (cm_t7 _ (List.mem_of_getElem? (i := 195) rfl)) rfl
theorem kc_X11_readProgram : Cond.code yX11_readProgram cX11_readProgram 3 (some .boolean) ∈ cm_all := cm_inT (cm_t7 _ (List.mem_of_getElem? (i := 196) rfl)) rfl
theorem kl_RX11_158 : Cond.methodLink RX11 158 yX11_readStep ∈ cm_all := cm_inT (cm_t7 _ (List.mem_of_getElem? (i := 197) rfl)) rfl
theorem kv_X11_readStep : Cond.instanceMethod yX11_readStep ∈ cm_all := cm_inT (cm_t7 _ (List.mem_of_getElem? (i := 199) rfl)) rfl
theorem kc_X11_readStep : Cond.code yX11_readStep cX11_readStep 5 (some .boolean) ∈ cm_all := cm_inT (cm_t7 _ (List.mem_of_getElem? (i := 200) rfl)) rfl
theorem kl_RX11_181 : Cond.constant RX11 181 (1000000) ∈ cm_all := cm_inT (cm_t7 _ (List.mem_of_getElem? (i := 208) rfl)) rfl
theorem kl_RX11_184 : Cond.methodLink RX11 184 yJ9_min_7cf53 ∈ cm_all := cm_inT (cm_t7 _ (List.mem_of_getElem? (i := 210) rfl)) rfl
theorem kl_RX11_201 : Cond.methodLink RX11 201 yX11_begins ∈ cm_all := cm_inT (cm_t7 _ (List.mem_of_getElem? (i := 215) rfl)) rfl
theorem ks_X11_begins : Cond.static yX11_begins ∈ cm_all := cm_inT (cm_t7 _ (List.mem_of_getElem? (i := 216) rfl)) rfl
theorem kc_X11_begins : Cond.code yX11_begins cX11_begins 4 none ∈ cm_all := cm_inT (cm_t7 _ (List.mem_of_getElem? (i := 217) rfl)) rfl
theorem kl_RX11_205 : Cond.methodLink RX11 205 yX11_copies ∈ cm_all := cm_inT (cm_t7 _ (List.mem_of_getElem? (i := 218) rfl)) rfl
theorem ks_X11_copies : Cond.static yX11_copies ∈ cm_all := cm_inT (cm_t7 _ (List.mem_of_getElem? (i := 219) rfl)) rfl
theorem kc_X11_copies : Cond.code yX11_copies cX11_copies 3 none ∈ cm_all := cm_inT (cm_t7 _ (List.mem_of_getElem? (i := 220) rfl)) rfl
theorem kl_RL_195 : Cond.methodLink RL 195 yX11_curveNamed ∈ cm_all := cm_inT (cm_t7 _ (List.mem_of_getElem? (i := 221) rfl)) rfl
theorem kv_X11_curveNamed : Cond.instanceMethod yX11_curveNamed ∈ cm_all := cm_inT (cm_t7 _ (List.mem_of_getElem? (i := 222) rfl)) rfl
theorem kx_X11_curveNamed : Cond.selects yX11_curveNamed.cls yX11_curveNamed yX11_curveNamed ∈ cm_all := cm_inT (cm_t7 _ (List.mem_of_getElem? (i := 223) rfl)) rfl
theorem kc_X11_curveNamed : Cond.code yX11_curveNamed cX11_curveNamed 2 (some .int) ∈ cm_all := cm_inT (cm_t7 _ (List.mem_of_getElem? (i := 224) rfl)) rfl
theorem kl_RL_201 : Cond.methodLink RL 201 yX11_count ∈ cm_all := cm_inT (cm_t7 _ (List.mem_of_getElem? (i := 225) rfl)) rfl
theorem kv_X11_count : Cond.instanceMethod yX11_count ∈ cm_all := cm_inT (cm_t7 _ (List.mem_of_getElem? (i := 226) rfl)) rfl
theorem kx_X11_count : Cond.selects yX11_count.cls yX11_count yX11_count ∈ cm_all := cm_inT (cm_t7 _ (List.mem_of_getElem? (i := 227) rfl)) rfl
theorem kc_X11_count : Cond.code yX11_count cX11_count 2 (some .int) ∈ cm_all := cm_inT (cm_t7 _ (List.mem_of_getElem? (i := 228) rfl)) rfl
theorem kl_RX11_326 : Cond.constantLong RX11 326 (2) ∈ cm_all := cm_inT (cm_t7 _ (List.mem_of_getElem? (i := 229) rfl)) rfl
theorem kl_RX11_328 : Cond.methodLink RX11 328 yX11_throwsIf ∈ cm_all := cm_inT (cm_t7 _ (List.mem_of_getElem? (i := 230) rfl)) rfl
theorem kv_X11_throwsIf : Cond.instanceMethod yX11_throwsIf ∈ cm_all := cm_inT (cm_t7 _ (List.mem_of_getElem? (i := 232) rfl)) rfl
theorem kc_X11_throwsIf : Cond.code yX11_throwsIf cX11_throwsIf 3 (some .boolean) ∈ cm_all := cm_inT (cm_t7 _ (List.mem_of_getElem? (i := 233) rfl)) rfl
theorem kl_RL_204 : Cond.methodLink RL 204 yX11_setting ∈ cm_all := cm_inT (cm_t7 _ (List.mem_of_getElem? (i := 234) rfl)) rfl
theorem kv_X11_setting : Cond.instanceMethod yX11_setting ∈ cm_all := cm_inT (cm_t7 _ (List.mem_of_getElem? (i := 235) rfl)) rfl
theorem kx_X11_setting : Cond.selects yX11_setting.cls yX11_setting yX11_setting ∈ cm_all := cm_inT (cm_t7 _ (List.mem_of_getElem? (i := 236) rfl)) rfl
theorem kc_X11_setting : Cond.code yX11_setting cX11_setting 2 (some .int) ∈ cm_all := cm_inT (cm_t7 _ (List.mem_of_getElem? (i := 237) rfl)) rfl
theorem kl_RX11_332 : Cond.constantLong RX11 332 (7) ∈ cm_all := cm_inT (cm_t7 _ (List.mem_of_getElem? (i := 238) rfl)) rfl
theorem kl_RL_207 : Cond.methodLink RL 207 yX11_setAmbient ∈ cm_all := cm_inT (cm_t7 _ (List.mem_of_getElem? (i := 239) rfl)) rfl
theorem kv_X11_setAmbient : Cond.instanceMethod yX11_setAmbient ∈ cm_all := cm_inT (cm_t8 _ (List.mem_of_getElem? (i := 0) rfl)) rfl
theorem kx_X11_setAmbient : Cond.selects yX11_setAmbient.cls yX11_setAmbient yX11_setAmbient ∈ cm_all := cm_inT (cm_t8 _ (List.mem_of_getElem? (i := 1) rfl)) rfl
theorem kc_X11_setAmbient : Cond.code yX11_setAmbient cX11_setAmbient 3 (some .int) ∈ cm_all := cm_inT (cm_t8 _ (List.mem_of_getElem? (i := 2) rfl)) rfl
theorem kl_RX11_334 : Cond.constantLong RX11 334 (500) ∈ cm_all := cm_inT (cm_t8 _ (List.mem_of_getElem? (i := 3) rfl)) rfl
theorem kl_RL_214 : Cond.methodLink RL 214 yX11_setDerate ∈ cm_all := cm_inT (cm_t8 _ (List.mem_of_getElem? (i := 4) rfl)) rfl
theorem kv_X11_setDerate : Cond.instanceMethod yX11_setDerate ∈ cm_all := cm_inT (cm_t8 _ (List.mem_of_getElem? (i := 5) rfl)) rfl
theorem kx_X11_setDerate : Cond.selects yX11_setDerate.cls yX11_setDerate yX11_setDerate ∈ cm_all := cm_inT (cm_t8 _ (List.mem_of_getElem? (i := 6) rfl)) rfl
theorem kc_X11_setDerate : Cond.code yX11_setDerate cX11_setDerate 3 (some .int) ∈ cm_all := cm_inT (cm_t8 _ (List.mem_of_getElem? (i := 7) rfl)) rfl
theorem kl_RX11_336 : Cond.constantLong RX11 336 (200) ∈ cm_all := cm_inT (cm_t8 _ (List.mem_of_getElem? (i := 8) rfl)) rfl
theorem kl_RL_211 : Cond.methodLink RL 211 yX11_setLimits ∈ cm_all := cm_inT (cm_t8 _ (List.mem_of_getElem? (i := 9) rfl)) rfl
theorem kv_X11_setLimits : Cond.instanceMethod yX11_setLimits ∈ cm_all := cm_inT (cm_t8 _ (List.mem_of_getElem? (i := 10) rfl)) rfl
theorem kx_X11_setLimits : Cond.selects yX11_setLimits.cls yX11_setLimits yX11_setLimits ∈ cm_all := cm_inT (cm_t8 _ (List.mem_of_getElem? (i := 11) rfl)) rfl
theorem kc_X11_setLimits : Cond.code yX11_setLimits cX11_setLimits 5 (some .int) ∈ cm_all := cm_inT (cm_t8 _ (List.mem_of_getElem? (i := 12) rfl)) rfl
theorem kl_RX11_338 : Cond.constantLong RX11 338 (5000) ∈ cm_all := cm_inT (cm_t8 _ (List.mem_of_getElem? (i := 13) rfl)) rfl
theorem kl_RX11_209 : Cond.methodLink RX11 209 yX11_of ∈ cm_all := cm_inT (cm_t8 _ (List.mem_of_getElem? (i := 14) rfl)) rfl
theorem kv_X11_of : Cond.instanceMethod yX11_of ∈ cm_all := cm_inT (cm_t8 _ (List.mem_of_getElem? (i := 16) rfl)) rfl
theorem kc_X11_of : Cond.code yX11_of cX11_of 3 (some .int) ∈ cm_all := cm_inT (cm_t8 _ (List.mem_of_getElem? (i := 17) rfl)) rfl
theorem kl_RL_218 : Cond.methodLink RL 218 yX11_stepValue ∈ cm_all := cm_inT (cm_t8 _ (List.mem_of_getElem? (i := 18) rfl)) rfl
theorem kv_X11_stepValue : Cond.instanceMethod yX11_stepValue ∈ cm_all := cm_inT (cm_t8 _ (List.mem_of_getElem? (i := 19) rfl)) rfl
theorem kx_X11_stepValue : Cond.selects yX11_stepValue.cls yX11_stepValue yX11_stepValue ∈ cm_all := cm_inT (cm_t8 _ (List.mem_of_getElem? (i := 20) rfl)) rfl
theorem kc_X11_stepValue : Cond.code yX11_stepValue cX11_stepValue 4 (some .int) ∈ cm_all := cm_inT (cm_t8 _ (List.mem_of_getElem? (i := 21) rfl)) rfl
theorem kl_RX11_276 : Cond.methodLink RX11 276 yX11_stepsOf ∈ cm_all := cm_inT (cm_t8 _ (List.mem_of_getElem? (i := 22) rfl)) rfl
theorem kv_X11_stepsOf : Cond.instanceMethod yX11_stepsOf ∈ cm_all := cm_inT (cm_t8 _ (List.mem_of_getElem? (i := 24) rfl)) rfl
theorem kc_X11_stepsOf : Cond.code yX11_stepsOf cX11_stepsOf 2 (some .int) ∈ cm_all := cm_inT (cm_t8 _ (List.mem_of_getElem? (i := 25) rfl)) rfl
theorem kl_RX11_218 : Cond.methodLink RX11 218 yX11_stepOf ∈ cm_all := cm_inT (cm_t8 _ (List.mem_of_getElem? (i := 26) rfl)) rfl
theorem kv_X11_stepOf : Cond.instanceMethod yX11_stepOf ∈ cm_all := cm_inT (cm_t8 _ (List.mem_of_getElem? (i := 28) rfl)) rfl
theorem kc_X11_stepOf : Cond.code yX11_stepOf cX11_stepOf 4 (some .int) ∈ cm_all := cm_inT (cm_t8 _ (List.mem_of_getElem? (i := 29) rfl)) rfl
theorem kl_RL_222 : Cond.methodLink RL 222 yX11_now ∈ cm_all := cm_inT (cm_t8 _ (List.mem_of_getElem? (i := 30) rfl)) rfl
theorem kv_X11_now : Cond.instanceMethod yX11_now ∈ cm_all := cm_inT (cm_t8 _ (List.mem_of_getElem? (i := 31) rfl)) rfl
theorem kx_X11_now : Cond.selects yX11_now.cls yX11_now yX11_now ∈ cm_all := cm_inT (cm_t8 _ (List.mem_of_getElem? (i := 32) rfl)) rfl
theorem kc_X11_now : Cond.code yX11_now cX11_now 1 (some .int) ∈ cm_all := cm_inT (cm_t8 _ (List.mem_of_getElem? (i := 33) rfl)) rfl
theorem kl_RL_225 : Cond.methodLink RL 225 yX11_advance ∈ cm_all := cm_inT (cm_t8 _ (List.mem_of_getElem? (i := 34) rfl)) rfl
theorem kv_X11_advance : Cond.instanceMethod yX11_advance ∈ cm_all := cm_inT (cm_t8 _ (List.mem_of_getElem? (i := 35) rfl)) rfl
theorem kx_X11_advance : Cond.selects yX11_advance.cls yX11_advance yX11_advance ∈ cm_all := cm_inT (cm_t8 _ (List.mem_of_getElem? (i := 36) rfl)) rfl
theorem kc_X11_advance : Cond.code yX11_advance cX11_advance 3 (some .int) ∈ cm_all := cm_inT (cm_t8 _ (List.mem_of_getElem? (i := 37) rfl)) rfl
theorem kl_RX11_340 : Cond.constant RX11 340 (300000) ∈ cm_all := cm_inT (cm_t8 _ (List.mem_of_getElem? (i := 38) rfl)) rfl
theorem kl_RX11_341 : Cond.methodLink RX11 341 yX11_ticks ∈ cm_all := cm_inT (cm_t8 _ (List.mem_of_getElem? (i := 39) rfl)) rfl
theorem kv_X11_ticks : Cond.instanceMethod yX11_ticks ∈ cm_all := cm_inT (cm_t8 _ (List.mem_of_getElem? (i := 41) rfl)) rfl
theorem kc_X11_ticks : Cond.code yX11_ticks cX11_ticks 2 none ∈ cm_all := cm_inT (cm_t8 _ (List.mem_of_getElem? (i := 42) rfl)) rfl
theorem kl_RX11_323 : Cond.methodLink RX11 323 yX11_goes ∈ cm_all := cm_inT (cm_t8 _ (List.mem_of_getElem? (i := 43) rfl)) rfl
theorem kv_X11_goes : Cond.instanceMethod yX11_goes ∈ cm_all := cm_inT (cm_t8 _ (List.mem_of_getElem? (i := 45) rfl)) rfl
theorem kc_X11_goes : Cond.code yX11_goes cX11_goes 6 none ∈ cm_all := cm_inT (cm_t8 _ (List.mem_of_getElem? (i := 46) rfl)) rfl
theorem kl_RX11_308 : Cond.methodLink RX11 308 yX11_currentOf ∈ cm_all := cm_inT (cm_t8 _ (List.mem_of_getElem? (i := 47) rfl)) rfl
theorem kv_X11_currentOf : Cond.instanceMethod yX11_currentOf ∈ cm_all := cm_inT (cm_t8 _ (List.mem_of_getElem? (i := 49) rfl)) rfl
theorem kc_X11_currentOf : Cond.code yX11_currentOf cX11_currentOf 3 (some .int) ∈ cm_all := cm_inT (cm_t8 _ (List.mem_of_getElem? (i := 50) rfl)) rfl
theorem kl_RX11_222 : Cond.methodLink RX11 222 yX11_wantedOf ∈ cm_all := cm_inT (cm_t8 _ (List.mem_of_getElem? (i := 51) rfl)) rfl
theorem kv_X11_wantedOf : Cond.instanceMethod yX11_wantedOf ∈ cm_all := cm_inT (cm_t8 _ (List.mem_of_getElem? (i := 53) rfl)) rfl
theorem kc_X11_wantedOf : Cond.code yX11_wantedOf cX11_wantedOf 4 (some .int) ∈ cm_all := cm_inT (cm_t8 _ (List.mem_of_getElem? (i := 54) rfl)) rfl
theorem kl_RX11_228 : Cond.methodLink RX11 228 yX11_step ∈ cm_all := cm_inT (cm_t8 _ (List.mem_of_getElem? (i := 55) rfl)) rfl
theorem kv_X11_step : Cond.instanceMethod yX11_step ∈ cm_all := cm_inT (cm_t8 _ (List.mem_of_getElem? (i := 57) rfl)) rfl
theorem kc_X11_step : Cond.code yX11_step cX11_step 3 (some .int) ∈ cm_all := cm_inT (cm_t8 _ (List.mem_of_getElem? (i := 58) rfl)) rfl
theorem kl_RX11_231 : Cond.methodLink RX11 231 yX11_restAt ∈ cm_all := cm_inT (cm_t8 _ (List.mem_of_getElem? (i := 59) rfl)) rfl
theorem kv_X11_restAt : Cond.instanceMethod yX11_restAt ∈ cm_all := cm_inT (cm_t8 _ (List.mem_of_getElem? (i := 61) rfl)) rfl
theorem kc_X11_restAt : Cond.code yX11_restAt cX11_restAt 12 (some .int) ∈ cm_all := cm_inT (cm_t8 _ (List.mem_of_getElem? (i := 62) rfl)) rfl
theorem kl_RX11_212 : Cond.methodLink RX11 212 yX11_voltsMany ∈ cm_all := cm_inT (cm_t8 _ (List.mem_of_getElem? (i := 63) rfl)) rfl
theorem kv_X11_voltsMany : Cond.instanceMethod yX11_voltsMany ∈ cm_all := cm_inT (cm_t8 _ (List.mem_of_getElem? (i := 65) rfl)) rfl
theorem kc_X11_voltsMany : Cond.code yX11_voltsMany cX11_voltsMany 2 (some .int) ∈ cm_all := cm_inT (cm_t8 _ (List.mem_of_getElem? (i := 66) rfl)) rfl
theorem kl_RX11_215 : Cond.methodLink RX11 215 yX11_volts ∈ cm_all := cm_inT (cm_t8 _ (List.mem_of_getElem? (i := 67) rfl)) rfl
theorem kv_X11_volts : Cond.instanceMethod yX11_volts ∈ cm_all := cm_inT (cm_t8 _ (List.mem_of_getElem? (i := 69) rfl)) rfl
theorem kc_X11_volts : Cond.code yX11_volts cX11_volts 3 (some .int) ∈ cm_all := cm_inT (cm_t8 _ (List.mem_of_getElem? (i := 70) rfl)) rfl
theorem kl_RX11_225 : Cond.methodLink RX11 225 yJ9_max_7cf53 ∈ cm_all := cm_inT (cm_t8 _ (List.mem_of_getElem? (i := 71) rfl)) rfl
theorem kl_RX11_311 : Cond.methodLink RX11 311 yX11_flows ∈ cm_all := cm_inT (cm_t8 _ (List.mem_of_getElem? (i := 72) rfl)) rfl
theorem kv_X11_flows : Cond.instanceMethod yX11_flows ∈ cm_all := cm_inT (cm_t8 _ (List.mem_of_getElem? (i := 74) rfl)) rfl
theorem kc_X11_flows : Cond.code yX11_flows cX11_flows 4 none ∈ cm_all := cm_inT (cm_t8 _ (List.mem_of_getElem? (i := 75) rfl)) rfl
theorem kl_RX11_245 : Cond.methodLink RX11 245 yX11_polarizes ∈ cm_all := cm_inT (cm_t8 _ (List.mem_of_getElem? (i := 76) rfl)) rfl
theorem kv_X11_polarizes : Cond.instanceMethod yX11_polarizes ∈ cm_all := cm_inT (cm_t8 _ (List.mem_of_getElem? (i := 78) rfl)) rfl
theorem kc_X11_polarizes : Cond.code yX11_polarizes cX11_polarizes 5 none ∈ cm_all := cm_inT (cm_t8 _ (List.mem_of_getElem? (i := 79) rfl)) rfl
theorem kl_RX11_234 : Cond.methodLink RX11 234 yX11_put ∈ cm_all := cm_inT (cm_t8 _ (List.mem_of_getElem? (i := 80) rfl)) rfl
theorem kv_X11_put : Cond.instanceMethod yX11_put ∈ cm_all := cm_inT (cm_t8 _ (List.mem_of_getElem? (i := 82) rfl)) rfl
theorem kc_X11_put : Cond.code yX11_put cX11_put 4 none ∈ cm_all := cm_inT (cm_t8 _ (List.mem_of_getElem? (i := 83) rfl)) rfl
theorem kl_RX11_249 : Cond.methodLink RX11 249 yX11_moves ∈ cm_all := cm_inT (cm_t8 _ (List.mem_of_getElem? (i := 84) rfl)) rfl
theorem kv_X11_moves : Cond.instanceMethod yX11_moves ∈ cm_all := cm_inT (cm_t8 _ (List.mem_of_getElem? (i := 86) rfl)) rfl
theorem kc_X11_moves : Cond.code yX11_moves cX11_moves 4 none ∈ cm_all := cm_inT (cm_t8 _ (List.mem_of_getElem? (i := 87) rfl)) rfl
theorem kl_RX11_238 : Cond.methodLink RX11 238 yX11_adds ∈ cm_all := cm_inT (cm_t8 _ (List.mem_of_getElem? (i := 88) rfl)) rfl
theorem kv_X11_adds : Cond.instanceMethod yX11_adds ∈ cm_all := cm_inT (cm_t8 _ (List.mem_of_getElem? (i := 90) rfl)) rfl
theorem kc_X11_adds : Cond.code yX11_adds cX11_adds 5 none ∈ cm_all := cm_inT (cm_t8 _ (List.mem_of_getElem? (i := 91) rfl)) rfl
theorem kl_RX11_252 : Cond.methodLink RX11 252 yX11_fades ∈ cm_all := cm_inT (cm_t8 _ (List.mem_of_getElem? (i := 92) rfl)) rfl
theorem kv_X11_fades : Cond.instanceMethod yX11_fades ∈ cm_all := cm_inT (cm_t8 _ (List.mem_of_getElem? (i := 94) rfl)) rfl
theorem kc_X11_fades : Cond.code yX11_fades cX11_fades 4 none ∈ cm_all := cm_inT (cm_t8 _ (List.mem_of_getElem? (i := 95) rfl)) rfl
theorem kl_RX11_242 : Cond.methodLink RX11 242 yJ9_abs_0f7a4 ∈ cm_all := cm_inT (cm_t8 _ (List.mem_of_getElem? (i := 96) rfl)) rfl
theorem ks_J9_abs_0f7a4 : Cond.static yJ9_abs_0f7a4 ∈ cm_all := cm_inT (cm_t8 _ (List.mem_of_getElem? (i := 97) rfl)) rfl
theorem kl_RX11_255 : Cond.methodLink RX11 255 yX11_warms ∈ cm_all := cm_inT (cm_t8 _ (List.mem_of_getElem? (i := 99) rfl)) rfl
theorem kv_X11_warms : Cond.instanceMethod yX11_warms ∈ cm_all := cm_inT (cm_t8 _ (List.mem_of_getElem? (i := 101) rfl)) rfl
theorem kc_X11_warms : Cond.code yX11_warms cX11_warms 4 none ∈ cm_all := cm_inT (cm_t8 _ (List.mem_of_getElem? (i := 102) rfl)) rfl
theorem kl_RX11_314 : Cond.methodLink RX11 314 yX11_filled ∈ cm_all := cm_inT (cm_t8 _ (List.mem_of_getElem? (i := 103) rfl)) rfl
theorem kv_X11_filled : Cond.instanceMethod yX11_filled ∈ cm_all := cm_inT (cm_t8 _ (List.mem_of_getElem? (i := 105) rfl)) rfl
theorem kc_X11_filled : Cond.code yX11_filled cX11_filled 2 (some .int) ∈ cm_all := cm_inT (cm_t8 _ (List.mem_of_getElem? (i := 106) rfl)) rfl
theorem kl_RX11_303 : Cond.constantLong RX11 303 (1000) ∈ cm_all := cm_inT (cm_t8 _ (List.mem_of_getElem? (i := 107) rfl)) rfl
theorem kl_RX11_317 : Cond.methodLink RX11 317 yX11_warns ∈ cm_all := cm_inT (cm_t8 _ (List.mem_of_getElem? (i := 108) rfl)) rfl
theorem kv_X11_warns : Cond.instanceMethod yX11_warns ∈ cm_all := cm_inT (cm_t8 _ (List.mem_of_getElem? (i := 110) rfl)) rfl
theorem kc_X11_warns : Cond.code yX11_warns cX11_warns 3 none ∈ cm_all := cm_inT (cm_t8 _ (List.mem_of_getElem? (i := 111) rfl)) rfl
theorem kl_RX11_305 : Cond.methodLink RX11 305 yX11_warningNow ∈ cm_all := cm_inT (cm_t8 _ (List.mem_of_getElem? (i := 112) rfl)) rfl
theorem kv_X11_warningNow : Cond.instanceMethod yX11_warningNow ∈ cm_all := cm_inT (cm_t8 _ (List.mem_of_getElem? (i := 114) rfl)) rfl
theorem kc_X11_warningNow : Cond.code yX11_warningNow cX11_warningNow 2 (some .int) ∈ cm_all := cm_inT (cm_t8 _ (List.mem_of_getElem? (i := 115) rfl)) rfl
theorem kl_RX11_282 : Cond.methodLink RX11 282 yX11_notes ∈ cm_all := cm_inT (cm_t8 _ (List.mem_of_getElem? (i := 116) rfl)) rfl
theorem kv_X11_notes : Cond.instanceMethod yX11_notes ∈ cm_all := cm_inT (cm_t8 _ (List.mem_of_getElem? (i := 118) rfl)) rfl
theorem kc_X11_notes : Cond.code yX11_notes cX11_notes 5 none ∈ cm_all := cm_inT (cm_t8 _ (List.mem_of_getElem? (i := 119) rfl)) rfl
theorem kl_RX11_320 : Cond.methodLink RX11 320 yX11_watches ∈ cm_all := cm_inT (cm_t8 _ (List.mem_of_getElem? (i := 120) rfl)) rfl
theorem kv_X11_watches : Cond.instanceMethod yX11_watches ∈ cm_all := cm_inT (cm_t8 _ (List.mem_of_getElem? (i := 122) rfl)) rfl
theorem kc_X11_watches : Cond.code yX11_watches cX11_watches 3 none ∈ cm_all := cm_inT (cm_t8 _ (List.mem_of_getElem? (i := 123) rfl)) rfl
theorem kl_RX11_294 : Cond.methodLink RX11 294 yX11_reasonNow ∈ cm_all := cm_inT (cm_t8 _ (List.mem_of_getElem? (i := 124) rfl)) rfl
theorem kv_X11_reasonNow : Cond.instanceMethod yX11_reasonNow ∈ cm_all := cm_inT (cm_t8 _ (List.mem_of_getElem? (i := 126) rfl)) rfl
theorem kc_X11_reasonNow : Cond.code yX11_reasonNow cX11_reasonNow 2 (some .int) ∈ cm_all := cm_inT (cm_t8 _ (List.mem_of_getElem? (i := 127) rfl)) rfl
theorem kl_RX11_258 : Cond.methodLink RX11 258 yX11_isOver ∈ cm_all := cm_inT (cm_t8 _ (List.mem_of_getElem? (i := 128) rfl)) rfl
theorem kv_X11_isOver : Cond.instanceMethod yX11_isOver ∈ cm_all := cm_inT (cm_t8 _ (List.mem_of_getElem? (i := 130) rfl)) rfl
theorem kc_X11_isOver : Cond.code yX11_isOver cX11_isOver 2 (some .boolean) ∈ cm_all := cm_inT (cm_t8 _ (List.mem_of_getElem? (i := 131) rfl)) rfl
theorem kl_RX11_297 : Cond.methodLink RX11 297 yX11_ends ∈ cm_all := cm_inT (cm_t8 _ (List.mem_of_getElem? (i := 132) rfl)) rfl
theorem kv_X11_ends : Cond.instanceMethod yX11_ends ∈ cm_all := cm_inT (cm_t8 _ (List.mem_of_getElem? (i := 134) rfl)) rfl
theorem kc_X11_ends : Cond.code yX11_ends cX11_ends 4 none ∈ cm_all := cm_inT (cm_t8 _ (List.mem_of_getElem? (i := 135) rfl)) rfl
