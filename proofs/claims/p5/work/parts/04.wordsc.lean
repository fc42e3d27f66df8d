/-! words of the tables, by name -/
theorem kl_RX11_268 : Cond.methodLink RX11 268 yX11_records ∈ cm_all := cm_inT (cm_t8 _ (List.mem_of_getElem? (i := 136) rfl)) rfl
theorem kv_X11_records : Cond.instanceMethod yX11_records ∈ cm_all := cm_inT (cm_t8 _ (List.mem_of_getElem? (i := 138) rfl)) rfl
theorem kc_X11_records : Cond.code yX11_records cX11_records 4 none ∈ cm_all := cm_inT (cm_t8 _ (List.mem_of_getElem? (i := 139) rfl)) rfl
theorem kl_RX11_261 : Cond.methodLink RX11 261 yX11_sum ∈ cm_all := cm_inT (cm_t8 _ (List.mem_of_getElem? (i := 140) rfl)) rfl
theorem kv_X11_sum : Cond.instanceMethod yX11_sum ∈ cm_all := cm_inT (cm_t8 _ (List.mem_of_getElem? (i := 142) rfl)) rfl
theorem kc_X11_sum : Cond.code yX11_sum cX11_sum 3 (some .long) ∈ cm_all := cm_inT (cm_t8 _ (List.mem_of_getElem? (i := 143) rfl)) rfl
theorem kl_RX11_272 : Cond.methodLink RX11 272 yX11_clears ∈ cm_all := cm_inT (cm_t8 _ (List.mem_of_getElem? (i := 144) rfl)) rfl
theorem kv_X11_clears : Cond.instanceMethod yX11_clears ∈ cm_all := cm_inT (cm_t8 _ (List.mem_of_getElem? (i := 146) rfl)) rfl
theorem kc_X11_clears : Cond.code yX11_clears cX11_clears 2 none ∈ cm_all := cm_inT (cm_t8 _ (List.mem_of_getElem? (i := 147) rfl)) rfl
theorem kl_RX11_265 : Cond.methodLink RX11 265 yX11_putSum ∈ cm_all := cm_inT (cm_t8 _ (List.mem_of_getElem? (i := 148) rfl)) rfl
theorem kv_X11_putSum : Cond.instanceMethod yX11_putSum ∈ cm_all := cm_inT (cm_t8 _ (List.mem_of_getElem? (i := 150) rfl)) rfl
theorem kc_X11_putSum : Cond.code yX11_putSum cX11_putSum 5 none ∈ cm_all := cm_inT (cm_t8 _ (List.mem_of_getElem? (i := 151) rfl)) rfl
theorem kl_RX11_291 : Cond.methodLink RX11 291 yX11_comes ∈ cm_all := cm_inT (cm_t8 _ (List.mem_of_getElem? (i := 152) rfl)) rfl
theorem kv_X11_comes : Cond.instanceMethod yX11_comes ∈ cm_all := cm_inT (cm_t8 _ (List.mem_of_getElem? (i := 154) rfl)) rfl
theorem kc_X11_comes : Cond.code yX11_comes cX11_comes 6 none ∈ cm_all := cm_inT (cm_t8 _ (List.mem_of_getElem? (i := 155) rfl)) rfl
theorem kl_RX11_279 : Cond.methodLink RX11 279 yX11_comesToEnd ∈ cm_all := cm_inT (cm_t8 _ (List.mem_of_getElem? (i := 156) rfl)) rfl
theorem kv_X11_comesToEnd : Cond.instanceMethod yX11_comesToEnd ∈ cm_all := cm_inT (cm_t8 _ (List.mem_of_getElem? (i := 158) rfl)) rfl
theorem kc_X11_comesToEnd : Cond.code yX11_comesToEnd cX11_comesToEnd 2 none ∈ cm_all := cm_inT (cm_t8 _ (List.mem_of_getElem? (i := 159) rfl)) rfl
theorem kl_RX11_285 : Cond.methodLink RX11 285 yX11_leavesQueue ∈ cm_all := cm_inT (cm_t8 _ (List.mem_of_getElem? (i := 160) rfl)) rfl
theorem kv_X11_leavesQueue : Cond.instanceMethod yX11_leavesQueue ∈ cm_all := cm_inT (cm_t8 _ (List.mem_of_getElem? (i := 162) rfl)) rfl
theorem kc_X11_leavesQueue : Cond.code yX11_leavesQueue cX11_leavesQueue 4 (some .int) ∈ cm_all := cm_inT (cm_t8 _ (List.mem_of_getElem? (i := 163) rfl)) rfl
theorem kl_RX11_288 : Cond.methodLink RX11 288 yX11_startsOn ∈ cm_all := cm_inT (cm_t8 _ (List.mem_of_getElem? (i := 164) rfl)) rfl
theorem kv_X11_startsOn : Cond.instanceMethod yX11_startsOn ∈ cm_all := cm_inT (cm_t8 _ (List.mem_of_getElem? (i := 166) rfl)) rfl
theorem kc_X11_startsOn : Cond.code yX11_startsOn cX11_startsOn 4 none ∈ cm_all := cm_inT (cm_t8 _ (List.mem_of_getElem? (i := 167) rfl)) rfl
theorem kl_RL_228 : Cond.methodLink RL 228 yX11_start ∈ cm_all := cm_inT (cm_t8 _ (List.mem_of_getElem? (i := 168) rfl)) rfl
theorem kv_X11_start : Cond.instanceMethod yX11_start ∈ cm_all := cm_inT (cm_t8 _ (List.mem_of_getElem? (i := 169) rfl)) rfl
theorem kx_X11_start : Cond.selects yX11_start.cls yX11_start yX11_start ∈ cm_all := cm_inT (cm_t8 _ (List.mem_of_getElem? (i := 170) rfl)) rfl
theorem kc_X11_start : Cond.code yX11_start cX11_start 5 (some .int) ∈ cm_all := cm_inT (cm_t8 _ (List.mem_of_getElem? (i := 171) rfl)) rfl
theorem kl_RX11_347 : Cond.methodLink RX11 347 yX11_noProgram ∈ cm_all := cm_inT (cm_t8 _ (List.mem_of_getElem? (i := 172) rfl)) rfl
theorem kv_X11_noProgram : Cond.instanceMethod yX11_noProgram ∈ cm_all := cm_inT (cm_t8 _ (List.mem_of_getElem? (i := 174) rfl)) rfl
theorem kc_X11_noProgram : Cond.code yX11_noProgram cX11_noProgram 3 (some .boolean) ∈ cm_all := cm_inT (cm_t8 _ (List.mem_of_getElem? (i := 175) rfl)) rfl
theorem kl_RX11_344 : Cond.methodLink RX11 344 yX11_noChannel ∈ cm_all := cm_inT (cm_t8 _ (List.mem_of_getElem? (i := 176) rfl)) rfl
theorem kv_X11_noChannel : Cond.instanceMethod yX11_noChannel ∈ cm_all := cm_inT (cm_t8 _ (List.mem_of_getElem? (i := 178) rfl)) rfl
theorem kc_X11_noChannel : Cond.code yX11_noChannel cX11_noChannel 2 (some .boolean) ∈ cm_all := cm_inT (cm_t8 _ (List.mem_of_getElem? (i := 179) rfl)) rfl
theorem kl_RX11_350 : Cond.methodLink RX11 350 yX11_isIn ∈ cm_all := cm_inT (cm_t8 _ (List.mem_of_getElem? (i := 180) rfl)) rfl
theorem kv_X11_isIn : Cond.instanceMethod yX11_isIn ∈ cm_all := cm_inT (cm_t8 _ (List.mem_of_getElem? (i := 182) rfl)) rfl
theorem kc_X11_isIn : Cond.code yX11_isIn cX11_isIn 3 (some .boolean) ∈ cm_all := cm_inT (cm_t8 _ (List.mem_of_getElem? (i := 183) rfl)) rfl
theorem kl_RL_231 : Cond.methodLink RL 231 yX11_pause ∈ cm_all := cm_inT (cm_t8 _ (List.mem_of_getElem? (i := 184) rfl)) rfl
theorem kv_X11_pause : Cond.instanceMethod yX11_pause ∈ cm_all := cm_inT (cm_t8 _ (List.mem_of_getElem? (i := 185) rfl)) rfl
theorem kx_X11_pause : Cond.selects yX11_pause.cls yX11_pause yX11_pause ∈ cm_all := cm_inT (cm_t8 _ (List.mem_of_getElem? (i := 186) rfl)) rfl
theorem kc_X11_pause : Cond.code yX11_pause cX11_pause 2 (some .int) ∈ cm_all := cm_inT (cm_t8 _ (List.mem_of_getElem? (i := 187) rfl)) rfl
theorem kl_RX11_353 : Cond.methodLink RX11 353 yX11_turns ∈ cm_all := cm_inT (cm_t8 _ (List.mem_of_getElem? (i := 188) rfl)) rfl
theorem kv_X11_turns : Cond.instanceMethod yX11_turns ∈ cm_all := cm_inT (cm_t8 _ (List.mem_of_getElem? (i := 190) rfl)) rfl
theorem kc_X11_turns : Cond.code yX11_turns cX11_turns 4 (some .int) ∈ cm_all := cm_inT (cm_t8 _ (List.mem_of_getElem? (i := 191) rfl)) rfl
theorem kl_RL_234 : Cond.methodLink RL 234 yX11_resume ∈ cm_all := cm_inT (cm_t8 _ (List.mem_of_getElem? (i := 192) rfl)) rfl
theorem kv_X11_resume : Cond.instanceMethod yX11_resume ∈ cm_all := cm_inT (cm_t8 _ (List.mem_of_getElem? (i := 193) rfl)) rfl
theorem kx_X11_resume : Cond.selects yX11_resume.cls yX11_resume yX11_resume ∈ cm_all := cm_inT (cm_t8 _ (List.mem_of_getElem? (i := 194) rfl)) rfl
theorem kc_X11_resume : Cond.code yX11_resume cX11_resume 2 (some .int) ∈ cm_all := cm_inT (cm_t8 _ (List.mem_of_getElem? (i := 195) rfl)) rfl
theorem kl_RL_237 : Cond.methodLink RL 237 yX11_stop ∈ cm_all := cm_inT (cm_t8 _ (List.mem_of_getElem? (i := 196) rfl)) rfl
theorem kv_X11_stop : Cond.instanceMethod yX11_stop ∈ cm_all := cm_inT (cm_t8 _ (List.mem_of_getElem? (i := 197) rfl)) rfl
theorem kx_X11_stop : Cond.selects yX11_stop.cls yX11_stop yX11_stop ∈ cm_all := cm_inT (cm_t8 _ (List.mem_of_getElem? (i := 198) rfl)) rfl
theorem kc_X11_stop : Cond.code yX11_stop cX11_stop 3 (some .int) ∈ cm_all := cm_inT (cm_t8 _ (List.mem_of_getElem? (i := 199) rfl)) rfl
theorem kl_RL_240 : Cond.methodLink RL 240 yX11_skip ∈ cm_all := cm_inT (cm_t8 _ (List.mem_of_getElem? (i := 200) rfl)) rfl
theorem kv_X11_skip : Cond.instanceMethod yX11_skip ∈ cm_all := cm_inT (cm_t8 _ (List.mem_of_getElem? (i := 201) rfl)) rfl
theorem kx_X11_skip : Cond.selects yX11_skip.cls yX11_skip yX11_skip ∈ cm_all := cm_inT (cm_t8 _ (List.mem_of_getElem? (i := 202) rfl)) rfl
theorem kc_X11_skip : Cond.code yX11_skip cX11_skip 2 (some .int) ∈ cm_all := cm_inT (cm_t8 _ (List.mem_of_getElem? (i := 203) rfl)) rfl
theorem kl_RL_243 : Cond.methodLink RL 243 yX11_replace ∈ cm_all := cm_inT (cm_t8 _ (List.mem_of_getElem? (i := 204) rfl)) rfl
theorem kv_X11_replace : Cond.instanceMethod yX11_replace ∈ cm_all := cm_inT (cm_t8 _ (List.mem_of_getElem? (i := 205) rfl)) rfl
theorem kx_X11_replace : Cond.selects yX11_replace.cls yX11_replace yX11_replace ∈ cm_all := cm_inT (cm_t8 _ (List.mem_of_getElem? (i := 206) rfl)) rfl
theorem kc_X11_replace : Cond.code yX11_replace cX11_replace 5 (some .int) ∈ cm_all := cm_inT (cm_t8 _ (List.mem_of_getElem? (i := 207) rfl)) rfl
theorem kl_RL_246 : Cond.methodLink RL 246 yX11_enqueue ∈ cm_all := cm_inT (cm_t8 _ (List.mem_of_getElem? (i := 208) rfl)) rfl
theorem kv_X11_enqueue : Cond.instanceMethod yX11_enqueue ∈ cm_all := cm_inT (cm_t8 _ (List.mem_of_getElem? (i := 209) rfl)) rfl
theorem kx_X11_enqueue : Cond.selects yX11_enqueue.cls yX11_enqueue yX11_enqueue ∈ cm_all := cm_inT (cm_t8 _ (List.mem_of_getElem? (i := 210) rfl)) rfl
theorem kc_X11_enqueue : Cond.code yX11_enqueue cX11_enqueue 3 (some .int) ∈ cm_all := cm_inT (cm_t8 _ (List.mem_of_getElem? (i := 211) rfl)) rfl
theorem kl_RL_249 : Cond.methodLink RL 249 yX11_dequeue ∈ cm_all := cm_inT (cm_t8 _ (List.mem_of_getElem? (i := 212) rfl)) rfl
theorem kv_X11_dequeue : Cond.instanceMethod yX11_dequeue ∈ cm_all := cm_inT (cm_t8 _ (List.mem_of_getElem? (i := 213) rfl)) rfl
theorem kx_X11_dequeue : Cond.selects yX11_dequeue.cls yX11_dequeue yX11_dequeue ∈ cm_all := cm_inT (cm_t8 _ (List.mem_of_getElem? (i := 214) rfl)) rfl
theorem kc_X11_dequeue : Cond.code yX11_dequeue cX11_dequeue 2 (some .int) ∈ cm_all := cm_inT (cm_t8 _ (List.mem_of_getElem? (i := 215) rfl)) rfl
theorem kl_RL_252 : Cond.methodLink RL 252 yX11_startNext ∈ cm_all := cm_inT (cm_t8 _ (List.mem_of_getElem? (i := 216) rfl)) rfl
theorem kv_X11_startNext : Cond.instanceMethod yX11_startNext ∈ cm_all := cm_inT (cm_t8 _ (List.mem_of_getElem? (i := 217) rfl)) rfl
theorem kx_X11_startNext : Cond.selects yX11_startNext.cls yX11_startNext yX11_startNext ∈ cm_all := cm_inT (cm_t8 _ (List.mem_of_getElem? (i := 218) rfl)) rfl
theorem kc_X11_startNext : Cond.code yX11_startNext cX11_startNext 3 (some .int) ∈ cm_all := cm_inT (cm_t8 _ (List.mem_of_getElem? (i := 219) rfl)) rfl
theorem kl_RL_255 : Cond.methodLink RL 255 yX11_queueAt ∈ cm_all := cm_inT (cm_t8 _ (List.mem_of_getElem? (i := 220) rfl)) rfl
theorem kv_X11_queueAt : Cond.instanceMethod yX11_queueAt ∈ cm_all := cm_inT (cm_t8 _ (List.mem_of_getElem? (i := 221) rfl)) rfl
theorem kx_X11_queueAt : Cond.selects yX11_queueAt.cls yX11_queueAt yX11_queueAt ∈ cm_all := cm_inT (cm_t8 _ (List.mem_of_getElem? (i := 222) rfl)) rfl
theorem kc_X11_queueAt : Cond.code yX11_queueAt cX11_queueAt 3 (some .int) ∈ cm_all := cm_inT (cm_t8 _ (List.mem_of_getElem? (i := 223) rfl)) rfl
theorem kl_RL_258 : Cond.methodLink RL 258 yX11_queueSize ∈ cm_all := cm_inT (cm_t8 _ (List.mem_of_getElem? (i := 224) rfl)) rfl
theorem kv_X11_queueSize : Cond.instanceMethod yX11_queueSize ∈ cm_all := cm_inT (cm_t8 _ (List.mem_of_getElem? (i := 225) rfl)) rfl
theorem kx_X11_queueSize : Cond.selects yX11_queueSize.cls yX11_queueSize yX11_queueSize ∈ cm_all := cm_inT (cm_t8 _ (List.mem_of_getElem? (i := 226) rfl)) rfl
theorem kc_X11_queueSize : Cond.code yX11_queueSize cX11_queueSize 2 (some .int) ∈ cm_all := cm_inT (cm_t8 _ (List.mem_of_getElem? (i := 227) rfl)) rfl
theorem kl_RL_292 : Cond.methodLink RL 292 yX11_internalResistance ∈ cm_all := cm_inT (cm_t8 _ (List.mem_of_getElem? (i := 228) rfl)) rfl
theorem kv_X11_internalResistance : Cond.instanceMethod yX11_internalResistance ∈ cm_all := cm_inT (cm_t8 _ (List.mem_of_getElem? (i := 229) rfl)) rfl
theorem kx_X11_internalResistance : Cond.selects yX11_internalResistance.cls yX11_internalResistance yX11_internalResistance ∈ cm_all := cm_inT (cm_t8 _ (List.mem_of_getElem? (i := 230) rfl)) rfl
theorem kc_X11_internalResistance : Cond.code yX11_internalResistance cX11_internalResistance 2 (some .int) ∈ cm_all := cm_inT (cm_t8 _ (List.mem_of_getElem? (i := 231) rfl)) rfl
theorem kl_RL_295 : Cond.methodLink RL 295 yX11_ticksIn ∈ cm_all := cm_inT (cm_t8 _ (List.mem_of_getElem? (i := 232) rfl)) rfl
theorem kv_X11_ticksIn : Cond.instanceMethod yX11_ticksIn ∈ cm_all := cm_inT (cm_t8 _ (List.mem_of_getElem? (i := 233) rfl)) rfl
theorem kx_X11_ticksIn : Cond.selects yX11_ticksIn.cls yX11_ticksIn yX11_ticksIn ∈ cm_all := cm_inT (cm_t8 _ (List.mem_of_getElem? (i := 234) rfl)) rfl
theorem kc_X11_ticksIn : Cond.code yX11_ticksIn cX11_ticksIn 3 (some .int) ∈ cm_all := cm_inT (cm_t8 _ (List.mem_of_getElem? (i := 235) rfl)) rfl
theorem kl_RX11_356 : Cond.constantLong RX11 356 (9) ∈ cm_all := cm_inT (cm_t8 _ (List.mem_of_getElem? (i := 236) rfl)) rfl
theorem kl_RL_298 : Cond.methodLink RL 298 yX11_warnings ∈ cm_all := cm_inT (cm_t8 _ (List.mem_of_getElem? (i := 237) rfl)) rfl
theorem kv_X11_warnings : Cond.instanceMethod yX11_warnings ∈ cm_all := cm_inT (cm_t8 _ (List.mem_of_getElem? (i := 238) rfl)) rfl
theorem kx_X11_warnings : Cond.selects yX11_warnings.cls yX11_warnings yX11_warnings ∈ cm_all := cm_inT (cm_t8 _ (List.mem_of_getElem? (i := 239) rfl)) rfl
theorem kc_X11_warnings : Cond.code yX11_warnings cX11_warnings 2 (some .int) ∈ cm_all := cm_inT (cm_t9 _ (List.mem_of_getElem? (i := 0) rfl)) rfl
theorem kl_RL_301 : Cond.methodLink RL 301 yX11_warned ∈ cm_all := cm_inT (cm_t9 _ (List.mem_of_getElem? (i := 1) rfl)) rfl
theorem kv_X11_warned : Cond.instanceMethod yX11_warned ∈ cm_all := cm_inT (cm_t9 _ (List.mem_of_getElem? (i := 2) rfl)) rfl
theorem kx_X11_warned : Cond.selects yX11_warned.cls yX11_warned yX11_warned ∈ cm_all := cm_inT (cm_t9 _ (List.mem_of_getElem? (i := 3) rfl)) rfl
theorem kc_X11_warned : Cond.code yX11_warned cX11_warned 2 (some .int) ∈ cm_all := cm_inT (cm_t9 _ (List.mem_of_getElem? (i := 4) rfl)) rfl
theorem kl_RL_332 : Cond.methodLink RL 332 yX11_logSize ∈ cm_all := cm_inT (cm_t9 _ (List.mem_of_getElem? (i := 5) rfl)) rfl
theorem kv_X11_logSize : Cond.instanceMethod yX11_logSize ∈ cm_all := cm_inT (cm_t9 _ (List.mem_of_getElem? (i := 6) rfl)) rfl
theorem kx_X11_logSize : Cond.selects yX11_logSize.cls yX11_logSize yX11_logSize ∈ cm_all := cm_inT (cm_t9 _ (List.mem_of_getElem? (i := 7) rfl)) rfl
theorem kc_X11_logSize : Cond.code yX11_logSize cX11_logSize 1 (some .int) ∈ cm_all := cm_inT (cm_t9 _ (List.mem_of_getElem? (i := 8) rfl)) rfl
theorem kl_RL_335 : Cond.methodLink RL 335 yX11_logEntry ∈ cm_all := cm_inT (cm_t9 _ (List.mem_of_getElem? (i := 9) rfl)) rfl
theorem kv_X11_logEntry : Cond.instanceMethod yX11_logEntry ∈ cm_all := cm_inT (cm_t9 _ (List.mem_of_getElem? (i := 10) rfl)) rfl
theorem kx_X11_logEntry : Cond.selects yX11_logEntry.cls yX11_logEntry yX11_logEntry ∈ cm_all := cm_inT (cm_t9 _ (List.mem_of_getElem? (i := 11) rfl)) rfl
theorem kc_X11_logEntry : Cond.code yX11_logEntry cX11_logEntry 3 (some .int) ∈ cm_all := cm_inT (cm_t9 _ (List.mem_of_getElem? (i := 12) rfl)) rfl
theorem kl_RX11_358 : Cond.constantLong RX11 358 (3) ∈ cm_all := cm_inT (cm_t9 _ (List.mem_of_getElem? (i := 13) rfl)) rfl
theorem kl_RL_338 : Cond.methodLink RL 338 yX11_eventsOf ∈ cm_all := cm_inT (cm_t9 _ (List.mem_of_getElem? (i := 14) rfl)) rfl
theorem kv_X11_eventsOf : Cond.instanceMethod yX11_eventsOf ∈ cm_all := cm_inT (cm_t9 _ (List.mem_of_getElem? (i := 15) rfl)) rfl
theorem kx_X11_eventsOf : Cond.selects yX11_eventsOf.cls yX11_eventsOf yX11_eventsOf ∈ cm_all := cm_inT (cm_t9 _ (List.mem_of_getElem? (i := 16) rfl)) rfl
theorem kc_X11_eventsOf : Cond.code yX11_eventsOf cX11_eventsOf 5 (some .int) ∈ cm_all := cm_inT (cm_t9 _ (List.mem_of_getElem? (i := 17) rfl)) rfl
theorem kl_RX11_360 : Cond.constantLong RX11 360 (5) ∈ cm_all := cm_inT (cm_t9 _ (List.mem_of_getElem? (i := 18) rfl)) rfl
theorem kl_RL_261 : Cond.methodLink RL 261 yX11_value ∈ cm_all := cm_inT (cm_t9 _ (List.mem_of_getElem? (i := 19) rfl)) rfl
theorem kv_X11_value : Cond.instanceMethod yX11_value ∈ cm_all := cm_inT (cm_t9 _ (List.mem_of_getElem? (i := 20) rfl)) rfl
theorem kx_X11_value : Cond.selects yX11_value.cls yX11_value yX11_value ∈ cm_all := cm_inT (cm_t9 _ (List.mem_of_getElem? (i := 21) rfl)) rfl
theorem kc_X11_value : Cond.code yX11_value cX11_value 3 (some .int) ∈ cm_all := cm_inT (cm_t9 _ (List.mem_of_getElem? (i := 22) rfl)) rfl
theorem kl_RL_264 : Cond.methodLink RL 264 yX11_restVoltage ∈ cm_all := cm_inT (cm_t9 _ (List.mem_of_getElem? (i := 23) rfl)) rfl
theorem kv_X11_restVoltage : Cond.instanceMethod yX11_restVoltage ∈ cm_all := cm_inT (cm_t9 _ (List.mem_of_getElem? (i := 24) rfl)) rfl
theorem kx_X11_restVoltage : Cond.selects yX11_restVoltage.cls yX11_restVoltage yX11_restVoltage ∈ cm_all := cm_inT (cm_t9 _ (List.mem_of_getElem? (i := 25) rfl)) rfl
theorem kc_X11_restVoltage : Cond.code yX11_restVoltage cX11_restVoltage 3 (some .int) ∈ cm_all := cm_inT (cm_t9 _ (List.mem_of_getElem? (i := 26) rfl)) rfl
theorem kl_RX11_362 : Cond.constantLong RX11 362 (200000) ∈ cm_all := cm_inT (cm_t9 _ (List.mem_of_getElem? (i := 27) rfl)) rfl
theorem kl_RL_267 : Cond.methodLink RL 267 yX11_chargeFor ∈ cm_all := cm_inT (cm_t9 _ (List.mem_of_getElem? (i := 28) rfl)) rfl
theorem kv_X11_chargeFor : Cond.instanceMethod yX11_chargeFor ∈ cm_all := cm_inT (cm_t9 _ (List.mem_of_getElem? (i := 29) rfl)) rfl
theorem kx_X11_chargeFor : Cond.selects yX11_chargeFor.cls yX11_chargeFor yX11_chargeFor ∈ cm_all := cm_inT (cm_t9 _ (List.mem_of_getElem? (i := 30) rfl)) rfl
theorem kc_X11_chargeFor : Cond.code yX11_chargeFor cX11_chargeFor 6 (some .int) ∈ cm_all := cm_inT (cm_t9 _ (List.mem_of_getElem? (i := 31) rfl)) rfl
theorem kl_RL_270 : Cond.methodLink RL 270 yX11_filling ∈ cm_all := cm_inT (cm_t9 _ (List.mem_of_getElem? (i := 32) rfl)) rfl
theorem kv_X11_filling : Cond.instanceMethod yX11_filling ∈ cm_all := cm_inT (cm_t9 _ (List.mem_of_getElem? (i := 33) rfl)) rfl
theorem kx_X11_filling : Cond.selects yX11_filling.cls yX11_filling yX11_filling ∈ cm_all := cm_inT (cm_t9 _ (List.mem_of_getElem? (i := 34) rfl)) rfl
theorem kc_X11_filling : Cond.code yX11_filling cX11_filling 2 (some .int) ∈ cm_all := cm_inT (cm_t9 _ (List.mem_of_getElem? (i := 35) rfl)) rfl
theorem kl_RL_273 : Cond.methodLink RL 273 yX11_ledger ∈ cm_all := cm_inT (cm_t9 _ (List.mem_of_getElem? (i := 36) rfl)) rfl
theorem kv_X11_ledger : Cond.instanceMethod yX11_ledger ∈ cm_all := cm_inT (cm_t9 _ (List.mem_of_getElem? (i := 37) rfl)) rfl
theorem kx_X11_ledger : Cond.selects yX11_ledger.cls yX11_ledger yX11_ledger ∈ cm_all := cm_inT (cm_t9 _ (List.mem_of_getElem? (i := 38) rfl)) rfl
theorem kc_X11_ledger : Cond.code yX11_ledger cX11_ledger 3 (some .long) ∈ cm_all := cm_inT (cm_t9 _ (List.mem_of_getElem? (i := 39) rfl)) rfl
theorem kl_RX11_364 : Cond.constantLong RX11 364 (4) ∈ cm_all := cm_inT (cm_t9 _ (List.mem_of_getElem? (i := 40) rfl)) rfl
theorem kl_RL_277 : Cond.methodLink RL 277 yX11_chargeEfficiency ∈ cm_all := cm_inT (cm_t9 _ (List.mem_of_getElem? (i := 41) rfl)) rfl
theorem kv_X11_chargeEfficiency : Cond.instanceMethod yX11_chargeEfficiency ∈ cm_all := cm_inT (cm_t9 _ (List.mem_of_getElem? (i := 42) rfl)) rfl
theorem kx_X11_chargeEfficiency : Cond.selects yX11_chargeEfficiency.cls yX11_chargeEfficiency yX11_chargeEfficiency ∈ cm_all := cm_inT (cm_t9 _ (List.mem_of_getElem? (i := 43) rfl)) rfl
theorem kc_X11_chargeEfficiency : Cond.code yX11_chargeEfficiency cX11_chargeEfficiency 2 (some .float) ∈ cm_all := cm_inT (cm_t9 _ (List.mem_of_getElem? (i := 44) rfl)) rfl
theorem kl_RL_280 : Cond.methodLink RL 280 yX11_energyEfficiency ∈ cm_all := cm_inT (cm_t9 _ (List.mem_of_getElem? (i := 45) rfl)) rfl
theorem kv_X11_energyEfficiency : Cond.instanceMethod yX11_energyEfficiency ∈ cm_all := cm_inT (cm_t9 _ (List.mem_of_getElem? (i := 46) rfl)) rfl
theorem kx_X11_energyEfficiency : Cond.selects yX11_energyEfficiency.cls yX11_energyEfficiency yX11_energyEfficiency ∈ cm_all := cm_inT (cm_t9 _ (List.mem_of_getElem? (i := 47) rfl)) rfl
theorem kc_X11_energyEfficiency : Cond.code yX11_energyEfficiency cX11_energyEfficiency 2 (some .double) ∈ cm_all := cm_inT (cm_t9 _ (List.mem_of_getElem? (i := 48) rfl)) rfl
theorem kl_RL_283 : Cond.methodLink RL 283 yX11_power ∈ cm_all := cm_inT (cm_t9 _ (List.mem_of_getElem? (i := 49) rfl)) rfl
theorem kv_X11_power : Cond.instanceMethod yX11_power ∈ cm_all := cm_inT (cm_t9 _ (List.mem_of_getElem? (i := 50) rfl)) rfl
theorem kx_X11_power : Cond.selects yX11_power.cls yX11_power yX11_power ∈ cm_all := cm_inT (cm_t9 _ (List.mem_of_getElem? (i := 51) rfl)) rfl
theorem kc_X11_power : Cond.code yX11_power cX11_power 2 (some .int) ∈ cm_all := cm_inT (cm_t9 _ (List.mem_of_getElem? (i := 52) rfl)) rfl
theorem kl_RL_286 : Cond.methodLink RL 286 yX11_measuredRest ∈ cm_all := cm_inT (cm_t9 _ (List.mem_of_getElem? (i := 53) rfl)) rfl
theorem kv_X11_measuredRest : Cond.instanceMethod yX11_measuredRest ∈ cm_all := cm_inT (cm_t9 _ (List.mem_of_getElem? (i := 54) rfl)) rfl
theorem kx_X11_measuredRest : Cond.selects yX11_measuredRest.cls yX11_measuredRest yX11_measuredRest ∈ cm_all := cm_inT (cm_t9 _ (List.mem_of_getElem? (i := 55) rfl)) rfl
theorem kc_X11_measuredRest : Cond.code yX11_measuredRest cX11_measuredRest 2 (some .int) ∈ cm_all := cm_inT (cm_t9 _ (List.mem_of_getElem? (i := 56) rfl)) rfl
theorem kl_RL_289 : Cond.methodLink RL 289 yX11_capacityByRule ∈ cm_all := cm_inT (cm_t9 _ (List.mem_of_getElem? (i := 57) rfl)) rfl
theorem kv_X11_capacityByRule : Cond.instanceMethod yX11_capacityByRule ∈ cm_all := cm_inT (cm_t9 _ (List.mem_of_getElem? (i := 58) rfl)) rfl
theorem kx_X11_capacityByRule : Cond.selects yX11_capacityByRule.cls yX11_capacityByRule yX11_capacityByRule ∈ cm_all := cm_inT (cm_t9 _ (List.mem_of_getElem? (i := 59) rfl)) rfl
theorem kc_X11_capacityByRule : Cond.code yX11_capacityByRule cX11_capacityByRule 2 (some .int) ∈ cm_all := cm_inT (cm_t9 _ (List.mem_of_getElem? (i := 60) rfl)) rfl
theorem kl_RL_304 : Cond.methodLink RL 304 yX11_repeats ∈ cm_all := cm_inT (cm_t9 _ (List.mem_of_getElem? (i := 61) rfl)) rfl
theorem kv_X11_repeats : Cond.instanceMethod yX11_repeats ∈ cm_all := cm_inT (cm_t9 _ (List.mem_of_getElem? (i := 62) rfl)) rfl
theorem kx_X11_repeats : Cond.selects yX11_repeats.cls yX11_repeats yX11_repeats ∈ cm_all := cm_inT (cm_t9 _ (List.mem_of_getElem? (i := 63) rfl)) rfl
theorem kc_X11_repeats : Cond.code yX11_repeats cX11_repeats 4 (some .int) ∈ cm_all := cm_inT (cm_t9 _ (List.mem_of_getElem? (i := 64) rfl)) rfl
theorem kl_RL_307 : Cond.methodLink RL 307 yX11_inState ∈ cm_all := cm_inT (cm_t9 _ (List.mem_of_getElem? (i := 65) rfl)) rfl
theorem kv_X11_inState : Cond.instanceMethod yX11_inState ∈ cm_all := cm_inT (cm_t9 _ (List.mem_of_getElem? (i := 66) rfl)) rfl
theorem kx_X11_inState : Cond.selects yX11_inState.cls yX11_inState yX11_inState ∈ cm_all := cm_inT (cm_t9 _ (List.mem_of_getElem? (i := 67) rfl)) rfl
theorem kc_X11_inState : Cond.code yX11_inState cX11_inState 4 (some .int) ∈ cm_all := cm_inT (cm_t9 _ (List.mem_of_getElem? (i := 68) rfl)) rfl
theorem kl_RL_311 : Cond.methodLink RL 311 yX11_weakest ∈ cm_all := cm_inT (cm_t9 _ (List.mem_of_getElem? (i := 69) rfl)) rfl
theorem kv_X11_weakest : Cond.instanceMethod yX11_weakest ∈ cm_all := cm_inT (cm_t9 _ (List.mem_of_getElem? (i := 70) rfl)) rfl
theorem kx_X11_weakest : Cond.selects yX11_weakest.cls yX11_weakest yX11_weakest ∈ cm_all := cm_inT (cm_t9 _ (List.mem_of_getElem? (i := 71) rfl)) rfl
theorem kc_X11_weakest : Cond.code yX11_weakest cX11_weakest 3 (some .int) ∈ cm_all := cm_inT (cm_t9 _ (List.mem_of_getElem? (i := 72) rfl)) rfl
theorem kl_RX11_366 : Cond.methodLink RX11 366 yX11_share ∈ cm_all := cm_inT (cm_t9 _ (List.mem_of_getElem? (i := 73) rfl)) rfl
theorem kv_X11_share : Cond.instanceMethod yX11_share ∈ cm_all := cm_inT (cm_t9 _ (List.mem_of_getElem? (i := 75) rfl)) rfl
theorem kc_X11_share : Cond.code yX11_share cX11_share 2 (some .int) ∈ cm_all := cm_inT (cm_t9 _ (List.mem_of_getElem? (i := 76) rfl)) rfl
theorem kl_RL_315 : Cond.methodLink RL 315 yX11_hottest ∈ cm_all := cm_inT (cm_t9 _ (List.mem_of_getElem? (i := 77) rfl)) rfl
theorem kv_X11_hottest : Cond.instanceMethod yX11_hottest ∈ cm_all := cm_inT (cm_t9 _ (List.mem_of_getElem? (i := 78) rfl)) rfl
theorem kx_X11_hottest : Cond.selects yX11_hottest.cls yX11_hottest yX11_hottest ∈ cm_all := cm_inT (cm_t9 _ (List.mem_of_getElem? (i := 79) rfl)) rfl
theorem kc_X11_hottest : Cond.code yX11_hottest cX11_hottest 3 (some .int) ∈ cm_all := cm_inT (cm_t9 _ (List.mem_of_getElem? (i := 80) rfl)) rfl
theorem kl_RL_319 : Cond.methodLink RL 319 yX11_recordCount ∈ cm_all := cm_inT (cm_t9 _ (List.mem_of_getElem? (i := 81) rfl)) rfl
theorem kv_X11_recordCount : Cond.instanceMethod yX11_recordCount ∈ cm_all := cm_inT (cm_t9 _ (List.mem_of_getElem? (i := 82) rfl)) rfl
theorem kx_X11_recordCount : Cond.selects yX11_recordCount.cls yX11_recordCount yX11_recordCount ∈ cm_all := cm_inT (cm_t9 _ (List.mem_of_getElem? (i := 83) rfl)) rfl
theorem kc_X11_recordCount : Cond.code yX11_recordCount cX11_recordCount 1 (some .int) ∈ cm_all := cm_inT (cm_t9 _ (List.mem_of_getElem? (i := 84) rfl)) rfl
theorem kl_RL_322 : Cond.methodLink RL 322 yX11_record ∈ cm_all := cm_inT (cm_t9 _ (List.mem_of_getElem? (i := 85) rfl)) rfl
theorem kv_X11_record : Cond.instanceMethod yX11_record ∈ cm_all := cm_inT (cm_t9 _ (List.mem_of_getElem? (i := 86) rfl)) rfl
theorem kx_X11_record : Cond.selects yX11_record.cls yX11_record yX11_record ∈ cm_all := cm_inT (cm_t9 _ (List.mem_of_getElem? (i := 87) rfl)) rfl
theorem kc_X11_record : Cond.code yX11_record cX11_record 3 (some .int) ∈ cm_all := cm_inT (cm_t9 _ (List.mem_of_getElem? (i := 88) rfl)) rfl
theorem kl_RX11_369 : Cond.methodLink RX11 369 yX11_recorded ∈ cm_all := cm_inT (cm_t9 _ (List.mem_of_getElem? (i := 89) rfl)) rfl
theorem kv_X11_recorded : Cond.instanceMethod yX11_recorded ∈ cm_all := cm_inT (cm_t9 _ (List.mem_of_getElem? (i := 91) rfl)) rfl
theorem kc_X11_recorded : Cond.code yX11_recorded cX11_recorded 3 (some .int) ∈ cm_all := cm_inT (cm_t9 _ (List.mem_of_getElem? (i := 92) rfl)) rfl
theorem kl_RL_325 : Cond.methodLink RL 325 yX11_counting ∈ cm_all := cm_inT (cm_t9 _ (List.mem_of_getElem? (i := 93) rfl)) rfl
theorem kv_X11_counting : Cond.instanceMethod yX11_counting ∈ cm_all := cm_inT (cm_t9 _ (List.mem_of_getElem? (i := 94) rfl)) rfl
theorem kx_X11_counting : Cond.selects yX11_counting.cls yX11_counting yX11_counting ∈ cm_all := cm_inT (cm_t9 _ (List.mem_of_getElem? (i := 95) rfl)) rfl
theorem kc_X11_counting : Cond.code yX11_counting cX11_counting 4 (some .int) ∈ cm_all := cm_inT (cm_t9 _ (List.mem_of_getElem? (i := 96) rfl)) rfl
theorem kl_RX11_372 : Cond.methodLink RX11 372 yX11_isCounting ∈ cm_all := cm_inT (cm_t9 _ (List.mem_of_getElem? (i := 97) rfl)) rfl
theorem kv_X11_isCounting : Cond.instanceMethod yX11_isCounting ∈ cm_all := cm_inT (cm_t9 _ (List.mem_of_getElem? (i := 99) rfl)) rfl
theorem kc_X11_isCounting : Cond.code yX11_isCounting cX11_isCounting 3 (some .boolean) ∈ cm_all := cm_inT (cm_t9 _ (List.mem_of_getElem? (i := 100) rfl)) rfl
theorem kl_RL_328 : Cond.methodLink RL 328 yX11_loss ∈ cm_all := cm_inT (cm_t9 _ (List.mem_of_getElem? (i := 101) rfl)) rfl
theorem kv_X11_loss : Cond.instanceMethod yX11_loss ∈ cm_all := cm_inT (cm_t9 _ (List.mem_of_getElem? (i := 102) rfl)) rfl
theorem kx_X11_loss : Cond.selects yX11_loss.cls yX11_loss yX11_loss ∈ cm_all := cm_inT (cm_t9 _ (List.mem_of_getElem? (i := 103) rfl)) rfl
theorem kc_X11_loss : Cond.code yX11_loss cX11_loss 5 (some .int) ∈ cm_all := cm_inT (cm_t9 _ (List.mem_of_getElem? (i := 104) rfl)) rfl
theorem kl_RL_341 : Cond.methodLink RL 341 yX11_stepEndsIn ∈ cm_all := cm_inT (cm_t9 _ (List.mem_of_getElem? (i := 105) rfl)) rfl
theorem kv_X11_stepEndsIn : Cond.instanceMethod yX11_stepEndsIn ∈ cm_all := cm_inT (cm_t9 _ (List.mem_of_getElem? (i := 106) rfl)) rfl
theorem kx_X11_stepEndsIn : Cond.selects yX11_stepEndsIn.cls yX11_stepEndsIn yX11_stepEndsIn ∈ cm_all := cm_inT (cm_t9 _ (List.mem_of_getElem? (i := 107) rfl)) rfl
theorem kc_X11_stepEndsIn : Cond.code yX11_stepEndsIn cX11_stepEndsIn 4 (some .int) ∈ cm_all := cm_inT (cm_t9 _ (List.mem_of_getElem? (i := 108) rfl)) rfl
theorem kl_RX11_379 : Cond.methodLink RX11 379 yX11_goesAside ∈ cm_all := cm_inT (cm_t9 _ (List.mem_of_getElem? (i := 109) rfl)) rfl
theorem kv_X11_goesAside : Cond.instanceMethod yX11_goesAside ∈ cm_all := cm_inT (cm_t9 _ (List.mem_of_getElem? (i := 111) rfl)) rfl
theorem kc_X11_goesAside : Cond.code yX11_goesAside cX11_goesAside 1 none ∈ cm_all := cm_inT (cm_t9 _ (List.mem_of_getElem? (i := 112) rfl)) rfl
theorem kl_RX11_375 : Cond.methodLink RX11 375 yX11_copiesSums ∈ cm_all := cm_inT (cm_t9 _ (List.mem_of_getElem? (i := 113) rfl)) rfl
theorem ks_X11_copiesSums : Cond.static yX11_copiesSums ∈ cm_all := cm_inT (cm_t9 _ (List.mem_of_getElem? (i := 114) rfl)) rfl
theorem kc_X11_copiesSums : Cond.code yX11_copiesSums cX11_copiesSums 3 none ∈ cm_all := cm_inT (cm_t9 _ (List.mem_of_getElem? (i := 115) rfl)) rfl
theorem kl_RX11_382 : Cond.methodLink RX11 382 yX11_alone ∈ cm_all := cm_inT (cm_t9 _ (List.mem_of_getElem? (i := 116) rfl)) rfl
theorem kv_X11_alone : Cond.instanceMethod yX11_alone ∈ cm_all := cm_inT (cm_t9 _ (List.mem_of_getElem? (i := 118) rfl)) rfl
theorem kc_X11_alone : Cond.code yX11_alone cX11_alone 2 none ∈ cm_all := cm_inT (cm_t9 _ (List.mem_of_getElem? (i := 119) rfl)) rfl
theorem kl_RX11_385 : Cond.methodLink RX11 385 yX11_comesBack ∈ cm_all := cm_inT (cm_t9 _ (List.mem_of_getElem? (i := 120) rfl)) rfl
theorem kv_X11_comesBack : Cond.instanceMethod yX11_comesBack ∈ cm_all := cm_inT (cm_t9 _ (List.mem_of_getElem? (i := 122) rfl)) rfl
theorem kc_X11_comesBack : Cond.code yX11_comesBack cX11_comesBack 1 none ∈ cm_all := cm_inT (cm_t9 _ (List.mem_of_getElem? (i := 123) rfl)) rfl
theorem kl_RL_344 : Cond.methodLink RL 344 yX11_doneIn ∈ cm_all := cm_inT (cm_t9 _ (List.mem_of_getElem? (i := 124) rfl)) rfl
theorem kv_X11_doneIn : Cond.instanceMethod yX11_doneIn ∈ cm_all := cm_inT (cm_t9 _ (List.mem_of_getElem? (i := 125) rfl)) rfl
theorem kx_X11_doneIn : Cond.selects yX11_doneIn.cls yX11_doneIn yX11_doneIn ∈ cm_all := cm_inT (cm_t9 _ (List.mem_of_getElem? (i := 126) rfl)) rfl
theorem kc_X11_doneIn : Cond.code yX11_doneIn cX11_doneIn 2 (some .int) ∈ cm_all := cm_inT (cm_t9 _ (List.mem_of_getElem? (i := 127) rfl)) rfl
theorem kl_RX11_391 : Cond.methodLink RX11 391 yX11_untilAside ∈ cm_all := cm_inT (cm_t9 _ (List.mem_of_getElem? (i := 128) rfl)) rfl
theorem kv_X11_untilAside : Cond.instanceMethod yX11_untilAside ∈ cm_all := cm_inT (cm_t9 _ (List.mem_of_getElem? (i := 130) rfl)) rfl
theorem kc_X11_untilAside : Cond.code yX11_untilAside cX11_untilAside 4 (some .int) ∈ cm_all := cm_inT (cm_t9 _ (List.mem_of_getElem? (i := 131) rfl)) rfl
theorem kl_RX11_388 : Cond.methodLink RX11 388 yX11_until ∈ cm_all := cm_inT (cm_t9 _ (List.mem_of_getElem? (i := 132) rfl)) rfl
theorem kv_X11_until : Cond.instanceMethod yX11_until ∈ cm_all := cm_inT (cm_t9 _ (List.mem_of_getElem? (i := 134) rfl)) rfl
theorem kc_X11_until : Cond.code yX11_until cX11_until 4 (some .int) ∈ cm_all := cm_inT (cm_t9 _ (List.mem_of_getElem? (i := 135) rfl)) rfl
theorem kl_RL_347 : Cond.methodLink RL 347 yX11_tripsIn ∈ cm_all := cm_inT (cm_t9 _ (List.mem_of_getElem? (i := 136) rfl)) rfl
theorem kv_X11_tripsIn : Cond.instanceMethod yX11_tripsIn ∈ cm_all := cm_inT (cm_t9 _ (List.mem_of_getElem? (i := 137) rfl)) rfl
theorem kx_X11_tripsIn : Cond.selects yX11_tripsIn.cls yX11_tripsIn yX11_tripsIn ∈ cm_all := cm_inT (cm_t9 _ (List.mem_of_getElem? (i := 138) rfl)) rfl
theorem kc_X11_tripsIn : Cond.code yX11_tripsIn cX11_tripsIn 2 (some .int) ∈ cm_all := cm_inT (cm_t9 _ (List.mem_of_getElem? (i := 139) rfl)) rfl
theorem kl_RL_350 : Cond.methodLink RL 350 yX11_valueAfter ∈ cm_all := cm_inT (cm_t9 _ (List.mem_of_getElem? (i := 140) rfl)) rfl
theorem kv_X11_valueAfter : Cond.instanceMethod yX11_valueAfter ∈ cm_all := cm_inT (cm_t9 _ (List.mem_of_getElem? (i := 141) rfl)) rfl
theorem kx_X11_valueAfter : Cond.selects yX11_valueAfter.cls yX11_valueAfter yX11_valueAfter ∈ cm_all := cm_inT (cm_t9 _ (List.mem_of_getElem? (i := 142) rfl)) rfl
theorem kc_X11_valueAfter : Cond.code yX11_valueAfter cX11_valueAfter 5 (some .int) ∈ cm_all := cm_inT (cm_t9 _ (List.mem_of_getElem? (i := 143) rfl)) rfl
theorem kl_RX11_394 : Cond.constantLong RX11 394 (10000) ∈ cm_all := cm_inT (cm_t9 _ (List.mem_of_getElem? (i := 144) rfl)) rfl
theorem kl_RL_353 : Cond.methodLink RL 353 yX11_peakTemperature ∈ cm_all := cm_inT (cm_t9 _ (List.mem_of_getElem? (i := 145) rfl)) rfl
theorem kv_X11_peakTemperature : Cond.instanceMethod yX11_peakTemperature ∈ cm_all := cm_inT (cm_t9 _ (List.mem_of_getElem? (i := 146) rfl)) rfl
theorem kx_X11_peakTemperature : Cond.selects yX11_peakTemperature.cls yX11_peakTemperature yX11_peakTemperature ∈ cm_all := cm_inT (cm_t9 _ (List.mem_of_getElem? (i := 147) rfl)) rfl
theorem kc_X11_peakTemperature : Cond.code yX11_peakTemperature cX11_peakTemperature 5 (some .int) ∈ cm_all := cm_inT (cm_t9 _ (List.mem_of_getElem? (i := 148) rfl)) rfl
theorem kl_RL_356 : Cond.methodLink RL 356 yX11_settledIn ∈ cm_all := cm_inT (cm_t9 _ (List.mem_of_getElem? (i := 149) rfl)) rfl
theorem kv_X11_settledIn : Cond.instanceMethod yX11_settledIn ∈ cm_all := cm_inT (cm_t9 _ (List.mem_of_getElem? (i := 150) rfl)) rfl
theorem kx_X11_settledIn : Cond.selects yX11_settledIn.cls yX11_settledIn yX11_settledIn ∈ cm_all := cm_inT (cm_t9 _ (List.mem_of_getElem? (i := 151) rfl)) rfl
theorem kc_X11_settledIn : Cond.code yX11_settledIn cX11_settledIn 3 (some .int) ∈ cm_all := cm_inT (cm_t9 _ (List.mem_of_getElem? (i := 152) rfl)) rfl
theorem kl_RL_359 : Cond.methodLink RL 359 yX11_duration ∈ cm_all := cm_inT (cm_t9 _ (List.mem_of_getElem? (i := 153) rfl)) rfl
theorem kv_X11_duration : Cond.instanceMethod yX11_duration ∈ cm_all := cm_inT (cm_t9 _ (List.mem_of_getElem? (i := 154) rfl)) rfl
theorem kx_X11_duration : Cond.selects yX11_duration.cls yX11_duration yX11_duration ∈ cm_all := cm_inT (cm_t9 _ (List.mem_of_getElem? (i := 155) rfl)) rfl
theorem kc_X11_duration : Cond.code yX11_duration cX11_duration 3 (some .int) ∈ cm_all := cm_inT (cm_t9 _ (List.mem_of_getElem? (i := 156) rfl)) rfl
theorem kl_RX11_396 : Cond.methodLink RX11 396 yX11_durationOf ∈ cm_all := cm_inT (cm_t9 _ (List.mem_of_getElem? (i := 157) rfl)) rfl
theorem kv_X11_durationOf : Cond.instanceMethod yX11_durationOf ∈ cm_all := cm_inT (cm_t9 _ (List.mem_of_getElem? (i := 159) rfl)) rfl
theorem kc_X11_durationOf : Cond.code yX11_durationOf cX11_durationOf 4 (some .int) ∈ cm_all := cm_inT (cm_t9 _ (List.mem_of_getElem? (i := 160) rfl)) rfl
theorem kl_RL_362 : Cond.methodLink RL 362 yX11_shortest ∈ cm_all := cm_inT (cm_t9 _ (List.mem_of_getElem? (i := 161) rfl)) rfl
theorem kv_X11_shortest : Cond.instanceMethod yX11_shortest ∈ cm_all := cm_inT (cm_t9 _ (List.mem_of_getElem? (i := 162) rfl)) rfl
theorem kx_X11_shortest : Cond.selects yX11_shortest.cls yX11_shortest yX11_shortest ∈ cm_all := cm_inT (cm_t9 _ (List.mem_of_getElem? (i := 163) rfl)) rfl
theorem kc_X11_shortest : Cond.code yX11_shortest cX11_shortest 6 (some .int) ∈ cm_all := cm_inT (cm_t9 _ (List.mem_of_getElem? (i := 164) rfl)) rfl
theorem kl_RL_365 : Cond.methodLink RL 365 yX11_capacityIf ∈ cm_all := cm_inT (cm_t9 _ (List.mem_of_getElem? (i := 165) rfl)) rfl
theorem kv_X11_capacityIf : Cond.instanceMethod yX11_capacityIf ∈ cm_all := cm_inT (cm_t9 _ (List.mem_of_getElem? (i := 166) rfl)) rfl
theorem kx_X11_capacityIf : Cond.selects yX11_capacityIf.cls yX11_capacityIf yX11_capacityIf ∈ cm_all := cm_inT (cm_t9 _ (List.mem_of_getElem? (i := 167) rfl)) rfl
theorem kc_X11_capacityIf : Cond.code yX11_capacityIf cX11_capacityIf 5 (some .int) ∈ cm_all := cm_inT (cm_t9 _ (List.mem_of_getElem? (i := 168) rfl)) rfl
theorem kl_RL_368 : Cond.methodLink RL 368 yX11_safeCurrent ∈ cm_all := cm_inT (cm_t9 _ (List.mem_of_getElem? (i := 169) rfl)) rfl
theorem kv_X11_safeCurrent : Cond.instanceMethod yX11_safeCurrent ∈ cm_all := cm_inT (cm_t9 _ (List.mem_of_getElem? (i := 170) rfl)) rfl
theorem kx_X11_safeCurrent : Cond.selects yX11_safeCurrent.cls yX11_safeCurrent yX11_safeCurrent ∈ cm_all := cm_inT (cm_t9 _ (List.mem_of_getElem? (i := 171) rfl)) rfl
theorem kc_X11_safeCurrent : Cond.code yX11_safeCurrent cX11_safeCurrent 4 (some .int) ∈ cm_all := cm_inT (cm_t9 _ (List.mem_of_getElem? (i := 172) rfl)) rfl
theorem kl_RX11_399 : Cond.methodLink RX11 399 yX11_isSafe ∈ cm_all := cm_inT (cm_t9 _ (List.mem_of_getElem? (i := 173) rfl)) rfl
theorem kv_X11_isSafe : Cond.instanceMethod yX11_isSafe ∈ cm_all := cm_inT (cm_t9 _ (List.mem_of_getElem? (i := 175) rfl)) rfl
theorem kc_X11_isSafe : Cond.code yX11_isSafe cX11_isSafe 6 (some .boolean) ∈ cm_all := cm_inT (cm_t9 _ (List.mem_of_getElem? (i := 176) rfl)) rfl
theorem kl_RL_371 : Cond.methodLink RL 371 yX11_saveSnapshot ∈ cm_all := cm_inT (cm_t9 _ (List.mem_of_getElem? (i := 177) rfl)) rfl
theorem kv_X11_saveSnapshot : Cond.instanceMethod yX11_saveSnapshot ∈ cm_all := cm_inT (cm_t9 _ (List.mem_of_getElem? (i := 178) rfl)) rfl
theorem kx_X11_saveSnapshot : Cond.selects yX11_saveSnapshot.cls yX11_saveSnapshot yX11_saveSnapshot ∈ cm_all := cm_inT (cm_t9 _ (List.mem_of_getElem? (i := 179) rfl)) rfl
theorem kc_X11_saveSnapshot : Cond.code yX11_saveSnapshot cX11_saveSnapshot 2 (some .int) ∈ cm_all := cm_inT (cm_t9 _ (List.mem_of_getElem? (i := 180) rfl)) rfl
theorem kl_RX11_402 : Cond.methodLink RX11 402 yX11_noSlot ∈ cm_all := cm_inT (cm_t9 _ (List.mem_of_getElem? (i := 181) rfl)) rfl
theorem kv_X11_noSlot : Cond.instanceMethod yX11_noSlot ∈ cm_all := cm_inT (cm_t9 _ (List.mem_of_getElem? (i := 183) rfl)) rfl
theorem kc_X11_noSlot : Cond.code yX11_noSlot cX11_noSlot 2 (some .boolean) ∈ cm_all := cm_inT (cm_t9 _ (List.mem_of_getElem? (i := 184) rfl)) rfl
theorem kl_RL_374 : Cond.methodLink RL 374 yX11_restoreSnapshot ∈ cm_all := cm_inT (cm_t9 _ (List.mem_of_getElem? (i := 185) rfl)) rfl
theorem kv_X11_restoreSnapshot : Cond.instanceMethod yX11_restoreSnapshot ∈ cm_all := cm_inT (cm_t9 _ (List.mem_of_getElem? (i := 186) rfl)) rfl
theorem kx_X11_restoreSnapshot : Cond.selects yX11_restoreSnapshot.cls yX11_restoreSnapshot yX11_restoreSnapshot ∈ cm_all := cm_inT (cm_t9 _ (List.mem_of_getElem? (i := 187) rfl)) rfl
theorem kc_X11_restoreSnapshot : Cond.code yX11_restoreSnapshot cX11_restoreSnapshot 2 (some .int) ∈ cm_all := cm_inT (cm_t9 _ (List.mem_of_getElem? (i := 188) rfl)) rfl
theorem kl_RL_176 : Cond.constantLong RL 176 (4294967295) ∈ cm_all := cm_inT (cm_t9 _ (List.mem_of_getElem? (i := 189) rfl)) rfl
theorem ka_double : Cond.arrayClass .double ∈ cm_all := cm_inT (cm_t9 _ (List.mem_of_getElem? (i := 190) rfl)) rfl
theorem kl_RJ0_9 : Cond.fieldLink RJ0 9 "java/lang/String" "value" "[B" ∈ cm_all := cm_inT (cm_t9 _ (List.mem_of_getElem? (i := 192) rfl)) rfl
theorem kl_RJ0_15 : Cond.fieldLink RJ0 15 "java/lang/String" "coder" "B" ∈ cm_all := cm_inT (cm_t9 _ (List.mem_of_getElem? (i := 193) rfl)) rfl
theorem kx_X7_clear : Cond.selects yX7_clear.cls yX7_clear yX7_clear ∈ cm_all := cm_sel (q := (yX7_clear, 12)) (cm_p1 _ (List.mem_of_getElem? (i := 0) rfl))
theorem kx_X9_clear : Cond.selects yX9_clear.cls yX9_clear yX9_clear ∈ cm_all := cm_sel (q := (yX9_clear, 8)) (cm_p1 _ (List.mem_of_getElem? (i := 1) rfl))
theorem kx_X8_clear : Cond.selects yX8_clear.cls yX8_clear yX8_clear ∈ cm_all := cm_sel (q := (yX8_clear, 5)) (cm_p1 _ (List.mem_of_getElem? (i := 2) rfl))
theorem kx_X6_readText : Cond.selects yX6_readText.cls yX6_readText yX6_readText ∈ cm_all := cm_sel (q := (yX6_readText, 7)) (cm_p1 _ (List.mem_of_getElem? (i := 3) rfl))
theorem kx_X6_readWord : Cond.selects yX6_readWord.cls yX6_readWord yX6_readWord ∈ cm_all := cm_sel (q := (yX6_readWord, 7)) (cm_p1 _ (List.mem_of_getElem? (i := 4) rfl))
theorem kx_X6_skipSpaces : Cond.selects yX6_skipSpaces.cls yX6_skipSpaces yX6_skipSpaces ∈ cm_all := cm_sel (q := (yX6_skipSpaces, 7)) (cm_p1 _ (List.mem_of_getElem? (i := 5) rfl))
theorem kx_X6_next : Cond.selects yX6_next.cls yX6_next yX6_next ∈ cm_all := cm_sel (q := (yX6_next, 7)) (cm_p1 _ (List.mem_of_getElem? (i := 6) rfl))
theorem kx_X6_fail : Cond.selects yX6_fail.cls yX6_fail yX6_fail ∈ cm_all := cm_sel (q := (yX6_fail, 7)) (cm_p1 _ (List.mem_of_getElem? (i := 7) rfl))
theorem kx_X6_wordIs : Cond.selects yX6_wordIs.cls yX6_wordIs yX6_wordIs ∈ cm_all := cm_sel (q := (yX6_wordIs, 7)) (cm_p1 _ (List.mem_of_getElem? (i := 8) rfl))
theorem kx_X6_readCurve : Cond.selects yX6_readCurve.cls yX6_readCurve yX6_readCurve ∈ cm_all := cm_sel (q := (yX6_readCurve, 7)) (cm_p1 _ (List.mem_of_getElem? (i := 9) rfl))
theorem kx_X2_find : Cond.selects yX2_find.cls yX2_find yX2_find ∈ cm_all := cm_sel (q := (yX2_find, 4)) (cm_p1 _ (List.mem_of_getElem? (i := 10) rfl))
theorem kx_X2_add : Cond.selects yX2_add.cls yX2_add yX2_add ∈ cm_all := cm_sel (q := (yX2_add, 4)) (cm_p1 _ (List.mem_of_getElem? (i := 11) rfl))
theorem kx_X6_readNumber : Cond.selects yX6_readNumber.cls yX6_readNumber yX6_readNumber ∈ cm_all := cm_sel (q := (yX6_readNumber, 7)) (cm_p1 _ (List.mem_of_getElem? (i := 12) rfl))
theorem kx_X2_addVoltageToLast : Cond.selects yX2_addVoltageToLast.cls yX2_addVoltageToLast yX2_addVoltageToLast ∈ cm_all := cm_sel (q := (yX2_addVoltageToLast, 4)) (cm_p1 _ (List.mem_of_getElem? (i := 13) rfl))
theorem kx_X6_readCell : Cond.selects yX6_readCell.cls yX6_readCell yX6_readCell ∈ cm_all := cm_sel (q := (yX6_readCell, 7)) (cm_p1 _ (List.mem_of_getElem? (i := 14) rfl))
theorem kx_X9_channelAt : Cond.selects yX9_channelAt.cls yX9_channelAt yX9_channelAt ∈ cm_all := cm_sel (q := (yX9_channelAt, 8)) (cm_p1 _ (List.mem_of_getElem? (i := 15) rfl))
theorem kx_X0_takeCurve : Cond.selects yX0_takeCurve.cls yX0_takeCurve yX0_takeCurve ∈ cm_all := cm_sel (q := (yX0_takeCurve, 16)) (cm_p2 _ (List.mem_of_getElem? (i := 0) rfl))
theorem kx_X2_voltageOf : Cond.selects yX2_voltageOf.cls yX2_voltageOf yX2_voltageOf ∈ cm_all := cm_sel (q := (yX2_voltageOf, 4)) (cm_p2 _ (List.mem_of_getElem? (i := 1) rfl))
theorem kx_X6_readProgram : Cond.selects yX6_readProgram.cls yX6_readProgram yX6_readProgram ∈ cm_all := cm_sel (q := (yX6_readProgram, 7)) (cm_p2 _ (List.mem_of_getElem? (i := 2) rfl))
theorem kx_X5_add : Cond.selects yX5_add.cls yX5_add yX5_add ∈ cm_all := cm_sel (q := (yX5_add, 5)) (cm_p2 _ (List.mem_of_getElem? (i := 3) rfl))
theorem kx_X6_readStep : Cond.selects yX6_readStep.cls yX6_readStep yX6_readStep ∈ cm_all := cm_sel (q := (yX6_readStep, 7)) (cm_p2 _ (List.mem_of_getElem? (i := 4) rfl))
theorem kx_X5_addStepToLast : Cond.selects yX5_addStepToLast.cls yX5_addStepToLast yX5_addStepToLast ∈ cm_all := cm_sel (q := (yX5_addStepToLast, 5)) (cm_p2 _ (List.mem_of_getElem? (i := 5) rfl))
theorem kx_X6_readSetting : Cond.selects yX6_readSetting.cls yX6_readSetting yX6_readSetting ∈ cm_all := cm_sel (q := (yX6_readSetting, 7)) (cm_p2 _ (List.mem_of_getElem? (i := 6) rfl))
theorem kx_X9_insertCells : Cond.selects yX9_insertCells.cls yX9_insertCells yX9_insertCells ∈ cm_all := cm_sel (q := (yX9_insertCells, 8)) (cm_p2 _ (List.mem_of_getElem? (i := 7) rfl))
theorem kx_X1_insertCell : Cond.selects yX1_insertCell.cls yX1_insertCell yX1_insertCell ∈ cm_all := cm_sel (q := (yX1_insertCell, 14)) (cm_p2 _ (List.mem_of_getElem? (i := 8) rfl))
theorem kx_X0_renew : Cond.selects yX0_renew.cls yX0_renew yX0_renew ∈ cm_all := cm_sel (q := (yX0_renew, 16)) (cm_p2 _ (List.mem_of_getElem? (i := 9) rfl))
theorem kx_X3_clear : Cond.selects yX3_clear.cls yX3_clear yX3_clear ∈ cm_all := cm_sel (q := (yX3_clear, 4)) (cm_p2 _ (List.mem_of_getElem? (i := 10) rfl))
theorem kx_X4_clear : Cond.selects yX4_clear.cls yX4_clear yX4_clear ∈ cm_all := cm_sel (q := (yX4_clear, 7)) (cm_p2 _ (List.mem_of_getElem? (i := 11) rfl))
theorem kx_X9_copyFrom : Cond.selects yX9_copyFrom.cls yX9_copyFrom yX9_copyFrom ∈ cm_all := cm_sel (q := (yX9_copyFrom, 8)) (cm_p2 _ (List.mem_of_getElem? (i := 12) rfl))
theorem kx_X7_copyFrom : Cond.selects yX7_copyFrom.cls yX7_copyFrom yX7_copyFrom ∈ cm_all := cm_sel (q := (yX7_copyFrom, 12)) (cm_p2 _ (List.mem_of_getElem? (i := 13) rfl))
theorem kx_X2_copyFrom : Cond.selects yX2_copyFrom.cls yX2_copyFrom yX2_copyFrom ∈ cm_all := cm_sel (q := (yX2_copyFrom, 4)) (cm_p2 _ (List.mem_of_getElem? (i := 14) rfl))
theorem kx_X5_copyFrom : Cond.selects yX5_copyFrom.cls yX5_copyFrom yX5_copyFrom ∈ cm_all := cm_sel (q := (yX5_copyFrom, 5)) (cm_p2 _ (List.mem_of_getElem? (i := 15) rfl))
theorem kx_X1_copyFrom : Cond.selects yX1_copyFrom.cls yX1_copyFrom yX1_copyFrom ∈ cm_all := cm_sel (q := (yX1_copyFrom, 14)) (cm_p3 _ (List.mem_of_getElem? (i := 0) rfl))
theorem kx_X0_copyFrom : Cond.selects yX0_copyFrom.cls yX0_copyFrom yX0_copyFrom ∈ cm_all := cm_sel (q := (yX0_copyFrom, 16)) (cm_p3 _ (List.mem_of_getElem? (i := 1) rfl))
theorem kx_X3_copyFrom : Cond.selects yX3_copyFrom.cls yX3_copyFrom yX3_copyFrom ∈ cm_all := cm_sel (q := (yX3_copyFrom, 4)) (cm_p3 _ (List.mem_of_getElem? (i := 2) rfl))
theorem kx_X4_copyFrom : Cond.selects yX4_copyFrom.cls yX4_copyFrom yX4_copyFrom ∈ cm_all := cm_sel (q := (yX4_copyFrom, 7)) (cm_p3 _ (List.mem_of_getElem? (i := 3) rfl))
theorem kx_X8_copyFrom : Cond.selects yX8_copyFrom.cls yX8_copyFrom yX8_copyFrom ∈ cm_all := cm_sel (q := (yX8_copyFrom, 5)) (cm_p3 _ (List.mem_of_getElem? (i := 4) rfl))
theorem kx_X10_needProgram : Cond.selects yX10_needProgram.cls yX10_needProgram yX10_needProgram ∈ cm_all := cm_sel (q := (yX10_needProgram, 6)) (cm_p3 _ (List.mem_of_getElem? (i := 6) rfl))
theorem kx_X5_stepsOf : Cond.selects yX5_stepsOf.cls yX5_stepsOf yX5_stepsOf ∈ cm_all := cm_sel (q := (yX5_stepsOf, 5)) (cm_p3 _ (List.mem_of_getElem? (i := 7) rfl))
theorem kx_X5_kindOf : Cond.selects yX5_kindOf.cls yX5_kindOf yX5_kindOf ∈ cm_all := cm_sel (q := (yX5_kindOf, 5)) (cm_p3 _ (List.mem_of_getElem? (i := 8) rfl))
theorem kx_X5_firstOf : Cond.selects yX5_firstOf.cls yX5_firstOf yX5_firstOf ∈ cm_all := cm_sel (q := (yX5_firstOf, 5)) (cm_p3 _ (List.mem_of_getElem? (i := 9) rfl))
theorem kx_X5_secondOf : Cond.selects yX5_secondOf.cls yX5_secondOf yX5_secondOf ∈ cm_all := cm_sel (q := (yX5_secondOf, 5)) (cm_p3 _ (List.mem_of_getElem? (i := 10) rfl))
theorem kx_X1_passTick : Cond.selects yX1_passTick.cls yX1_passTick yX1_passTick ∈ cm_all := cm_sel (q := (yX1_passTick, 14)) (cm_p3 _ (List.mem_of_getElem? (i := 11) rfl))
theorem kx_X1_wantedCurrent : Cond.selects yX1_wantedCurrent.cls yX1_wantedCurrent yX1_wantedCurrent ∈ cm_all := cm_sel (q := (yX1_wantedCurrent, 14)) (cm_p3 _ (List.mem_of_getElem? (i := 12) rfl))
theorem kx_X0_holding : Cond.selects yX0_holding.cls yX0_holding yX0_holding ∈ cm_all := cm_sel (q := (yX0_holding, 16)) (cm_p3 _ (List.mem_of_getElem? (i := 13) rfl))
theorem kx_X0_restVoltageAt : Cond.selects yX0_restVoltageAt.cls yX0_restVoltageAt yX0_restVoltageAt ∈ cm_all := cm_sel (q := (yX0_restVoltageAt, 16)) (cm_p3 _ (List.mem_of_getElem? (i := 14) rfl))
theorem kx_X0_allowed : Cond.selects yX0_allowed.cls yX0_allowed yX0_allowed ∈ cm_all := cm_sel (q := (yX0_allowed, 16)) (cm_p3 _ (List.mem_of_getElem? (i := 15) rfl))
theorem kx_X0_passCurrent : Cond.selects yX0_passCurrent.cls yX0_passCurrent yX0_passCurrent ∈ cm_all := cm_sel (q := (yX0_passCurrent, 16)) (cm_p4 _ (List.mem_of_getElem? (i := 0) rfl))
theorem kx_X0_polarize : Cond.selects yX0_polarize.cls yX0_polarize yX0_polarize ∈ cm_all := cm_sel (q := (yX0_polarize, 16)) (cm_p4 _ (List.mem_of_getElem? (i := 1) rfl))
theorem kx_X0_moveCharge : Cond.selects yX0_moveCharge.cls yX0_moveCharge yX0_moveCharge ∈ cm_all := cm_sel (q := (yX0_moveCharge, 16)) (cm_p4 _ (List.mem_of_getElem? (i := 2) rfl))
theorem kx_X0_wear : Cond.selects yX0_wear.cls yX0_wear yX0_wear ∈ cm_all := cm_sel (q := (yX0_wear, 16)) (cm_p4 _ (List.mem_of_getElem? (i := 3) rfl))
theorem kx_X0_warm : Cond.selects yX0_warm.cls yX0_warm yX0_warm ∈ cm_all := cm_sel (q := (yX0_warm, 16)) (cm_p4 _ (List.mem_of_getElem? (i := 4) rfl))
theorem kx_X0_thousandths : Cond.selects yX0_thousandths.cls yX0_thousandths yX0_thousandths ∈ cm_all := cm_sel (q := (yX0_thousandths, 16)) (cm_p4 _ (List.mem_of_getElem? (i := 5) rfl))
theorem kx_X4_countFilling : Cond.selects yX4_countFilling.cls yX4_countFilling yX4_countFilling ∈ cm_all := cm_sel (q := (yX4_countFilling, 7)) (cm_p4 _ (List.mem_of_getElem? (i := 6) rfl))
theorem kx_X1_warn : Cond.selects yX1_warn.cls yX1_warn yX1_warn ∈ cm_all := cm_sel (q := (yX1_warn, 14)) (cm_p4 _ (List.mem_of_getElem? (i := 7) rfl))
theorem kx_X9_note : Cond.selects yX9_note.cls yX9_note yX9_note ∈ cm_all := cm_sel (q := (yX9_note, 8)) (cm_p4 _ (List.mem_of_getElem? (i := 8) rfl))
theorem kx_X8_addRow : Cond.selects yX8_addRow.cls yX8_addRow yX8_addRow ∈ cm_all := cm_sel (q := (yX8_addRow, 5)) (cm_p4 _ (List.mem_of_getElem? (i := 9) rfl))
theorem kx_X8_placeOf : Cond.selects yX8_placeOf.cls yX8_placeOf yX8_placeOf ∈ cm_all := cm_sel (q := (yX8_placeOf, 5)) (cm_p4 _ (List.mem_of_getElem? (i := 10) rfl))
theorem kx_X1_stepEnds : Cond.selects yX1_stepEnds.cls yX1_stepEnds yX1_stepEnds ∈ cm_all := cm_sel (q := (yX1_stepEnds, 14)) (cm_p4 _ (List.mem_of_getElem? (i := 11) rfl))
theorem kx_X1_tripReason : Cond.selects yX1_tripReason.cls yX1_tripReason yX1_tripReason ∈ cm_all := cm_sel (q := (yX1_tripReason, 14)) (cm_p4 _ (List.mem_of_getElem? (i := 12) rfl))
theorem kx_X1_trip : Cond.selects yX1_trip.cls yX1_trip yX1_trip ∈ cm_all := cm_sel (q := (yX1_trip, 14)) (cm_p4 _ (List.mem_of_getElem? (i := 13) rfl))
theorem kx_X1_measureEnd : Cond.selects yX1_measureEnd.cls yX1_measureEnd yX1_measureEnd ∈ cm_all := cm_sel (q := (yX1_measureEnd, 14)) (cm_p4 _ (List.mem_of_getElem? (i := 14) rfl))
theorem kx_X1_makeRecord : Cond.selects yX1_makeRecord.cls yX1_makeRecord yX1_makeRecord ∈ cm_all := cm_sel (q := (yX1_makeRecord, 14)) (cm_p4 _ (List.mem_of_getElem? (i := 15) rfl))
theorem kx_X1_countFromHere : Cond.selects yX1_countFromHere.cls yX1_countFromHere yX1_countFromHere ∈ cm_all := cm_sel (q := (yX1_countFromHere, 14)) (cm_p5 _ (List.mem_of_getElem? (i := 0) rfl))
theorem kx_X1_leaveStep : Cond.selects yX1_leaveStep.cls yX1_leaveStep yX1_leaveStep ∈ cm_all := cm_sel (q := (yX1_leaveStep, 14)) (cm_p5 _ (List.mem_of_getElem? (i := 1) rfl))
theorem kx_X1_stepBehind : Cond.selects yX1_stepBehind.cls yX1_stepBehind yX1_stepBehind ∈ cm_all := cm_sel (q := (yX1_stepBehind, 14)) (cm_p5 _ (List.mem_of_getElem? (i := 2) rfl))
theorem kx_X1_enterStep : Cond.selects yX1_enterStep.cls yX1_enterStep yX1_enterStep ∈ cm_all := cm_sel (q := (yX1_enterStep, 14)) (cm_p5 _ (List.mem_of_getElem? (i := 3) rfl))
theorem kx_X1_takeWaiting : Cond.selects yX1_takeWaiting.cls yX1_takeWaiting yX1_takeWaiting ∈ cm_all := cm_sel (q := (yX1_takeWaiting, 14)) (cm_p5 _ (List.mem_of_getElem? (i := 4) rfl))
theorem kx_X1_begin : Cond.selects yX1_begin.cls yX1_begin yX1_begin ∈ cm_all := cm_sel (q := (yX1_begin, 14)) (cm_p5 _ (List.mem_of_getElem? (i := 5) rfl))
theorem kx_X10_needChannel : Cond.selects yX10_needChannel.cls yX10_needChannel yX10_needChannel ∈ cm_all := cm_sel (q := (yX10_needChannel, 6)) (cm_p5 _ (List.mem_of_getElem? (i := 6) rfl))
theorem kx_X1_isFree : Cond.selects yX1_isFree.cls yX1_isFree yX1_isFree ∈ cm_all := cm_sel (q := (yX1_isFree, 14)) (cm_p5 _ (List.mem_of_getElem? (i := 7) rfl))
theorem kx_X9_channelsIn : Cond.selects yX9_channelsIn.cls yX9_channelsIn yX9_channelsIn ∈ cm_all := cm_sel (q := (yX9_channelsIn, 8)) (cm_p5 _ (List.mem_of_getElem? (i := 8) rfl))
theorem kx_X1_number : Cond.selects yX1_number.cls yX1_number yX1_number ∈ cm_all := cm_sel (q := (yX1_number, 14)) (cm_p5 _ (List.mem_of_getElem? (i := 9) rfl))
theorem kx_X0_smallestChargeFor : Cond.selects yX0_smallestChargeFor.cls yX0_smallestChargeFor yX0_smallestChargeFor ∈ cm_all := cm_sel (q := (yX0_smallestChargeFor, 16)) (cm_p5 _ (List.mem_of_getElem? (i := 10) rfl))
theorem kx_X8_get : Cond.selects yX8_get.cls yX8_get yX8_get ∈ cm_all := cm_sel (q := (yX8_get, 5)) (cm_p5 _ (List.mem_of_getElem? (i := 11) rfl))
theorem kx_X9_recordCounts : Cond.selects yX9_recordCounts.cls yX9_recordCounts yX9_recordCounts ∈ cm_all := cm_sel (q := (yX9_recordCounts, 8)) (cm_p5 _ (List.mem_of_getElem? (i := 12) rfl))
theorem kx_X10_needTrial : Cond.selects yX10_needTrial.cls yX10_needTrial yX10_needTrial ∈ cm_all := cm_sel (q := (yX10_needTrial, 6)) (cm_p5 _ (List.mem_of_getElem? (i := 13) rfl))
theorem kx_X10_ticksUntil : Cond.selects yX10_ticksUntil.cls yX10_ticksUntil yX10_ticksUntil ∈ cm_all := cm_sel (q := (yX10_ticksUntil, 6)) (cm_p5 _ (List.mem_of_getElem? (i := 14) rfl))
theorem kx_X10_needTrialOf : Cond.selects yX10_needTrialOf.cls yX10_needTrialOf yX10_needTrialOf ∈ cm_all := cm_sel (q := (yX10_needTrialOf, 6)) (cm_p5 _ (List.mem_of_getElem? (i := 15) rfl))
theorem kx_X10_isSafe : Cond.selects yX10_isSafe.cls yX10_isSafe yX10_isSafe ∈ cm_all := cm_sel (q := (yX10_isSafe, 6)) (cm_p6 _ (List.mem_of_getElem? (i := 0) rfl))
theorem kx_X10_savedAt : Cond.selects yX10_savedAt.cls yX10_savedAt yX10_savedAt ∈ cm_all := cm_sel (q := (yX10_savedAt, 6)) (cm_p6 _ (List.mem_of_getElem? (i := 1) rfl))
theorem kx_X10_keepAt : Cond.selects yX10_keepAt.cls yX10_keepAt yX10_keepAt ∈ cm_all := cm_sel (q := (yX10_keepAt, 6)) (cm_p6 _ (List.mem_of_getElem? (i := 2) rfl))
theorem kx_X11_readsAll : Cond.selects yX11_readsAll.cls yX11_readsAll yX11_readsAll ∈ cm_all := cm_sel (q := (yX11_readsAll, 19)) (cm_p6 _ (List.mem_of_getElem? (i := 3) rfl))
theorem kx_X11_readStatement : Cond.selects yX11_readStatement.cls yX11_readStatement yX11_readStatement ∈ cm_all := cm_sel (q := (yX11_readStatement, 19)) (cm_p6 _ (List.mem_of_getElem? (i := 4) rfl))
theorem kx_X11_see : Cond.selects yX11_see.cls yX11_see yX11_see ∈ cm_all := cm_sel (q := (yX11_see, 19)) (cm_p6 _ (List.mem_of_getElem? (i := 5) rfl))
theorem kx_X11_byteAt : Cond.selects yX11_byteAt.cls yX11_byteAt yX11_byteAt ∈ cm_all := cm_sel (q := (yX11_byteAt, 19)) (cm_p6 _ (List.mem_of_getElem? (i := 6) rfl))
theorem kx_X11_isWord : Cond.selects yX11_isWord.cls yX11_isWord yX11_isWord ∈ cm_all := cm_sel (q := (yX11_isWord, 19)) (cm_p6 _ (List.mem_of_getElem? (i := 7) rfl))
theorem kx_X11_wordEnd : Cond.selects yX11_wordEnd.cls yX11_wordEnd yX11_wordEnd ∈ cm_all := cm_sel (q := (yX11_wordEnd, 19)) (cm_p6 _ (List.mem_of_getElem? (i := 8) rfl))
theorem kx_X11_isLetter : Cond.selects yX11_isLetter.cls yX11_isLetter yX11_isLetter ∈ cm_all := cm_sel (q := (yX11_isLetter, 19)) (cm_p6 _ (List.mem_of_getElem? (i := 9) rfl))
theorem kx_X11_readCurve : Cond.selects yX11_readCurve.cls yX11_readCurve yX11_readCurve ∈ cm_all := cm_sel (q := (yX11_readCurve, 19)) (cm_p6 _ (List.mem_of_getElem? (i := 10) rfl))
theorem kx_X11_fails : Cond.selects yX11_fails.cls yX11_fails yX11_fails ∈ cm_all := cm_sel (q := (yX11_fails, 19)) (cm_p6 _ (List.mem_of_getElem? (i := 11) rfl))
theorem kx_X11_passes : Cond.selects yX11_passes.cls yX11_passes yX11_passes ∈ cm_all := cm_sel (q := (yX11_passes, 19)) (cm_p6 _ (List.mem_of_getElem? (i := 12) rfl))
theorem kx_X11_readName : Cond.selects yX11_readName.cls yX11_readName yX11_readName ∈ cm_all := cm_sel (q := (yX11_readName, 19)) (cm_p6 _ (List.mem_of_getElem? (i := 13) rfl))
theorem kx_X11_named : Cond.selects yX11_named.cls yX11_named yX11_named ∈ cm_all := cm_sel (q := (yX11_named, 19)) (cm_p6 _ (List.mem_of_getElem? (i := 14) rfl))
theorem kx_X11_isNamed : Cond.selects yX11_isNamed.cls yX11_isNamed yX11_isNamed ∈ cm_all := cm_sel (q := (yX11_isNamed, 19)) (cm_p6 _ (List.mem_of_getElem? (i := 15) rfl))
theorem kx_X11_reads : Cond.selects yX11_reads.cls yX11_reads yX11_reads ∈ cm_all := cm_sel (q := (yX11_reads, 19)) (cm_p7 _ (List.mem_of_getElem? (i := 0) rfl))
theorem kx_X11_isDigit : Cond.selects yX11_isDigit.cls yX11_isDigit yX11_isDigit ∈ cm_all := cm_sel (q := (yX11_isDigit, 19)) (cm_p7 _ (List.mem_of_getElem? (i := 1) rfl))
theorem kx_X11_readCell : Cond.selects yX11_readCell.cls yX11_readCell yX11_readCell ∈ cm_all := cm_sel (q := (yX11_readCell, 19)) (cm_p7 _ (List.mem_of_getElem? (i := 2) rfl))
theorem kx_X11_readProgram : Cond.selects yX11_readProgram.cls yX11_readProgram yX11_readProgram ∈ cm_all := cm_sel (q := (yX11_readProgram, 19)) (cm_p7 _ (List.mem_of_getElem? (i := 3) rfl))
theorem kx_X11_readStep : Cond.selects yX11_readStep.cls yX11_readStep yX11_readStep ∈ cm_all := cm_sel (q := (yX11_readStep, 19)) (cm_p7 _ (List.mem_of_getElem? (i := 4) rfl))
theorem kx_X11_throwsIf : Cond.selects yX11_throwsIf.cls yX11_throwsIf yX11_throwsIf ∈ cm_all := cm_sel (q := (yX11_throwsIf, 19)) (cm_p7 _ (List.mem_of_getElem? (i := 5) rfl))
theorem kx_X11_of : Cond.selects yX11_of.cls yX11_of yX11_of ∈ cm_all := cm_sel (q := (yX11_of, 19)) (cm_p7 _ (List.mem_of_getElem? (i := 6) rfl))
theorem kx_X11_stepsOf : Cond.selects yX11_stepsOf.cls yX11_stepsOf yX11_stepsOf ∈ cm_all := cm_sel (q := (yX11_stepsOf, 19)) (cm_p7 _ (List.mem_of_getElem? (i := 7) rfl))
theorem kx_X11_stepOf : Cond.selects yX11_stepOf.cls yX11_stepOf yX11_stepOf ∈ cm_all := cm_sel (q := (yX11_stepOf, 19)) (cm_p7 _ (List.mem_of_getElem? (i := 8) rfl))
theorem kx_X11_ticks : Cond.selects yX11_ticks.cls yX11_ticks yX11_ticks ∈ cm_all := cm_sel (q := (yX11_ticks, 19)) (cm_p7 _ (List.mem_of_getElem? (i := 9) rfl))
theorem kx_X11_goes : Cond.selects yX11_goes.cls yX11_goes yX11_goes ∈ cm_all := cm_sel (q := (yX11_goes, 19)) (cm_p7 _ (List.mem_of_getElem? (i := 10) rfl))
theorem kx_X11_currentOf : Cond.selects yX11_currentOf.cls yX11_currentOf yX11_currentOf ∈ cm_all := cm_sel (q := (yX11_currentOf, 19)) (cm_p7 _ (List.mem_of_getElem? (i := 11) rfl))
theorem kx_X11_wantedOf : Cond.selects yX11_wantedOf.cls yX11_wantedOf yX11_wantedOf ∈ cm_all := cm_sel (q := (yX11_wantedOf, 19)) (cm_p7 _ (List.mem_of_getElem? (i := 12) rfl))
theorem kx_X11_step : Cond.selects yX11_step.cls yX11_step yX11_step ∈ cm_all := cm_sel (q := (yX11_step, 19)) (cm_p7 _ (List.mem_of_getElem? (i := 13) rfl))
theorem kx_X11_restAt : Cond.selects yX11_restAt.cls yX11_restAt yX11_restAt ∈ cm_all := cm_sel (q := (yX11_restAt, 19)) (cm_p7 _ (List.mem_of_getElem? (i := 14) rfl))
theorem kx_X11_voltsMany : Cond.selects yX11_voltsMany.cls yX11_voltsMany yX11_voltsMany ∈ cm_all := cm_sel (q := (yX11_voltsMany, 19)) (cm_p7 _ (List.mem_of_getElem? (i := 15) rfl))
theorem kx_X11_volts : Cond.selects yX11_volts.cls yX11_volts yX11_volts ∈ cm_all := cm_sel (q := (yX11_volts, 19)) (cm_p8 _ (List.mem_of_getElem? (i := 0) rfl))
theorem kx_X11_flows : Cond.selects yX11_flows.cls yX11_flows yX11_flows ∈ cm_all := cm_sel (q := (yX11_flows, 19)) (cm_p8 _ (List.mem_of_getElem? (i := 1) rfl))
theorem kx_X11_polarizes : Cond.selects yX11_polarizes.cls yX11_polarizes yX11_polarizes ∈ cm_all := cm_sel (q := (yX11_polarizes, 19)) (cm_p8 _ (List.mem_of_getElem? (i := 2) rfl))
theorem kx_X11_put : Cond.selects yX11_put.cls yX11_put yX11_put ∈ cm_all := cm_sel (q := (yX11_put, 19)) (cm_p8 _ (List.mem_of_getElem? (i := 3) rfl))
theorem kx_X11_moves : Cond.selects yX11_moves.cls yX11_moves yX11_moves ∈ cm_all := cm_sel (q := (yX11_moves, 19)) (cm_p8 _ (List.mem_of_getElem? (i := 4) rfl))
theorem kx_X11_adds : Cond.selects yX11_adds.cls yX11_adds yX11_adds ∈ cm_all := cm_sel (q := (yX11_adds, 19)) (cm_p8 _ (List.mem_of_getElem? (i := 5) rfl))
theorem kx_X11_fades : Cond.selects yX11_fades.cls yX11_fades yX11_fades ∈ cm_all := cm_sel (q := (yX11_fades, 19)) (cm_p8 _ (List.mem_of_getElem? (i := 6) rfl))
theorem kx_X11_warms : Cond.selects yX11_warms.cls yX11_warms yX11_warms ∈ cm_all := cm_sel (q := (yX11_warms, 19)) (cm_p8 _ (List.mem_of_getElem? (i := 7) rfl))
theorem kx_X11_filled : Cond.selects yX11_filled.cls yX11_filled yX11_filled ∈ cm_all := cm_sel (q := (yX11_filled, 19)) (cm_p8 _ (List.mem_of_getElem? (i := 8) rfl))
theorem kx_X11_warns : Cond.selects yX11_warns.cls yX11_warns yX11_warns ∈ cm_all := cm_sel (q := (yX11_warns, 19)) (cm_p8 _ (List.mem_of_getElem? (i := 9) rfl))
theorem kx_X11_warningNow : Cond.selects yX11_warningNow.cls yX11_warningNow yX11_warningNow ∈ cm_all := cm_sel (q := (yX11_warningNow, 19)) (cm_p8 _ (List.mem_of_getElem? (i := 10) rfl))
theorem kx_X11_notes : Cond.selects yX11_notes.cls yX11_notes yX11_notes ∈ cm_all := cm_sel (q := (yX11_notes, 19)) (cm_p8 _ (List.mem_of_getElem? (i := 11) rfl))
theorem kx_X11_watches : Cond.selects yX11_watches.cls yX11_watches yX11_watches ∈ cm_all := cm_sel (q := (yX11_watches, 19)) (cm_p8 _ (List.mem_of_getElem? (i := 12) rfl))
theorem kx_X11_reasonNow : Cond.selects yX11_reasonNow.cls yX11_reasonNow yX11_reasonNow ∈ cm_all := cm_sel (q := (yX11_reasonNow, 19)) (cm_p8 _ (List.mem_of_getElem? (i := 13) rfl))
theorem kx_X11_isOver : Cond.selects yX11_isOver.cls yX11_isOver yX11_isOver ∈ cm_all := cm_sel (q := (yX11_isOver, 19)) (cm_p8 _ (List.mem_of_getElem? (i := 14) rfl))
theorem kx_X11_ends : Cond.selects yX11_ends.cls yX11_ends yX11_ends ∈ cm_all := cm_sel (q := (yX11_ends, 19)) (cm_p8 _ (List.mem_of_getElem? (i := 15) rfl))
theorem kx_X11_records : Cond.selects yX11_records.cls yX11_records yX11_records ∈ cm_all := cm_sel (q := (yX11_records, 19)) (cm_p9 _ (List.mem_of_getElem? (i := 0) rfl))
theorem kx_X11_sum : Cond.selects yX11_sum.cls yX11_sum yX11_sum ∈ cm_all := cm_sel (q := (yX11_sum, 19)) (cm_p9 _ (List.mem_of_getElem? (i := 1) rfl))
theorem kx_X11_clears : Cond.selects yX11_clears.cls yX11_clears yX11_clears ∈ cm_all := cm_sel (q := (yX11_clears, 19)) (cm_p9 _ (List.mem_of_getElem? (i := 2) rfl))
theorem kx_X11_putSum : Cond.selects yX11_putSum.cls yX11_putSum yX11_putSum ∈ cm_all := cm_sel (q := (yX11_putSum, 19)) (cm_p9 _ (List.mem_of_getElem? (i := 3) rfl))
theorem kx_X11_comes : Cond.selects yX11_comes.cls yX11_comes yX11_comes ∈ cm_all := cm_sel (q := (yX11_comes, 19)) (cm_p9 _ (List.mem_of_getElem? (i := 4) rfl))
theorem kx_X11_comesToEnd : Cond.selects yX11_comesToEnd.cls yX11_comesToEnd yX11_comesToEnd ∈ cm_all := cm_sel (q := (yX11_comesToEnd, 19)) (cm_p9 _ (List.mem_of_getElem? (i := 5) rfl))
theorem kx_X11_leavesQueue : Cond.selects yX11_leavesQueue.cls yX11_leavesQueue yX11_leavesQueue ∈ cm_all := cm_sel (q := (yX11_leavesQueue, 19)) (cm_p9 _ (List.mem_of_getElem? (i := 6) rfl))
theorem kx_X11_startsOn : Cond.selects yX11_startsOn.cls yX11_startsOn yX11_startsOn ∈ cm_all := cm_sel (q := (yX11_startsOn, 19)) (cm_p9 _ (List.mem_of_getElem? (i := 7) rfl))
theorem kx_X11_noProgram : Cond.selects yX11_noProgram.cls yX11_noProgram yX11_noProgram ∈ cm_all := cm_sel (q := (yX11_noProgram, 19)) (cm_p9 _ (List.mem_of_getElem? (i := 8) rfl))
theorem kx_X11_noChannel : Cond.selects yX11_noChannel.cls yX11_noChannel yX11_noChannel ∈ cm_all := cm_sel (q := (yX11_noChannel, 19)) (cm_p9 _ (List.mem_of_getElem? (i := 9) rfl))
theorem kx_X11_isIn : Cond.selects yX11_isIn.cls yX11_isIn yX11_isIn ∈ cm_all := cm_sel (q := (yX11_isIn, 19)) (cm_p9 _ (List.mem_of_getElem? (i := 10) rfl))
theorem kx_X11_turns : Cond.selects yX11_turns.cls yX11_turns yX11_turns ∈ cm_all := cm_sel (q := (yX11_turns, 19)) (cm_p9 _ (List.mem_of_getElem? (i := 11) rfl))
theorem kx_X11_share : Cond.selects yX11_share.cls yX11_share yX11_share ∈ cm_all := cm_sel (q := (yX11_share, 19)) (cm_p9 _ (List.mem_of_getElem? (i := 12) rfl))
theorem kx_X11_recorded : Cond.selects yX11_recorded.cls yX11_recorded yX11_recorded ∈ cm_all := cm_sel (q := (yX11_recorded, 19)) (cm_p9 _ (List.mem_of_getElem? (i := 13) rfl))
theorem kx_X11_isCounting : Cond.selects yX11_isCounting.cls yX11_isCounting yX11_isCounting ∈ cm_all := cm_sel (q := (yX11_isCounting, 19)) (cm_p9 _ (List.mem_of_getElem? (i := 14) rfl))
theorem kx_X11_goesAside : Cond.selects yX11_goesAside.cls yX11_goesAside yX11_goesAside ∈ cm_all := cm_sel (q := (yX11_goesAside, 19)) (cm_p9 _ (List.mem_of_getElem? (i := 15) rfl))
theorem kx_X11_alone : Cond.selects yX11_alone.cls yX11_alone yX11_alone ∈ cm_all := cm_sel (q := (yX11_alone, 19)) (cm_p10 _ (List.mem_of_getElem? (i := 0) rfl))
theorem kx_X11_comesBack : Cond.selects yX11_comesBack.cls yX11_comesBack yX11_comesBack ∈ cm_all := cm_sel (q := (yX11_comesBack, 19)) (cm_p10 _ (List.mem_of_getElem? (i := 1) rfl))
theorem kx_X11_untilAside : Cond.selects yX11_untilAside.cls yX11_untilAside yX11_untilAside ∈ cm_all := cm_sel (q := (yX11_untilAside, 19)) (cm_p10 _ (List.mem_of_getElem? (i := 2) rfl))
theorem kx_X11_until : Cond.selects yX11_until.cls yX11_until yX11_until ∈ cm_all := cm_sel (q := (yX11_until, 19)) (cm_p10 _ (List.mem_of_getElem? (i := 3) rfl))
theorem kx_X11_durationOf : Cond.selects yX11_durationOf.cls yX11_durationOf yX11_durationOf ∈ cm_all := cm_sel (q := (yX11_durationOf, 19)) (cm_p10 _ (List.mem_of_getElem? (i := 4) rfl))
theorem kx_X11_isSafe : Cond.selects yX11_isSafe.cls yX11_isSafe yX11_isSafe ∈ cm_all := cm_sel (q := (yX11_isSafe, 19)) (cm_p10 _ (List.mem_of_getElem? (i := 5) rfl))
theorem kx_X11_noSlot : Cond.selects yX11_noSlot.cls yX11_noSlot yX11_noSlot ∈ cm_all := cm_sel (q := (yX11_noSlot, 19)) (cm_p10 _ (List.mem_of_getElem? (i := 6) rfl))
theorem in_X0 : ∀ w ∈ u_ws RX0 TX0 16, w ∈ cm_all := by
  intro w hw
  obtain ⟨k, hk, rfl⟩ := List.mem_map.mp hw
  have hk := List.mem_range.mp hk
  match k, hk with
  | 0, _ => exact cm_inT (cm_t2 _ (List.mem_of_getElem? (i := 11) rfl)) (by decide)
  | 1, _ => exact cm_inT (cm_t2 _ (List.mem_of_getElem? (i := 13) rfl)) (by decide)
  | 2, _ => exact cm_inT (cm_t2 _ (List.mem_of_getElem? (i := 15) rfl)) (by decide)
  | 3, _ => exact cm_inT (cm_t2 _ (List.mem_of_getElem? (i := 17) rfl)) (by decide)
  | 4, _ => exact cm_inT (cm_t2 _ (List.mem_of_getElem? (i := 19) rfl)) (by decide)
  | 5, _ => exact cm_inT (cm_t2 _ (List.mem_of_getElem? (i := 21) rfl)) (by decide)
  | 6, _ => exact cm_inT (cm_t2 _ (List.mem_of_getElem? (i := 23) rfl)) (by decide)
  | 7, _ => exact cm_inT (cm_t2 _ (List.mem_of_getElem? (i := 25) rfl)) (by decide)
  | 8, _ => exact cm_inT (cm_t2 _ (List.mem_of_getElem? (i := 27) rfl)) (by decide)
  | 9, _ => exact cm_inT (cm_t2 _ (List.mem_of_getElem? (i := 29) rfl)) (by decide)
  | 10, _ => exact cm_inT (cm_t2 _ (List.mem_of_getElem? (i := 31) rfl)) (by decide)
  | 11, _ => exact cm_inT (cm_t2 _ (List.mem_of_getElem? (i := 33) rfl)) (by decide)
  | 12, _ => exact cm_inT (cm_t2 _ (List.mem_of_getElem? (i := 35) rfl)) (by decide)
  | 13, _ => exact cm_inT (cm_t2 _ (List.mem_of_getElem? (i := 37) rfl)) (by decide)
  | 14, _ => exact cm_inT (cm_t2 _ (List.mem_of_getElem? (i := 39) rfl)) (by decide)
  | 15, _ => exact cm_inT (cm_t2 _ (List.mem_of_getElem? (i := 41) rfl)) (by decide)
  | k + 16, hk => exact absurd hk (by omega)
theorem in_X1 : ∀ w ∈ u_ws RX1 TX1 14, w ∈ cm_all := by
  intro w hw
  obtain ⟨k, hk, rfl⟩ := List.mem_map.mp hw
  have hk := List.mem_range.mp hk
  match k, hk with
  | 0, _ => exact cm_inT (cm_t2 _ (List.mem_of_getElem? (i := 109) rfl)) (by decide)
  | 1, _ => exact cm_inT (cm_t2 _ (List.mem_of_getElem? (i := 111) rfl)) (by decide)
  | 2, _ => exact cm_inT (cm_t2 _ (List.mem_of_getElem? (i := 113) rfl)) (by decide)
  | 3, _ => exact cm_inT (cm_t2 _ (List.mem_of_getElem? (i := 115) rfl)) (by decide)
  | 4, _ => exact cm_inT (cm_t2 _ (List.mem_of_getElem? (i := 117) rfl)) (by decide)
  | 5, _ => exact cm_inT (cm_t2 _ (List.mem_of_getElem? (i := 119) rfl)) (by decide)
  | 6, _ => exact cm_inT (cm_t2 _ (List.mem_of_getElem? (i := 121) rfl)) (by decide)
  | 7, _ => exact cm_inT (cm_t2 _ (List.mem_of_getElem? (i := 123) rfl)) (by decide)
  | 8, _ => exact cm_inT (cm_t2 _ (List.mem_of_getElem? (i := 125) rfl)) (by decide)
  | 9, _ => exact cm_inT (cm_t2 _ (List.mem_of_getElem? (i := 127) rfl)) (by decide)
  | 10, _ => exact cm_inT (cm_t2 _ (List.mem_of_getElem? (i := 129) rfl)) (by decide)
  | 11, _ => exact cm_inT (cm_t2 _ (List.mem_of_getElem? (i := 131) rfl)) (by decide)
  | 12, _ => exact cm_inT (cm_t2 _ (List.mem_of_getElem? (i := 133) rfl)) (by decide)
  | 13, _ => exact cm_inT (cm_t2 _ (List.mem_of_getElem? (i := 135) rfl)) (by decide)
  | k + 14, hk => exact absurd hk (by omega)
theorem in_X2 : ∀ w ∈ u_ws RX2 TX2 4, w ∈ cm_all := by
  intro w hw
  obtain ⟨k, hk, rfl⟩ := List.mem_map.mp hw
  have hk := List.mem_range.mp hk
  match k, hk with
  | 0, _ => exact cm_inT (cm_t1 _ (List.mem_of_getElem? (i := 136) rfl)) (by decide)
  | 1, _ => exact cm_inT (cm_t1 _ (List.mem_of_getElem? (i := 138) rfl)) (by decide)
  | 2, _ => exact cm_inT (cm_t1 _ (List.mem_of_getElem? (i := 140) rfl)) (by decide)
  | 3, _ => exact cm_inT (cm_t1 _ (List.mem_of_getElem? (i := 142) rfl)) (by decide)
  | k + 4, hk => exact absurd hk (by omega)
theorem in_X3 : ∀ w ∈ u_ws RX3 TX3 4, w ∈ cm_all := by
  intro w hw
  obtain ⟨k, hk, rfl⟩ := List.mem_map.mp hw
  have hk := List.mem_range.mp hk
  match k, hk with
  | 0, _ => exact cm_inT (cm_t1 _ (List.mem_of_getElem? (i := 205) rfl)) (by decide)
  | 1, _ => exact cm_inT (cm_t1 _ (List.mem_of_getElem? (i := 207) rfl)) (by decide)
  | 2, _ => exact cm_inT (cm_t1 _ (List.mem_of_getElem? (i := 209) rfl)) (by decide)
  | 3, _ => exact cm_inT (cm_t1 _ (List.mem_of_getElem? (i := 211) rfl)) (by decide)
  | k + 4, hk => exact absurd hk (by omega)
theorem in_X4 : ∀ w ∈ u_ws RX4 TX4 7, w ∈ cm_all := by
  intro w hw
  obtain ⟨k, hk, rfl⟩ := List.mem_map.mp hw
  have hk := List.mem_range.mp hk
  match k, hk with
  | 0, _ => exact cm_inT (cm_t2 _ (List.mem_of_getElem? (i := 69) rfl)) (by decide)
  | 1, _ => exact cm_inT (cm_t2 _ (List.mem_of_getElem? (i := 71) rfl)) (by decide)
  | 2, _ => exact cm_inT (cm_t2 _ (List.mem_of_getElem? (i := 73) rfl)) (by decide)
  | 3, _ => exact cm_inT (cm_t2 _ (List.mem_of_getElem? (i := 75) rfl)) (by decide)
  | 4, _ => exact cm_inT (cm_t2 _ (List.mem_of_getElem? (i := 77) rfl)) (by decide)
  | 5, _ => exact cm_inT (cm_t2 _ (List.mem_of_getElem? (i := 79) rfl)) (by decide)
  | 6, _ => exact cm_inT (cm_t2 _ (List.mem_of_getElem? (i := 81) rfl)) (by decide)
  | k + 7, hk => exact absurd hk (by omega)
theorem in_X5 : ∀ w ∈ u_ws RX5 TX5 5, w ∈ cm_all := by
  intro w hw
  obtain ⟨k, hk, rfl⟩ := List.mem_map.mp hw
  have hk := List.mem_range.mp hk
  match k, hk with
  | 0, _ => exact cm_inT (cm_t1 _ (List.mem_of_getElem? (i := 161) rfl)) (by decide)
  | 1, _ => exact cm_inT (cm_t1 _ (List.mem_of_getElem? (i := 163) rfl)) (by decide)
  | 2, _ => exact cm_inT (cm_t1 _ (List.mem_of_getElem? (i := 165) rfl)) (by decide)
  | 3, _ => exact cm_inT (cm_t1 _ (List.mem_of_getElem? (i := 167) rfl)) (by decide)
  | 4, _ => exact cm_inT (cm_t1 _ (List.mem_of_getElem? (i := 169) rfl)) (by decide)
  | k + 5, hk => exact absurd hk (by omega)
theorem in_X6 : ∀ w ∈ u_ws RX6 TX6 7, w ∈ cm_all := by
  intro w hw
  obtain ⟨k, hk, rfl⟩ := List.mem_map.mp hw
  have hk := List.mem_range.mp hk
  match k, hk with
  | 0, _ => exact cm_inT (cm_t3 _ (List.mem_of_getElem? (i := 24) rfl)) (by decide)
  | 1, _ => exact cm_inT (cm_t3 _ (List.mem_of_getElem? (i := 26) rfl)) (by decide)
  | 2, _ => exact cm_inT (cm_t3 _ (List.mem_of_getElem? (i := 28) rfl)) (by decide)
  | 3, _ => exact cm_inT (cm_t3 _ (List.mem_of_getElem? (i := 30) rfl)) (by decide)
  | 4, _ => exact cm_inT (cm_t3 _ (List.mem_of_getElem? (i := 32) rfl)) (by decide)
  | 5, _ => exact cm_inT (cm_t3 _ (List.mem_of_getElem? (i := 34) rfl)) (by decide)
  | 6, _ => exact cm_inT (cm_t3 _ (List.mem_of_getElem? (i := 36) rfl)) (by decide)
  | k + 7, hk => exact absurd hk (by omega)
theorem in_X7 : ∀ w ∈ u_ws RX7 TX7 12, w ∈ cm_all := by
  intro w hw
  obtain ⟨k, hk, rfl⟩ := List.mem_map.mp hw
  have hk := List.mem_range.mp hk
  match k, hk with
  | 0, _ => exact cm_inT (cm_t1 _ (List.mem_of_getElem? (i := 97) rfl)) (by decide)
  | 1, _ => exact cm_inT (cm_t1 _ (List.mem_of_getElem? (i := 99) rfl)) (by decide)
  | 2, _ => exact cm_inT (cm_t1 _ (List.mem_of_getElem? (i := 101) rfl)) (by decide)
  | 3, _ => exact cm_inT (cm_t1 _ (List.mem_of_getElem? (i := 103) rfl)) (by decide)
  | 4, _ => exact cm_inT (cm_t1 _ (List.mem_of_getElem? (i := 105) rfl)) (by decide)
  | 5, _ => exact cm_inT (cm_t1 _ (List.mem_of_getElem? (i := 107) rfl)) (by decide)
  | 6, _ => exact cm_inT (cm_t1 _ (List.mem_of_getElem? (i := 109) rfl)) (by decide)
  | 7, _ => exact cm_inT (cm_t1 _ (List.mem_of_getElem? (i := 111) rfl)) (by decide)
  | 8, _ => exact cm_inT (cm_t1 _ (List.mem_of_getElem? (i := 113) rfl)) (by decide)
  | 9, _ => exact cm_inT (cm_t1 _ (List.mem_of_getElem? (i := 115) rfl)) (by decide)
  | 10, _ => exact cm_inT (cm_t1 _ (List.mem_of_getElem? (i := 117) rfl)) (by decide)
  | 11, _ => exact cm_inT (cm_t1 _ (List.mem_of_getElem? (i := 119) rfl)) (by decide)
  | k + 12, hk => exact absurd hk (by omega)
theorem in_X8 : ∀ w ∈ u_ws RX8 TX8 5, w ∈ cm_all := by
  intro w hw
  obtain ⟨k, hk, rfl⟩ := List.mem_map.mp hw
  have hk := List.mem_range.mp hk
  match k, hk with
  | 0, _ => exact cm_inT (cm_t2 _ (List.mem_of_getElem? (i := 157) rfl)) (by decide)
  | 1, _ => exact cm_inT (cm_t2 _ (List.mem_of_getElem? (i := 159) rfl)) (by decide)
  | 2, _ => exact cm_inT (cm_t2 _ (List.mem_of_getElem? (i := 161) rfl)) (by decide)
  | 3, _ => exact cm_inT (cm_t2 _ (List.mem_of_getElem? (i := 163) rfl)) (by decide)
  | 4, _ => exact cm_inT (cm_t2 _ (List.mem_of_getElem? (i := 165) rfl)) (by decide)
  | k + 5, hk => exact absurd hk (by omega)
theorem in_X9 : ∀ w ∈ u_ws RX9 TX9 8, w ∈ cm_all := by
  intro w hw
  obtain ⟨k, hk, rfl⟩ := List.mem_map.mp hw
  have hk := List.mem_range.mp hk
  match k, hk with
  | 0, _ => exact cm_inT (cm_t2 _ (List.mem_of_getElem? (i := 191) rfl)) (by decide)
  | 1, _ => exact cm_inT (cm_t2 _ (List.mem_of_getElem? (i := 193) rfl)) (by decide)
  | 2, _ => exact cm_inT (cm_t2 _ (List.mem_of_getElem? (i := 195) rfl)) (by decide)
  | 3, _ => exact cm_inT (cm_t2 _ (List.mem_of_getElem? (i := 197) rfl)) (by decide)
  | 4, _ => exact cm_inT (cm_t2 _ (List.mem_of_getElem? (i := 199) rfl)) (by decide)
  | 5, _ => exact cm_inT (cm_t2 _ (List.mem_of_getElem? (i := 201) rfl)) (by decide)
  | 6, _ => exact cm_inT (cm_t2 _ (List.mem_of_getElem? (i := 203) rfl)) (by decide)
  | 7, _ => exact cm_inT (cm_t2 _ (List.mem_of_getElem? (i := 205) rfl)) (by decide)
  | k + 8, hk => exact absurd hk (by omega)
theorem in_X10 : ∀ w ∈ u_ws RX10 TX10 6, w ∈ cm_all := by
  intro w hw
  obtain ⟨k, hk, rfl⟩ := List.mem_map.mp hw
  have hk := List.mem_range.mp hk
  match k, hk with
  | 0, _ => exact cm_inT (cm_t2 _ (List.mem_of_getElem? (i := 215) rfl)) (by decide)
  | 1, _ => exact cm_inT (cm_t2 _ (List.mem_of_getElem? (i := 217) rfl)) (by decide)
  | 2, _ => exact cm_inT (cm_t2 _ (List.mem_of_getElem? (i := 219) rfl)) (by decide)
  | 3, _ => exact cm_inT (cm_t2 _ (List.mem_of_getElem? (i := 221) rfl)) (by decide)
  | 4, _ => exact cm_inT (cm_t2 _ (List.mem_of_getElem? (i := 223) rfl)) (by decide)
  | 5, _ => exact cm_inT (cm_t2 _ (List.mem_of_getElem? (i := 225) rfl)) (by decide)
  | k + 6, hk => exact absurd hk (by omega)
theorem in_X11 : ∀ w ∈ u_ws RX11 TX11 19, w ∈ cm_all := by
  intro w hw
  obtain ⟨k, hk, rfl⟩ := List.mem_map.mp hw
  have hk := List.mem_range.mp hk
  match k, hk with
  | 0, _ => exact cm_inT (cm_t7 _ (List.mem_of_getElem? (i := 61) rfl)) (by decide)
  | 1, _ => exact cm_inT (cm_t7 _ (List.mem_of_getElem? (i := 63) rfl)) (by decide)
  | 2, _ => exact cm_inT (cm_t7 _ (List.mem_of_getElem? (i := 65) rfl)) (by decide)
  | 3, _ => exact cm_inT (cm_t7 _ (List.mem_of_getElem? (i := 67) rfl)) (by decide)
  | 4, _ => exact cm_inT (cm_t7 _ (List.mem_of_getElem? (i := 69) rfl)) (by decide)
  | 5, _ => exact cm_inT (cm_t7 _ (List.mem_of_getElem? (i := 71) rfl)) (by decide)
  | 6, _ => exact cm_inT (cm_t7 _ (List.mem_of_getElem? (i := 73) rfl)) (by decide)
  | 7, _ => exact cm_inT (cm_t7 _ (List.mem_of_getElem? (i := 75) rfl)) (by decide)
  | 8, _ => exact cm_inT (cm_t7 _ (List.mem_of_getElem? (i := 77) rfl)) (by decide)
  | 9, _ => exact cm_inT (cm_t7 _ (List.mem_of_getElem? (i := 79) rfl)) (by decide)
  | 10, _ => exact cm_inT (cm_t7 _ (List.mem_of_getElem? (i := 81) rfl)) (by decide)
  | 11, _ => exact cm_inT (cm_t7 _ (List.mem_of_getElem? (i := 83) rfl)) (by decide)
  | 12, _ => exact cm_inT (cm_t7 _ (List.mem_of_getElem? (i := 85) rfl)) (by decide)
  | 13, _ => exact cm_inT (cm_t7 _ (List.mem_of_getElem? (i := 87) rfl)) (by decide)
  | 14, _ => exact cm_inT (cm_t7 _ (List.mem_of_getElem? (i := 89) rfl)) (by decide)
  | 15, _ => exact cm_inT (cm_t7 _ (List.mem_of_getElem? (i := 91) rfl)) (by decide)
  | 16, _ => exact cm_inT (cm_t7 _ (List.mem_of_getElem? (i := 93) rfl)) (by decide)
  | 17, _ => exact cm_inT (cm_t7 _ (List.mem_of_getElem? (i := 95) rfl)) (by decide)
  | 18, _ => exact cm_inT (cm_t7 _ (List.mem_of_getElem? (i := 97) rfl)) (by decide)
  | k + 19, hk => exact absurd hk (by omega)
