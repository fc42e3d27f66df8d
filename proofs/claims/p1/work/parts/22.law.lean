theorem dL_law_1321 : decode cL_law 1321 = .ok (.aload_n 1, 1) := by decide +kernel
theorem dL_law_1322 : decode cL_law 1322 = .ok (.aload_n 0, 1) := by decide +kernel
theorem dL_law_1323 : decode cL_law 1323 = .ok (.iload 5, 2) := by decide +kernel
theorem dL_law_1325 : decode cL_law 1325 = .ok (.iconst 1, 1) := by decide +kernel
theorem dL_law_1326 : decode cL_law 1326 = .ok (.iadd, 1) := by decide +kernel
theorem dL_law_1327 : decode cL_law 1327 = .ok (.iaload, 1) := by decide +kernel
theorem dL_law_1328 : decode cL_law 1328 = .ok (.aload_n 3, 1) := by decide +kernel
theorem dL_law_1329 : decode cL_law 1329 = .ok (.invokestatic 253, 3) := by decide +kernel
theorem dL_law_1332 : decode cL_law 1332 = .ok (.istore 6, 2) := by decide +kernel
theorem dL_law_1334 : decode cL_law 1334 = .ok (.aload_n 2, 1) := by decide +kernel
theorem dL_law_1335 : decode cL_law 1335 = .ok (.aload_n 0, 1) := by decide +kernel
theorem dL_law_1336 : decode cL_law 1336 = .ok (.iload 5, 2) := by decide +kernel
theorem dL_law_1338 : decode cL_law 1338 = .ok (.iconst 1, 1) := by decide +kernel
theorem dL_law_1339 : decode cL_law 1339 = .ok (.iadd, 1) := by decide +kernel
theorem dL_law_1340 : decode cL_law 1340 = .ok (.iaload, 1) := by decide +kernel
theorem dL_law_1341 : decode cL_law 1341 = .ok (.invokevirtual 255, 3) := by decide +kernel
theorem dL_law_1344 : decode cL_law 1344 = .ok (.istore 7, 2) := by decide +kernel
theorem dL_law_1346 : decode cL_law 1346 = .ok (.aload_n 2, 1) := by decide +kernel
theorem dL_law_1347 : decode cL_law 1347 = .ok (.invokevirtual 202, 3) := by decide +kernel
theorem dL_law_1350 : decode cL_law 1350 = .ok (.iload 6, 2) := by decide +kernel
theorem dL_law_1352 : decode cL_law 1352 = .ok (.if_icmp .eq 5, 3) := by decide +kernel
theorem dL_law_1357 : decode cL_law 1357 = .ok (.iload 6, 2) := by decide +kernel
theorem dL_law_1359 : decode cL_law 1359 = .ok (.ifCond .ne 15, 3) := by decide +kernel
theorem dL_law_1374 : decode cL_law 1374 = .ok (.goto 2249, 3) := by decide +kernel
set_option maxRecDepth 100000 in
set_option maxHeartbeats 4000000 in
theorem law_20 {p : Program} {l : Launch} {e : Env} {s : State} {m : MethodId} {below : List Frame} {meth : Method} {c : Code} {D : va_G} {ct : Nat → ClassId} {A : Nat → Prop} {b : Nat} {xs : Nat → Int32} {H : Heap} {locs : List Loc} {ls : Array Slot} (hfl : l.stackTraces = false) (C1 : cmL p s m meth c D ct A b 4 xs) (x : Nat) (w : Nat) (sp : Nat) (sv : Nat) (bu : Nat) (w_se : Nat) (w_cu : Nat) (w_pr : Nat) (w_ch : Nat) (w_re : Nat) (w_lo : Nat) (mo : Nat) (mw : Nat) (ma : Nat) (mf : Nat) (m0 : Nat) (m1 : Nat) (mu : Nat) (mv : Nat) (u0 : Nat) (u1 : Nat) (iz : Nat) (mb : Nat) (ov : Nat) (od : Nat) (hP : va_P D vwCl [(x, .inr (10, [.ref w, .ref sp, .ref sv, .ref bu, .int 0, .int 0])), (w, .inr (9, [.int 0, .ref w_se, .ref w_cu, .ref w_pr, .int 0, .ref w_ch, .ref w_re, .ref w_lo])), (mo, .inr (11, [.ref mw, .ref ma, .ref mf, .ref m0, .ref m1, .ref mu, .ref mv, .ref u0, .ref u1, .ref iz, .int 0, .ref mb, .int 0, .int 0, .int 0, .int 0, .int 0, .int 0, .int 0])), (mw, .inl (ct 0, 958, .inl m_w0)), (ov, .inl (ct 1, 1, .inr (.inl (fun _ => 0))))] H) (hD : va_D A [(x, .inr (10, [.ref w, .ref sp, .ref sv, .ref bu, .int 0, .int 0])), (w, .inr (9, [.int 0, .ref w_se, .ref w_cu, .ref w_pr, .int 0, .ref w_ch, .ref w_re, .ref w_lo])), (mo, .inr (11, [.ref mw, .ref ma, .ref mf, .ref m0, .ref m1, .ref mu, .ref mv, .ref u0, .ref u1, .ref iz, .int 0, .ref mb, .int 0, .int 0, .int 0, .int 0, .int 0, .int 0, .int 0])), (mw, .inl (ct 0, 958, .inl m_w0)), (ov, .inl (ct 1, 1, .inr (.inl (fun _ => 0))))]) (hS : va_S A s.heap H locs) (hl : lv_has ls 9 [(0, .ref b), (1, .ref x), (2, .ref mo), (3, .ref ov), (4, .ref od), (5, .int 0)]) : W p l e room_1 s m #[Value.ref b] below meth c H locs 157 8795 (lw_Z below #[Value.ref b] s) (F0 m 1321 ls []) := by
  obtain ⟨hx, hb, hr, hml, hown, hts, hK, hX, hXs, hbl, hbA, hA, hAr, hlocks⟩ := id C1
  refine lv_aload_n hx hb dL_law_1321 rfl (lv_at hl 1 rfl) ?_
  refine lv_aload_n hx hb dL_law_1322 rfl (lv_at hl 0 rfl) ?_
  refine lv_iload hx hb dL_law_1323 (lv_at hl 5 rfl) ?_
  refine lv_iconst (v := 1) hx hb dL_law_1325 (by decide) ?_
  refine lv_iadd hx hb dL_law_1326 ?_
  refine cm_cst (y := 1) (by decide) ?_
  refine va_sld hx hb hXs hbl hbA hS (cm_vin (by decide)) dL_law_1327 ?_
  refine lv_aload_n hx hb dL_law_1328 rfl (lv_at hl 3 rfl) ?_
  refine cm_ki (wr := [(mo, .inr (11, [.ref mw, .ref ma, .ref mf, .ref m0, .ref m1, .ref mu, .ref mv, .ref u0, .ref u1, .ref iz, .int 0, .ref mb, .int 0, .int 0, .int 0, .int 0, .int 0, .int 0, .int 0])), (mw, .inl (ct 0, 958, .inl m_w0))]) (vx_runSW (As := [.ref x, .int (xs (1 : Int32).toNatClampNeg), .ref ov]) (rest := []) ⟨hx, hb, hml, hown, hts⟩ (l_startNext l hfl D ct x w sp sv bu w_se w_cu w_pr w_ch w_re w_lo ov (fun _ => 0) (xs (1 : Int32).toNatClampNeg) _) (cm_SW 3 hts kw_L_startNext ki_RL kl_RL_253 ks_L_startNext kd_L_startNext ⟨Nat.le_of_ble_eq_true rfl, Nat.le_of_ble_eq_true rfl⟩) (cm_preS hP hK hD hS hA hX [0, 1, 4] rfl rfl rfl) rfl rfl hl.1 rfl (lv_room (Nat.le_of_ble_eq_true rfl)) dL_law_1329 ⟨Nat.le_of_ble_eq_true rfl, Nat.le_of_ble_eq_true rfl⟩) hP hD hS hA [0, 1, 4] [2, 3] rfl rfl rfl (by decide) (fun r_1 u H locs hw_2 hP hD hS => ?_)
  have hw_2 : r_1 = 1 := hw_2
  obtain rfl := hw_2
  have hP : va_P D vwCl [(mo, .inr (11, [.ref mw, .ref ma, .ref mf, .ref m0, .ref m1, .ref mu, .ref mv, .ref u0, .ref u1, .ref iz, .int 0, .ref mb, .int 0, .int 0, .int 0, .int 0, .int 0, .int 0, .int 0])), (mw, .inl (ct 0, 958, .inl m_w0))] H := hP
  have hD : va_D A [(mo, .inr (11, [.ref mw, .ref ma, .ref mf, .ref m0, .ref m1, .ref mu, .ref mv, .ref u0, .ref u1, .ref iz, .int 0, .ref mb, .int 0, .int 0, .int 0, .int 0, .int 0, .int 0, .int 0])), (mw, .inl (ct 0, 958, .inl m_w0))] := hD
  refine W.widen (k := 158) (n := 8801) (Nat.le_of_ble_eq_true rfl) (Nat.le_of_ble_eq_true rfl) ?_
  refine lv_istore (lv' := [(6, .int 1), (0, .ref b), (1, .ref x), (2, .ref mo), (3, .ref ov), (4, .ref od), (5, .int 0)]) hx hb dL_law_1332 hl (by decide) rfl (fun ls hl => ?_)
  refine lv_aload_n hx hb dL_law_1334 rfl (lv_at hl 3 rfl) ?_
  refine lv_aload_n hx hb dL_law_1335 rfl (lv_at hl 1 rfl) ?_
  refine lv_iload hx hb dL_law_1336 (lv_at hl 6 rfl) ?_
  refine lv_iconst (v := 1) hx hb dL_law_1338 (by decide) ?_
  refine lv_iadd hx hb dL_law_1339 ?_
  refine cm_cst (y := 1) (by decide) ?_
  refine va_sld hx hb hXs hbl hbA hS (cm_vin (by decide)) dL_law_1340 ?_
  refine cm_ki (wr := []) (va_runV (As := [.int (xs (1 : Int32).toNatClampNeg)]) (rest := []) ⟨hx, hb, hml, hown, hts⟩ (m_startNext_0 l D ct mo mw ma mf m0 m1 mu mv u0 u1 iz mb (xs (1 : Int32).toNatClampNeg) _) (cm_V 1 hts kc_X11_startNext ki_RX11 kl_RL_255 kv_X11_startNext kx_X11_startNext kd_X11_startNext ⟨Nat.le_of_ble_eq_true rfl, Nat.le_of_ble_eq_true rfl⟩) (cm_preV hP hK hD hS hA hX [0, 1] rfl rfl rfl (q0 := 0) (ci := 11) rfl rfl) rfl rfl hl.1 rfl (lv_room (Nat.le_of_ble_eq_true rfl)) dL_law_1341 ⟨Nat.le_of_ble_eq_true rfl, Nat.le_of_ble_eq_true rfl⟩) hP hD hS hA [0, 1] [] rfl rfl rfl (by decide) (fun r_3 u H locs hw_4 hP hD hS => ?_)
  have hP : va_P D vwCl [(mo, .inr (11, [.ref mw, .ref ma, .ref mf, .ref m0, .ref m1, .ref mu, .ref mv, .ref u0, .ref u1, .ref iz, .int 1, .ref mb, .int 0, .int 0, .int 0, .int 0, .int 0, .int 0, .int 0])), (mw, .inl (ct 0, 958, .inl m_w0))] H := hP
  have hD : va_D A [(mo, .inr (11, [.ref mw, .ref ma, .ref mf, .ref m0, .ref m1, .ref mu, .ref mv, .ref u0, .ref u1, .ref iz, .int 1, .ref mb, .int 0, .int 0, .int 0, .int 0, .int 0, .int 0, .int 0])), (mw, .inl (ct 0, 958, .inl m_w0))] := hD
  refine lv_istore (lv' := [(7, .int r_3), (6, .int 1), (0, .ref b), (1, .ref x), (2, .ref mo), (3, .ref ov), (4, .ref od), (5, .int 0)]) hx hb dL_law_1344 hl (by decide) rfl (fun ls hl => ?_)
  refine lv_aload_n hx hb dL_law_1346 rfl (lv_at hl 4 rfl) ?_
  refine cm_ki (wr := [(mw, .inl (ct 0, 958, .inl m_w0))]) (va_runV (As := []) (rest := []) ⟨hx, hb, hml, hown, hts⟩ (m_thrown l D ct mo mw ma mf m0 m1 mu mv u0 u1 iz mb 1 _) (cm_V 0 hts kc_X11_thrown ki_RX11 kl_RL_202 kv_X11_thrown kx_X11_thrown kd_X11_thrown ⟨Nat.le_of_ble_eq_true rfl, Nat.le_of_ble_eq_true rfl⟩) (cm_preV hP hK hD hS hA hX [0] rfl rfl rfl (q0 := 0) (ci := 11) rfl rfl) rfl rfl hl.1 rfl (lv_room (Nat.le_of_ble_eq_true rfl)) dL_law_1347 ⟨Nat.le_of_ble_eq_true rfl, Nat.le_of_ble_eq_true rfl⟩) hP hD hS hA [0] [1] rfl rfl rfl (by decide) (fun r_5 u H locs hw_6 hP hD hS => ?_)
  have hw_6 : r_5 = 1 := hw_6
  obtain rfl := hw_6
  have hP : va_P D vwCl [(mw, .inl (ct 0, 958, .inl m_w0)), (mo, .inr (11, [.ref mw, .ref ma, .ref mf, .ref m0, .ref m1, .ref mu, .ref mv, .ref u0, .ref u1, .ref iz, .int 1, .ref mb, .int 0, .int 0, .int 0, .int 0, .int 0, .int 0, .int 0]))] H := hP
  have hD : va_D A [(mw, .inl (ct 0, 958, .inl m_w0)), (mo, .inr (11, [.ref mw, .ref ma, .ref mf, .ref m0, .ref m1, .ref mu, .ref mv, .ref u0, .ref u1, .ref iz, .int 1, .ref mb, .int 0, .int 0, .int 0, .int 0, .int 0, .int 0, .int 0]))] := hD
  refine lv_iload hx hb dL_law_1350 (lv_at hl 1 rfl) ?_
  refine lv_icmp_eq (tgt := 1357) hx hb dL_law_1352 (by decide) (fun _ => ?_) (fun hc => absurd (by decide) hc)
  refine lv_iload hx hb dL_law_1357 (lv_at hl 1 rfl) ?_
  refine lv_if_ne (tgt := 1374) hx hb dL_law_1359 (by decide) (fun _ => ?_) (fun hc => absurd hc (by decide))
  refine lv_goto (tgt := 3623) hx hb dL_law_1374 (by decide) ?_
  exact law_end C1 hS (lv_sub hl [2, 7] rfl) (Nat.le_of_ble_eq_true rfl) (Nat.le_of_ble_eq_true rfl)
theorem dL_law_1377 : decode cL_law 1377 = .ok (.aload_n 1, 1) := by decide +kernel
theorem dL_law_1378 : decode cL_law 1378 = .ok (.aload_n 0, 1) := by decide +kernel
theorem dL_law_1379 : decode cL_law 1379 = .ok (.iload 5, 2) := by decide +kernel
theorem dL_law_1381 : decode cL_law 1381 = .ok (.iconst 1, 1) := by decide +kernel
theorem dL_law_1382 : decode cL_law 1382 = .ok (.iadd, 1) := by decide +kernel
theorem dL_law_1383 : decode cL_law 1383 = .ok (.iaload, 1) := by decide +kernel
theorem dL_law_1384 : decode cL_law 1384 = .ok (.aload_n 0, 1) := by decide +kernel
theorem dL_law_1385 : decode cL_law 1385 = .ok (.iload 5, 2) := by decide +kernel
theorem dL_law_1387 : decode cL_law 1387 = .ok (.iconst 2, 1) := by decide +kernel
theorem dL_law_1388 : decode cL_law 1388 = .ok (.iadd, 1) := by decide +kernel
theorem dL_law_1389 : decode cL_law 1389 = .ok (.iaload, 1) := by decide +kernel
theorem dL_law_1390 : decode cL_law 1390 = .ok (.aload_n 3, 1) := by decide +kernel
theorem dL_law_1391 : decode cL_law 1391 = .ok (.invokestatic 256, 3) := by decide +kernel
theorem dL_law_1394 : decode cL_law 1394 = .ok (.istore 6, 2) := by decide +kernel
theorem dL_law_1396 : decode cL_law 1396 = .ok (.aload_n 2, 1) := by decide +kernel
theorem dL_law_1397 : decode cL_law 1397 = .ok (.aload_n 0, 1) := by decide +kernel
theorem dL_law_1398 : decode cL_law 1398 = .ok (.iload 5, 2) := by decide +kernel
theorem dL_law_1400 : decode cL_law 1400 = .ok (.iconst 1, 1) := by decide +kernel
theorem dL_law_1401 : decode cL_law 1401 = .ok (.iadd, 1) := by decide +kernel
theorem dL_law_1402 : decode cL_law 1402 = .ok (.iaload, 1) := by decide +kernel
theorem dL_law_1403 : decode cL_law 1403 = .ok (.aload_n 0, 1) := by decide +kernel
theorem dL_law_1404 : decode cL_law 1404 = .ok (.iload 5, 2) := by decide +kernel
theorem dL_law_1406 : decode cL_law 1406 = .ok (.iconst 2, 1) := by decide +kernel
theorem dL_law_1407 : decode cL_law 1407 = .ok (.iadd, 1) := by decide +kernel
theorem dL_law_1408 : decode cL_law 1408 = .ok (.iaload, 1) := by decide +kernel
theorem dL_law_1409 : decode cL_law 1409 = .ok (.invokevirtual 258, 3) := by decide +kernel
theorem dL_law_1412 : decode cL_law 1412 = .ok (.istore 7, 2) := by decide +kernel
theorem dL_law_1414 : decode cL_law 1414 = .ok (.aload_n 2, 1) := by decide +kernel
theorem dL_law_1415 : decode cL_law 1415 = .ok (.invokevirtual 202, 3) := by decide +kernel
theorem dL_law_1418 : decode cL_law 1418 = .ok (.iload 6, 2) := by decide +kernel
theorem dL_law_1420 : decode cL_law 1420 = .ok (.if_icmp .eq 5, 3) := by decide +kernel
theorem dL_law_1425 : decode cL_law 1425 = .ok (.iload 6, 2) := by decide +kernel
theorem dL_law_1427 : decode cL_law 1427 = .ok (.ifCond .ne 15, 3) := by decide +kernel
theorem dL_law_1442 : decode cL_law 1442 = .ok (.goto 2181, 3) := by decide +kernel
set_option maxRecDepth 100000 in
set_option maxHeartbeats 4000000 in
theorem law_21 {p : Program} {l : Launch} {e : Env} {s : State} {m : MethodId} {below : List Frame} {meth : Method} {c : Code} {D : va_G} {ct : Nat → ClassId} {A : Nat → Prop} {b : Nat} {xs : Nat → Int32} {H : Heap} {locs : List Loc} {ls : Array Slot} (hfl : l.stackTraces = false) (C1 : cmL p s m meth c D ct A b 4 xs) (x : Nat) (w : Nat) (sp : Nat) (sv : Nat) (bu : Nat) (w_se : Nat) (w_cu : Nat) (w_pr : Nat) (w_ch : Nat) (w_re : Nat) (w_lo : Nat) (mo : Nat) (mw : Nat) (ma : Nat) (mf : Nat) (m0 : Nat) (m1 : Nat) (mu : Nat) (mv : Nat) (u0 : Nat) (u1 : Nat) (iz : Nat) (mb : Nat) (ov : Nat) (od : Nat) (hP : va_P D vwCl [(x, .inr (10, [.ref w, .ref sp, .ref sv, .ref bu, .int 0, .int 0])), (w, .inr (9, [.int 0, .ref w_se, .ref w_cu, .ref w_pr, .int 0, .ref w_ch, .ref w_re, .ref w_lo])), (mo, .inr (11, [.ref mw, .ref ma, .ref mf, .ref m0, .ref m1, .ref mu, .ref mv, .ref u0, .ref u1, .ref iz, .int 0, .ref mb, .int 0, .int 0, .int 0, .int 0, .int 0, .int 0, .int 0])), (mw, .inl (ct 0, 958, .inl m_w0)), (ov, .inl (ct 1, 1, .inr (.inl (fun _ => 0))))] H) (hD : va_D A [(x, .inr (10, [.ref w, .ref sp, .ref sv, .ref bu, .int 0, .int 0])), (w, .inr (9, [.int 0, .ref w_se, .ref w_cu, .ref w_pr, .int 0, .ref w_ch, .ref w_re, .ref w_lo])), (mo, .inr (11, [.ref mw, .ref ma, .ref mf, .ref m0, .ref m1, .ref mu, .ref mv, .ref u0, .ref u1, .ref iz, .int 0, .ref mb, .int 0, .int 0, .int 0, .int 0, .int 0, .int 0, .int 0])), (mw, .inl (ct 0, 958, .inl m_w0)), (ov, .inl (ct 1, 1, .inr (.inl (fun _ => 0))))]) (hS : va_S A s.heap H locs) (hl : lv_has ls 9 [(0, .ref b), (1, .ref x), (2, .ref mo), (3, .ref ov), (4, .ref od), (5, .int 0)]) : W p l e room_1 s m #[Value.ref b] below meth c H locs 157 8795 (lw_Z below #[Value.ref b] s) (F0 m 1377 ls []) := by
  obtain ⟨hx, hb, hr, hml, hown, hts, hK, hX, hXs, hbl, hbA, hA, hAr, hlocks⟩ := id C1
  refine lv_aload_n hx hb dL_law_1377 rfl (lv_at hl 1 rfl) ?_
  refine lv_aload_n hx hb dL_law_1378 rfl (lv_at hl 0 rfl) ?_
  refine lv_iload hx hb dL_law_1379 (lv_at hl 5 rfl) ?_
  refine lv_iconst (v := 1) hx hb dL_law_1381 (by decide) ?_
  refine lv_iadd hx hb dL_law_1382 ?_
  refine cm_cst (y := 1) (by decide) ?_
  refine va_sld hx hb hXs hbl hbA hS (cm_vin (by decide)) dL_law_1383 ?_
  refine lv_aload_n hx hb dL_law_1384 rfl (lv_at hl 0 rfl) ?_
  refine lv_iload hx hb dL_law_1385 (lv_at hl 5 rfl) ?_
  refine lv_iconst (v := 2) hx hb dL_law_1387 (by decide) ?_
  refine lv_iadd hx hb dL_law_1388 ?_
  refine cm_cst (y := 2) (by decide) ?_
  refine va_sld hx hb hXs hbl hbA hS (cm_vin (by decide)) dL_law_1389 ?_
  refine lv_aload_n hx hb dL_law_1390 rfl (lv_at hl 3 rfl) ?_
  refine cm_ki (wr := [(mo, .inr (11, [.ref mw, .ref ma, .ref mf, .ref m0, .ref m1, .ref mu, .ref mv, .ref u0, .ref u1, .ref iz, .int 0, .ref mb, .int 0, .int 0, .int 0, .int 0, .int 0, .int 0, .int 0])), (mw, .inl (ct 0, 958, .inl m_w0))]) (vx_runSW (As := [.ref x, .int (xs (1 : Int32).toNatClampNeg), .int (xs (2 : Int32).toNatClampNeg), .ref ov]) (rest := []) ⟨hx, hb, hml, hown, hts⟩ (l_queueAt l hfl D ct x w sp sv bu w_se w_cu w_pr w_ch w_re w_lo ov (fun _ => 0) (xs (1 : Int32).toNatClampNeg) (xs (2 : Int32).toNatClampNeg) _) (cm_SW 4 hts kw_L_queueAt ki_RL kl_RL_256 ks_L_queueAt kd_L_queueAt ⟨Nat.le_of_ble_eq_true rfl, Nat.le_of_ble_eq_true rfl⟩) (cm_preS hP hK hD hS hA hX [0, 1, 4] rfl rfl rfl) rfl rfl hl.1 rfl (lv_room (Nat.le_of_ble_eq_true rfl)) dL_law_1391 ⟨Nat.le_of_ble_eq_true rfl, Nat.le_of_ble_eq_true rfl⟩) hP hD hS hA [0, 1, 4] [2, 3] rfl rfl rfl (by decide) (fun r_1 u H locs hw_2 hP hD hS => ?_)
  have hw_2 : r_1 = 1 := hw_2
  obtain rfl := hw_2
  have hP : va_P D vwCl [(mo, .inr (11, [.ref mw, .ref ma, .ref mf, .ref m0, .ref m1, .ref mu, .ref mv, .ref u0, .ref u1, .ref iz, .int 0, .ref mb, .int 0, .int 0, .int 0, .int 0, .int 0, .int 0, .int 0])), (mw, .inl (ct 0, 958, .inl m_w0))] H := hP
  have hD : va_D A [(mo, .inr (11, [.ref mw, .ref ma, .ref mf, .ref m0, .ref m1, .ref mu, .ref mv, .ref u0, .ref u1, .ref iz, .int 0, .ref mb, .int 0, .int 0, .int 0, .int 0, .int 0, .int 0, .int 0])), (mw, .inl (ct 0, 958, .inl m_w0))] := hD
  refine W.widen (k := 158) (n := 8801) (Nat.le_of_ble_eq_true rfl) (Nat.le_of_ble_eq_true rfl) ?_
  refine lv_istore (lv' := [(6, .int 1), (0, .ref b), (1, .ref x), (2, .ref mo), (3, .ref ov), (4, .ref od), (5, .int 0)]) hx hb dL_law_1394 hl (by decide) rfl (fun ls hl => ?_)
  refine lv_aload_n hx hb dL_law_1396 rfl (lv_at hl 3 rfl) ?_
  refine lv_aload_n hx hb dL_law_1397 rfl (lv_at hl 1 rfl) ?_
  refine lv_iload hx hb dL_law_1398 (lv_at hl 6 rfl) ?_
  refine lv_iconst (v := 1) hx hb dL_law_1400 (by decide) ?_
  refine lv_iadd hx hb dL_law_1401 ?_
  refine cm_cst (y := 1) (by decide) ?_
  refine va_sld hx hb hXs hbl hbA hS (cm_vin (by decide)) dL_law_1402 ?_
  refine lv_aload_n hx hb dL_law_1403 rfl (lv_at hl 1 rfl) ?_
  refine lv_iload hx hb dL_law_1404 (lv_at hl 6 rfl) ?_
  refine lv_iconst (v := 2) hx hb dL_law_1406 (by decide) ?_
  refine lv_iadd hx hb dL_law_1407 ?_
  refine cm_cst (y := 2) (by decide) ?_
  refine va_sld hx hb hXs hbl hbA hS (cm_vin (by decide)) dL_law_1408 ?_
  refine cm_ki (wr := []) (va_runV (As := [.int (xs (1 : Int32).toNatClampNeg), .int (xs (2 : Int32).toNatClampNeg)]) (rest := []) ⟨hx, hb, hml, hown, hts⟩ (m_queueAt_0 l D ct mo mw ma mf m0 m1 mu mv u0 u1 iz mb (xs (1 : Int32).toNatClampNeg) (xs (2 : Int32).toNatClampNeg) _) (cm_V 2 hts kc_X11_queueAt ki_RX11 kl_RL_258 kv_X11_queueAt kx_X11_queueAt kd_X11_queueAt ⟨Nat.le_of_ble_eq_true rfl, Nat.le_of_ble_eq_true rfl⟩) (cm_preV hP hK hD hS hA hX [0, 1] rfl rfl rfl (q0 := 0) (ci := 11) rfl rfl) rfl rfl hl.1 rfl (lv_room (Nat.le_of_ble_eq_true rfl)) dL_law_1409 ⟨Nat.le_of_ble_eq_true rfl, Nat.le_of_ble_eq_true rfl⟩) hP hD hS hA [0, 1] [] rfl rfl rfl (by decide) (fun r_3 u H locs hw_4 hP hD hS => ?_)
  have hP : va_P D vwCl [(mo, .inr (11, [.ref mw, .ref ma, .ref mf, .ref m0, .ref m1, .ref mu, .ref mv, .ref u0, .ref u1, .ref iz, .int 1, .ref mb, .int 0, .int 0, .int 0, .int 0, .int 0, .int 0, .int 0])), (mw, .inl (ct 0, 958, .inl m_w0))] H := hP
  have hD : va_D A [(mo, .inr (11, [.ref mw, .ref ma, .ref mf, .ref m0, .ref m1, .ref mu, .ref mv, .ref u0, .ref u1, .ref iz, .int 1, .ref mb, .int 0, .int 0, .int 0, .int 0, .int 0, .int 0, .int 0])), (mw, .inl (ct 0, 958, .inl m_w0))] := hD
  refine lv_istore (lv' := [(7, .int r_3), (6, .int 1), (0, .ref b), (1, .ref x), (2, .ref mo), (3, .ref ov), (4, .ref od), (5, .int 0)]) hx hb dL_law_1412 hl (by decide) rfl (fun ls hl => ?_)
  refine lv_aload_n hx hb dL_law_1414 rfl (lv_at hl 4 rfl) ?_
  refine cm_ki (wr := [(mw, .inl (ct 0, 958, .inl m_w0))]) (va_runV (As := []) (rest := []) ⟨hx, hb, hml, hown, hts⟩ (m_thrown l D ct mo mw ma mf m0 m1 mu mv u0 u1 iz mb 1 _) (cm_V 0 hts kc_X11_thrown ki_RX11 kl_RL_202 kv_X11_thrown kx_X11_thrown kd_X11_thrown ⟨Nat.le_of_ble_eq_true rfl, Nat.le_of_ble_eq_true rfl⟩) (cm_preV hP hK hD hS hA hX [0] rfl rfl rfl (q0 := 0) (ci := 11) rfl rfl) rfl rfl hl.1 rfl (lv_room (Nat.le_of_ble_eq_true rfl)) dL_law_1415 ⟨Nat.le_of_ble_eq_true rfl, Nat.le_of_ble_eq_true rfl⟩) hP hD hS hA [0] [1] rfl rfl rfl (by decide) (fun r_5 u H locs hw_6 hP hD hS => ?_)
  have hw_6 : r_5 = 1 := hw_6
  obtain rfl := hw_6
  have hP : va_P D vwCl [(mw, .inl (ct 0, 958, .inl m_w0)), (mo, .inr (11, [.ref mw, .ref ma, .ref mf, .ref m0, .ref m1, .ref mu, .ref mv, .ref u0, .ref u1, .ref iz, .int 1, .ref mb, .int 0, .int 0, .int 0, .int 0, .int 0, .int 0, .int 0]))] H := hP
  have hD : va_D A [(mw, .inl (ct 0, 958, .inl m_w0)), (mo, .inr (11, [.ref mw, .ref ma, .ref mf, .ref m0, .ref m1, .ref mu, .ref mv, .ref u0, .ref u1, .ref iz, .int 1, .ref mb, .int 0, .int 0, .int 0, .int 0, .int 0, .int 0, .int 0]))] := hD
  refine lv_iload hx hb dL_law_1418 (lv_at hl 1 rfl) ?_
  refine lv_icmp_eq (tgt := 1425) hx hb dL_law_1420 (by decide) (fun _ => ?_) (fun hc => absurd (by decide) hc)
  refine lv_iload hx hb dL_law_1425 (lv_at hl 1 rfl) ?_
  refine lv_if_ne (tgt := 1442) hx hb dL_law_1427 (by decide) (fun _ => ?_) (fun hc => absurd hc (by decide))
  refine lv_goto (tgt := 3623) hx hb dL_law_1442 (by decide) ?_
  exact law_end C1 hS (lv_sub hl [2, 7] rfl) (Nat.le_of_ble_eq_true rfl) (Nat.le_of_ble_eq_true rfl)
theorem dL_law_1445 : decode cL_law 1445 = .ok (.aload_n 1, 1) := by decide +kernel
theorem dL_law_1446 : decode cL_law 1446 = .ok (.aload_n 0, 1) := by decide +kernel
theorem dL_law_1447 : decode cL_law 1447 = .ok (.iload 5, 2) := by decide +kernel
theorem dL_law_1449 : decode cL_law 1449 = .ok (.iconst 1, 1) := by decide +kernel
theorem dL_law_1450 : decode cL_law 1450 = .ok (.iadd, 1) := by decide +kernel
theorem dL_law_1451 : decode cL_law 1451 = .ok (.iaload, 1) := by decide +kernel
theorem dL_law_1452 : decode cL_law 1452 = .ok (.aload_n 3, 1) := by decide +kernel
theorem dL_law_1453 : decode cL_law 1453 = .ok (.invokestatic 259, 3) := by decide +kernel
theorem dL_law_1456 : decode cL_law 1456 = .ok (.istore 6, 2) := by decide +kernel
theorem dL_law_1458 : decode cL_law 1458 = .ok (.aload_n 2, 1) := by decide +kernel
theorem dL_law_1459 : decode cL_law 1459 = .ok (.aload_n 0, 1) := by decide +kernel
theorem dL_law_1460 : decode cL_law 1460 = .ok (.iload 5, 2) := by decide +kernel
theorem dL_law_1462 : decode cL_law 1462 = .ok (.iconst 1, 1) := by decide +kernel
theorem dL_law_1463 : decode cL_law 1463 = .ok (.iadd, 1) := by decide +kernel
theorem dL_law_1464 : decode cL_law 1464 = .ok (.iaload, 1) := by decide +kernel
theorem dL_law_1465 : decode cL_law 1465 = .ok (.invokevirtual 261, 3) := by decide +kernel
theorem dL_law_1468 : decode cL_law 1468 = .ok (.istore 7, 2) := by decide +kernel
theorem dL_law_1470 : decode cL_law 1470 = .ok (.aload_n 2, 1) := by decide +kernel
theorem dL_law_1471 : decode cL_law 1471 = .ok (.invokevirtual 202, 3) := by decide +kernel
theorem dL_law_1474 : decode cL_law 1474 = .ok (.iload 6, 2) := by decide +kernel
theorem dL_law_1476 : decode cL_law 1476 = .ok (.if_icmp .eq 5, 3) := by decide +kernel
theorem dL_law_1481 : decode cL_law 1481 = .ok (.iload 6, 2) := by decide +kernel
theorem dL_law_1483 : decode cL_law 1483 = .ok (.ifCond .ne 15, 3) := by decide +kernel
theorem dL_law_1498 : decode cL_law 1498 = .ok (.goto 2125, 3) := by decide +kernel
set_option maxRecDepth 100000 in
set_option maxHeartbeats 4000000 in
theorem law_22 {p : Program} {l : Launch} {e : Env} {s : State} {m : MethodId} {below : List Frame} {meth : Method} {c : Code} {D : va_G} {ct : Nat → ClassId} {A : Nat → Prop} {b : Nat} {xs : Nat → Int32} {H : Heap} {locs : List Loc} {ls : Array Slot} (hfl : l.stackTraces = false) (C1 : cmL p s m meth c D ct A b 4 xs) (x : Nat) (w : Nat) (sp : Nat) (sv : Nat) (bu : Nat) (w_se : Nat) (w_cu : Nat) (w_pr : Nat) (w_ch : Nat) (w_re : Nat) (w_lo : Nat) (mo : Nat) (mw : Nat) (ma : Nat) (mf : Nat) (m0 : Nat) (m1 : Nat) (mu : Nat) (mv : Nat) (u0 : Nat) (u1 : Nat) (iz : Nat) (mb : Nat) (ov : Nat) (od : Nat) (hP : va_P D vwCl [(x, .inr (10, [.ref w, .ref sp, .ref sv, .ref bu, .int 0, .int 0])), (w, .inr (9, [.int 0, .ref w_se, .ref w_cu, .ref w_pr, .int 0, .ref w_ch, .ref w_re, .ref w_lo])), (mo, .inr (11, [.ref mw, .ref ma, .ref mf, .ref m0, .ref m1, .ref mu, .ref mv, .ref u0, .ref u1, .ref iz, .int 0, .ref mb, .int 0, .int 0, .int 0, .int 0, .int 0, .int 0, .int 0])), (mw, .inl (ct 0, 958, .inl m_w0)), (ov, .inl (ct 1, 1, .inr (.inl (fun _ => 0))))] H) (hD : va_D A [(x, .inr (10, [.ref w, .ref sp, .ref sv, .ref bu, .int 0, .int 0])), (w, .inr (9, [.int 0, .ref w_se, .ref w_cu, .ref w_pr, .int 0, .ref w_ch, .ref w_re, .ref w_lo])), (mo, .inr (11, [.ref mw, .ref ma, .ref mf, .ref m0, .ref m1, .ref mu, .ref mv, .ref u0, .ref u1, .ref iz, .int 0, .ref mb, .int 0, .int 0, .int 0, .int 0, .int 0, .int 0, .int 0])), (mw, .inl (ct 0, 958, .inl m_w0)), (ov, .inl (ct 1, 1, .inr (.inl (fun _ => 0))))]) (hS : va_S A s.heap H locs) (hl : lv_has ls 9 [(0, .ref b), (1, .ref x), (2, .ref mo), (3, .ref ov), (4, .ref od), (5, .int 0)]) : W p l e room_1 s m #[Value.ref b] below meth c H locs 157 8795 (lw_Z below #[Value.ref b] s) (F0 m 1445 ls []) := by
  obtain ⟨hx, hb, hr, hml, hown, hts, hK, hX, hXs, hbl, hbA, hA, hAr, hlocks⟩ := id C1
  refine lv_aload_n hx hb dL_law_1445 rfl (lv_at hl 1 rfl) ?_
  refine lv_aload_n hx hb dL_law_1446 rfl (lv_at hl 0 rfl) ?_
  refine lv_iload hx hb dL_law_1447 (lv_at hl 5 rfl) ?_
  refine lv_iconst (v := 1) hx hb dL_law_1449 (by decide) ?_
  refine lv_iadd hx hb dL_law_1450 ?_
  refine cm_cst (y := 1) (by decide) ?_
  refine va_sld hx hb hXs hbl hbA hS (cm_vin (by decide)) dL_law_1451 ?_
  refine lv_aload_n hx hb dL_law_1452 rfl (lv_at hl 3 rfl) ?_
  refine cm_ki (wr := [(mo, .inr (11, [.ref mw, .ref ma, .ref mf, .ref m0, .ref m1, .ref mu, .ref mv, .ref u0, .ref u1, .ref iz, .int 0, .ref mb, .int 0, .int 0, .int 0, .int 0, .int 0, .int 0, .int 0])), (mw, .inl (ct 0, 958, .inl m_w0))]) (vx_runSW (As := [.ref x, .int (xs (1 : Int32).toNatClampNeg), .ref ov]) (rest := []) ⟨hx, hb, hml, hown, hts⟩ (l_queueSize l hfl D ct x w sp sv bu w_se w_cu w_pr w_ch w_re w_lo ov (fun _ => 0) (xs (1 : Int32).toNatClampNeg) _) (cm_SW 3 hts kw_L_queueSize ki_RL kl_RL_259 ks_L_queueSize kd_L_queueSize ⟨Nat.le_of_ble_eq_true rfl, Nat.le_of_ble_eq_true rfl⟩) (cm_preS hP hK hD hS hA hX [0, 1, 4] rfl rfl rfl) rfl rfl hl.1 rfl (lv_room (Nat.le_of_ble_eq_true rfl)) dL_law_1453 ⟨Nat.le_of_ble_eq_true rfl, Nat.le_of_ble_eq_true rfl⟩) hP hD hS hA [0, 1, 4] [2, 3] rfl rfl rfl (by decide) (fun r_1 u H locs hw_2 hP hD hS => ?_)
  have hw_2 : r_1 = 1 := hw_2
  obtain rfl := hw_2
  have hP : va_P D vwCl [(mo, .inr (11, [.ref mw, .ref ma, .ref mf, .ref m0, .ref m1, .ref mu, .ref mv, .ref u0, .ref u1, .ref iz, .int 0, .ref mb, .int 0, .int 0, .int 0, .int 0, .int 0, .int 0, .int 0])), (mw, .inl (ct 0, 958, .inl m_w0))] H := hP
  have hD : va_D A [(mo, .inr (11, [.ref mw, .ref ma, .ref mf, .ref m0, .ref m1, .ref mu, .ref mv, .ref u0, .ref u1, .ref iz, .int 0, .ref mb, .int 0, .int 0, .int 0, .int 0, .int 0, .int 0, .int 0])), (mw, .inl (ct 0, 958, .inl m_w0))] := hD
  refine W.widen (k := 158) (n := 8801) (Nat.le_of_ble_eq_true rfl) (Nat.le_of_ble_eq_true rfl) ?_
  refine lv_istore (lv' := [(6, .int 1), (0, .ref b), (1, .ref x), (2, .ref mo), (3, .ref ov), (4, .ref od), (5, .int 0)]) hx hb dL_law_1456 hl (by decide) rfl (fun ls hl => ?_)
  refine lv_aload_n hx hb dL_law_1458 rfl (lv_at hl 3 rfl) ?_
  refine lv_aload_n hx hb dL_law_1459 rfl (lv_at hl 1 rfl) ?_
  refine lv_iload hx hb dL_law_1460 (lv_at hl 6 rfl) ?_
  refine lv_iconst (v := 1) hx hb dL_law_1462 (by decide) ?_
  refine lv_iadd hx hb dL_law_1463 ?_
  refine cm_cst (y := 1) (by decide) ?_
  refine va_sld hx hb hXs hbl hbA hS (cm_vin (by decide)) dL_law_1464 ?_
  refine cm_ki (wr := []) (va_runV (As := [.int (xs (1 : Int32).toNatClampNeg)]) (rest := []) ⟨hx, hb, hml, hown, hts⟩ (m_queueSize_0 l D ct mo mw ma mf m0 m1 mu mv u0 u1 iz mb (xs (1 : Int32).toNatClampNeg) _) (cm_V 1 hts kc_X11_queueSize ki_RX11 kl_RL_261 kv_X11_queueSize kx_X11_queueSize kd_X11_queueSize ⟨Nat.le_of_ble_eq_true rfl, Nat.le_of_ble_eq_true rfl⟩) (cm_preV hP hK hD hS hA hX [0, 1] rfl rfl rfl (q0 := 0) (ci := 11) rfl rfl) rfl rfl hl.1 rfl (lv_room (Nat.le_of_ble_eq_true rfl)) dL_law_1465 ⟨Nat.le_of_ble_eq_true rfl, Nat.le_of_ble_eq_true rfl⟩) hP hD hS hA [0, 1] [] rfl rfl rfl (by decide) (fun r_3 u H locs hw_4 hP hD hS => ?_)
  have hP : va_P D vwCl [(mo, .inr (11, [.ref mw, .ref ma, .ref mf, .ref m0, .ref m1, .ref mu, .ref mv, .ref u0, .ref u1, .ref iz, .int 1, .ref mb, .int 0, .int 0, .int 0, .int 0, .int 0, .int 0, .int 0])), (mw, .inl (ct 0, 958, .inl m_w0))] H := hP
  have hD : va_D A [(mo, .inr (11, [.ref mw, .ref ma, .ref mf, .ref m0, .ref m1, .ref mu, .ref mv, .ref u0, .ref u1, .ref iz, .int 1, .ref mb, .int 0, .int 0, .int 0, .int 0, .int 0, .int 0, .int 0])), (mw, .inl (ct 0, 958, .inl m_w0))] := hD
  refine lv_istore (lv' := [(7, .int r_3), (6, .int 1), (0, .ref b), (1, .ref x), (2, .ref mo), (3, .ref ov), (4, .ref od), (5, .int 0)]) hx hb dL_law_1468 hl (by decide) rfl (fun ls hl => ?_)
  refine lv_aload_n hx hb dL_law_1470 rfl (lv_at hl 4 rfl) ?_
  refine cm_ki (wr := [(mw, .inl (ct 0, 958, .inl m_w0))]) (va_runV (As := []) (rest := []) ⟨hx, hb, hml, hown, hts⟩ (m_thrown l D ct mo mw ma mf m0 m1 mu mv u0 u1 iz mb 1 _) (cm_V 0 hts kc_X11_thrown ki_RX11 kl_RL_202 kv_X11_thrown kx_X11_thrown kd_X11_thrown ⟨Nat.le_of_ble_eq_true rfl, Nat.le_of_ble_eq_true rfl⟩) (cm_preV hP hK hD hS hA hX [0] rfl rfl rfl (q0 := 0) (ci := 11) rfl rfl) rfl rfl hl.1 rfl (lv_room (Nat.le_of_ble_eq_true rfl)) dL_law_1471 ⟨Nat.le_of_ble_eq_true rfl, Nat.le_of_ble_eq_true rfl⟩) hP hD hS hA [0] [1] rfl rfl rfl (by decide) (fun r_5 u H locs hw_6 hP hD hS => ?_)
  have hw_6 : r_5 = 1 := hw_6
  obtain rfl := hw_6
  have hP : va_P D vwCl [(mw, .inl (ct 0, 958, .inl m_w0)), (mo, .inr (11, [.ref mw, .ref ma, .ref mf, .ref m0, .ref m1, .ref mu, .ref mv, .ref u0, .ref u1, .ref iz, .int 1, .ref mb, .int 0, .int 0, .int 0, .int 0, .int 0, .int 0, .int 0]))] H := hP
  have hD : va_D A [(mw, .inl (ct 0, 958, .inl m_w0)), (mo, .inr (11, [.ref mw, .ref ma, .ref mf, .ref m0, .ref m1, .ref mu, .ref mv, .ref u0, .ref u1, .ref iz, .int 1, .ref mb, .int 0, .int 0, .int 0, .int 0, .int 0, .int 0, .int 0]))] := hD
  refine lv_iload hx hb dL_law_1474 (lv_at hl 1 rfl) ?_
  refine lv_icmp_eq (tgt := 1481) hx hb dL_law_1476 (by decide) (fun _ => ?_) (fun hc => absurd (by decide) hc)
  refine lv_iload hx hb dL_law_1481 (lv_at hl 1 rfl) ?_
  refine lv_if_ne (tgt := 1498) hx hb dL_law_1483 (by decide) (fun _ => ?_) (fun hc => absurd hc (by decide))
  refine lv_goto (tgt := 3623) hx hb dL_law_1498 (by decide) ?_
  exact law_end C1 hS (lv_sub hl [2, 7] rfl) (Nat.le_of_ble_eq_true rfl) (Nat.le_of_ble_eq_true rfl)
theorem dL_law_1501 : decode cL_law 1501 = .ok (.aload_n 1, 1) := by decide +kernel
theorem dL_law_1502 : decode cL_law 1502 = .ok (.aload_n 0, 1) := by decide +kernel
theorem dL_law_1503 : decode cL_law 1503 = .ok (.iload 5, 2) := by decide +kernel
theorem dL_law_1505 : decode cL_law 1505 = .ok (.iconst 1, 1) := by decide +kernel
theorem dL_law_1506 : decode cL_law 1506 = .ok (.iadd, 1) := by decide +kernel
theorem dL_law_1507 : decode cL_law 1507 = .ok (.iaload, 1) := by decide +kernel
theorem dL_law_1508 : decode cL_law 1508 = .ok (.aload_n 0, 1) := by decide +kernel
theorem dL_law_1509 : decode cL_law 1509 = .ok (.iload 5, 2) := by decide +kernel
theorem dL_law_1511 : decode cL_law 1511 = .ok (.iconst 2, 1) := by decide +kernel
theorem dL_law_1512 : decode cL_law 1512 = .ok (.iadd, 1) := by decide +kernel
theorem dL_law_1513 : decode cL_law 1513 = .ok (.iaload, 1) := by decide +kernel
theorem dL_law_1514 : decode cL_law 1514 = .ok (.aload_n 3, 1) := by decide +kernel
theorem dL_law_1515 : decode cL_law 1515 = .ok (.invokestatic 262, 3) := by decide +kernel
theorem dL_law_1518 : decode cL_law 1518 = .ok (.istore 6, 2) := by decide +kernel
theorem dL_law_1520 : decode cL_law 1520 = .ok (.aload_n 2, 1) := by decide +kernel
theorem dL_law_1521 : decode cL_law 1521 = .ok (.aload_n 0, 1) := by decide +kernel
theorem dL_law_1522 : decode cL_law 1522 = .ok (.iload 5, 2) := by decide +kernel
theorem dL_law_1524 : decode cL_law 1524 = .ok (.iconst 1, 1) := by decide +kernel
theorem dL_law_1525 : decode cL_law 1525 = .ok (.iadd, 1) := by decide +kernel
theorem dL_law_1526 : decode cL_law 1526 = .ok (.iaload, 1) := by decide +kernel
theorem dL_law_1527 : decode cL_law 1527 = .ok (.aload_n 0, 1) := by decide +kernel
theorem dL_law_1528 : decode cL_law 1528 = .ok (.iload 5, 2) := by decide +kernel
theorem dL_law_1530 : decode cL_law 1530 = .ok (.iconst 2, 1) := by decide +kernel
theorem dL_law_1531 : decode cL_law 1531 = .ok (.iadd, 1) := by decide +kernel
theorem dL_law_1532 : decode cL_law 1532 = .ok (.iaload, 1) := by decide +kernel
theorem dL_law_1533 : decode cL_law 1533 = .ok (.invokevirtual 264, 3) := by decide +kernel
theorem dL_law_1536 : decode cL_law 1536 = .ok (.istore 7, 2) := by decide +kernel
theorem dL_law_1538 : decode cL_law 1538 = .ok (.aload_n 2, 1) := by decide +kernel
theorem dL_law_1539 : decode cL_law 1539 = .ok (.invokevirtual 202, 3) := by decide +kernel
theorem dL_law_1542 : decode cL_law 1542 = .ok (.iload 6, 2) := by decide +kernel
theorem dL_law_1544 : decode cL_law 1544 = .ok (.if_icmp .eq 5, 3) := by decide +kernel
theorem dL_law_1549 : decode cL_law 1549 = .ok (.iload 6, 2) := by decide +kernel
theorem dL_law_1551 : decode cL_law 1551 = .ok (.ifCond .ne 15, 3) := by decide +kernel
theorem dL_law_1566 : decode cL_law 1566 = .ok (.goto 2057, 3) := by decide +kernel
set_option maxRecDepth 100000 in
set_option maxHeartbeats 4000000 in
theorem law_23 {p : Program} {l : Launch} {e : Env} {s : State} {m : MethodId} {below : List Frame} {meth : Method} {c : Code} {D : va_G} {ct : Nat → ClassId} {A : Nat → Prop} {b : Nat} {xs : Nat → Int32} {H : Heap} {locs : List Loc} {ls : Array Slot} (hfl : l.stackTraces = false) (C1 : cmL p s m meth c D ct A b 4 xs) (x : Nat) (w : Nat) (sp : Nat) (sv : Nat) (bu : Nat) (w_se : Nat) (w_cu : Nat) (w_pr : Nat) (w_ch : Nat) (w_re : Nat) (w_lo : Nat) (mo : Nat) (mw : Nat) (ma : Nat) (mf : Nat) (m0 : Nat) (m1 : Nat) (mu : Nat) (mv : Nat) (u0 : Nat) (u1 : Nat) (iz : Nat) (mb : Nat) (ov : Nat) (od : Nat) (hP : va_P D vwCl [(x, .inr (10, [.ref w, .ref sp, .ref sv, .ref bu, .int 0, .int 0])), (w, .inr (9, [.int 0, .ref w_se, .ref w_cu, .ref w_pr, .int 0, .ref w_ch, .ref w_re, .ref w_lo])), (mo, .inr (11, [.ref mw, .ref ma, .ref mf, .ref m0, .ref m1, .ref mu, .ref mv, .ref u0, .ref u1, .ref iz, .int 0, .ref mb, .int 0, .int 0, .int 0, .int 0, .int 0, .int 0, .int 0])), (mw, .inl (ct 0, 958, .inl m_w0)), (ov, .inl (ct 1, 1, .inr (.inl (fun _ => 0))))] H) (hD : va_D A [(x, .inr (10, [.ref w, .ref sp, .ref sv, .ref bu, .int 0, .int 0])), (w, .inr (9, [.int 0, .ref w_se, .ref w_cu, .ref w_pr, .int 0, .ref w_ch, .ref w_re, .ref w_lo])), (mo, .inr (11, [.ref mw, .ref ma, .ref mf, .ref m0, .ref m1, .ref mu, .ref mv, .ref u0, .ref u1, .ref iz, .int 0, .ref mb, .int 0, .int 0, .int 0, .int 0, .int 0, .int 0, .int 0])), (mw, .inl (ct 0, 958, .inl m_w0)), (ov, .inl (ct 1, 1, .inr (.inl (fun _ => 0))))]) (hS : va_S A s.heap H locs) (hl : lv_has ls 9 [(0, .ref b), (1, .ref x), (2, .ref mo), (3, .ref ov), (4, .ref od), (5, .int 0)]) : W p l e room_1 s m #[Value.ref b] below meth c H locs 157 8795 (lw_Z below #[Value.ref b] s) (F0 m 1501 ls []) := by
  obtain ⟨hx, hb, hr, hml, hown, hts, hK, hX, hXs, hbl, hbA, hA, hAr, hlocks⟩ := id C1
  refine lv_aload_n hx hb dL_law_1501 rfl (lv_at hl 1 rfl) ?_
  refine lv_aload_n hx hb dL_law_1502 rfl (lv_at hl 0 rfl) ?_
  refine lv_iload hx hb dL_law_1503 (lv_at hl 5 rfl) ?_
  refine lv_iconst (v := 1) hx hb dL_law_1505 (by decide) ?_
  refine lv_iadd hx hb dL_law_1506 ?_
  refine cm_cst (y := 1) (by decide) ?_
  refine va_sld hx hb hXs hbl hbA hS (cm_vin (by decide)) dL_law_1507 ?_
  refine lv_aload_n hx hb dL_law_1508 rfl (lv_at hl 0 rfl) ?_
  refine lv_iload hx hb dL_law_1509 (lv_at hl 5 rfl) ?_
  refine lv_iconst (v := 2) hx hb dL_law_1511 (by decide) ?_
  refine lv_iadd hx hb dL_law_1512 ?_
  refine cm_cst (y := 2) (by decide) ?_
  refine va_sld hx hb hXs hbl hbA hS (cm_vin (by decide)) dL_law_1513 ?_
  refine lv_aload_n hx hb dL_law_1514 rfl (lv_at hl 3 rfl) ?_
  refine cm_ki (wr := [(mo, .inr (11, [.ref mw, .ref ma, .ref mf, .ref m0, .ref m1, .ref mu, .ref mv, .ref u0, .ref u1, .ref iz, .int 0, .ref mb, .int 0, .int 0, .int 0, .int 0, .int 0, .int 0, .int 0])), (mw, .inl (ct 0, 958, .inl m_w0))]) (vx_runSW (As := [.ref x, .int (xs (1 : Int32).toNatClampNeg), .int (xs (2 : Int32).toNatClampNeg), .ref ov]) (rest := []) ⟨hx, hb, hml, hown, hts⟩ (l_value l hfl D ct x w sp sv bu w_se w_cu w_pr w_ch w_re w_lo ov (fun _ => 0) (xs (1 : Int32).toNatClampNeg) (xs (2 : Int32).toNatClampNeg) _) (cm_SW 4 hts kw_L_value ki_RL kl_RL_262 ks_L_value kd_L_value ⟨Nat.le_of_ble_eq_true rfl, Nat.le_of_ble_eq_true rfl⟩) (cm_preS hP hK hD hS hA hX [0, 1, 4] rfl rfl rfl) rfl rfl hl.1 rfl (lv_room (Nat.le_of_ble_eq_true rfl)) dL_law_1515 ⟨Nat.le_of_ble_eq_true rfl, Nat.le_of_ble_eq_true rfl⟩) hP hD hS hA [0, 1, 4] [2, 3] rfl rfl rfl (by decide) (fun r_1 u H locs hw_2 hP hD hS => ?_)
  have hw_2 : r_1 = 1 := hw_2
  obtain rfl := hw_2
  have hP : va_P D vwCl [(mo, .inr (11, [.ref mw, .ref ma, .ref mf, .ref m0, .ref m1, .ref mu, .ref mv, .ref u0, .ref u1, .ref iz, .int 0, .ref mb, .int 0, .int 0, .int 0, .int 0, .int 0, .int 0, .int 0])), (mw, .inl (ct 0, 958, .inl m_w0))] H := hP
  have hD : va_D A [(mo, .inr (11, [.ref mw, .ref ma, .ref mf, .ref m0, .ref m1, .ref mu, .ref mv, .ref u0, .ref u1, .ref iz, .int 0, .ref mb, .int 0, .int 0, .int 0, .int 0, .int 0, .int 0, .int 0])), (mw, .inl (ct 0, 958, .inl m_w0))] := hD
  refine W.widen (k := 158) (n := 8801) (Nat.le_of_ble_eq_true rfl) (Nat.le_of_ble_eq_true rfl) ?_
  refine lv_istore (lv' := [(6, .int 1), (0, .ref b), (1, .ref x), (2, .ref mo), (3, .ref ov), (4, .ref od), (5, .int 0)]) hx hb dL_law_1518 hl (by decide) rfl (fun ls hl => ?_)
  refine lv_aload_n hx hb dL_law_1520 rfl (lv_at hl 3 rfl) ?_
  refine lv_aload_n hx hb dL_law_1521 rfl (lv_at hl 1 rfl) ?_
  refine lv_iload hx hb dL_law_1522 (lv_at hl 6 rfl) ?_
  refine lv_iconst (v := 1) hx hb dL_law_1524 (by decide) ?_
  refine lv_iadd hx hb dL_law_1525 ?_
  refine cm_cst (y := 1) (by decide) ?_
  refine va_sld hx hb hXs hbl hbA hS (cm_vin (by decide)) dL_law_1526 ?_
  refine lv_aload_n hx hb dL_law_1527 rfl (lv_at hl 1 rfl) ?_
  refine lv_iload hx hb dL_law_1528 (lv_at hl 6 rfl) ?_
  refine lv_iconst (v := 2) hx hb dL_law_1530 (by decide) ?_
  refine lv_iadd hx hb dL_law_1531 ?_
  refine cm_cst (y := 2) (by decide) ?_
  refine va_sld hx hb hXs hbl hbA hS (cm_vin (by decide)) dL_law_1532 ?_
  refine cm_ki (wr := []) (va_runV (As := [.int (xs (1 : Int32).toNatClampNeg), .int (xs (2 : Int32).toNatClampNeg)]) (rest := []) ⟨hx, hb, hml, hown, hts⟩ (m_value_0 l D ct mo mw ma mf m0 m1 mu mv u0 u1 iz mb (xs (1 : Int32).toNatClampNeg) (xs (2 : Int32).toNatClampNeg) _) (cm_V 2 hts kc_X11_value ki_RX11 kl_RL_264 kv_X11_value kx_X11_value kd_X11_value ⟨Nat.le_of_ble_eq_true rfl, Nat.le_of_ble_eq_true rfl⟩) (cm_preV hP hK hD hS hA hX [0, 1] rfl rfl rfl (q0 := 0) (ci := 11) rfl rfl) rfl rfl hl.1 rfl (lv_room (Nat.le_of_ble_eq_true rfl)) dL_law_1533 ⟨Nat.le_of_ble_eq_true rfl, Nat.le_of_ble_eq_true rfl⟩) hP hD hS hA [0, 1] [] rfl rfl rfl (by decide) (fun r_3 u H locs hw_4 hP hD hS => ?_)
  have hP : va_P D vwCl [(mo, .inr (11, [.ref mw, .ref ma, .ref mf, .ref m0, .ref m1, .ref mu, .ref mv, .ref u0, .ref u1, .ref iz, .int 1, .ref mb, .int 0, .int 0, .int 0, .int 0, .int 0, .int 0, .int 0])), (mw, .inl (ct 0, 958, .inl m_w0))] H := hP
  have hD : va_D A [(mo, .inr (11, [.ref mw, .ref ma, .ref mf, .ref m0, .ref m1, .ref mu, .ref mv, .ref u0, .ref u1, .ref iz, .int 1, .ref mb, .int 0, .int 0, .int 0, .int 0, .int 0, .int 0, .int 0])), (mw, .inl (ct 0, 958, .inl m_w0))] := hD
  refine lv_istore (lv' := [(7, .int r_3), (6, .int 1), (0, .ref b), (1, .ref x), (2, .ref mo), (3, .ref ov), (4, .ref od), (5, .int 0)]) hx hb dL_law_1536 hl (by decide) rfl (fun ls hl => ?_)
  refine lv_aload_n hx hb dL_law_1538 rfl (lv_at hl 4 rfl) ?_
  refine cm_ki (wr := [(mw, .inl (ct 0, 958, .inl m_w0))]) (va_runV (As := []) (rest := []) ⟨hx, hb, hml, hown, hts⟩ (m_thrown l D ct mo mw ma mf m0 m1 mu mv u0 u1 iz mb 1 _) (cm_V 0 hts kc_X11_thrown ki_RX11 kl_RL_202 kv_X11_thrown kx_X11_thrown kd_X11_thrown ⟨Nat.le_of_ble_eq_true rfl, Nat.le_of_ble_eq_true rfl⟩) (cm_preV hP hK hD hS hA hX [0] rfl rfl rfl (q0 := 0) (ci := 11) rfl rfl) rfl rfl hl.1 rfl (lv_room (Nat.le_of_ble_eq_true rfl)) dL_law_1539 ⟨Nat.le_of_ble_eq_true rfl, Nat.le_of_ble_eq_true rfl⟩) hP hD hS hA [0] [1] rfl rfl rfl (by decide) (fun r_5 u H locs hw_6 hP hD hS => ?_)
  have hw_6 : r_5 = 1 := hw_6
  obtain rfl := hw_6
  have hP : va_P D vwCl [(mw, .inl (ct 0, 958, .inl m_w0)), (mo, .inr (11, [.ref mw, .ref ma, .ref mf, .ref m0, .ref m1, .ref mu, .ref mv, .ref u0, .ref u1, .ref iz, .int 1, .ref mb, .int 0, .int 0, .int 0, .int 0, .int 0, .int 0, .int 0]))] H := hP
  have hD : va_D A [(mw, .inl (ct 0, 958, .inl m_w0)), (mo, .inr (11, [.ref mw, .ref ma, .ref mf, .ref m0, .ref m1, .ref mu, .ref mv, .ref u0, .ref u1, .ref iz, .int 1, .ref mb, .int 0, .int 0, .int 0, .int 0, .int 0, .int 0, .int 0]))] := hD
  refine lv_iload hx hb dL_law_1542 (lv_at hl 1 rfl) ?_
  refine lv_icmp_eq (tgt := 1549) hx hb dL_law_1544 (by decide) (fun _ => ?_) (fun hc => absurd (by decide) hc)
  refine lv_iload hx hb dL_law_1549 (lv_at hl 1 rfl) ?_
  refine lv_if_ne (tgt := 1566) hx hb dL_law_1551 (by decide) (fun _ => ?_) (fun hc => absurd hc (by decide))
  refine lv_goto (tgt := 3623) hx hb dL_law_1566 (by decide) ?_
  exact law_end C1 hS (lv_sub hl [2, 7] rfl) (Nat.le_of_ble_eq_true rfl) (Nat.le_of_ble_eq_true rfl)
theorem dL_law_1569 : decode cL_law 1569 = .ok (.aload_n 1, 1) := by decide +kernel
theorem dL_law_1570 : decode cL_law 1570 = .ok (.aload_n 0, 1) := by decide +kernel
theorem dL_law_1571 : decode cL_law 1571 = .ok (.iload 5, 2) := by decide +kernel
theorem dL_law_1573 : decode cL_law 1573 = .ok (.iconst 1, 1) := by decide +kernel
theorem dL_law_1574 : decode cL_law 1574 = .ok (.iadd, 1) := by decide +kernel
theorem dL_law_1575 : decode cL_law 1575 = .ok (.iaload, 1) := by decide +kernel
theorem dL_law_1576 : decode cL_law 1576 = .ok (.aload_n 0, 1) := by decide +kernel
theorem dL_law_1577 : decode cL_law 1577 = .ok (.iload 5, 2) := by decide +kernel
theorem dL_law_1579 : decode cL_law 1579 = .ok (.iconst 2, 1) := by decide +kernel
theorem dL_law_1580 : decode cL_law 1580 = .ok (.iadd, 1) := by decide +kernel
theorem dL_law_1581 : decode cL_law 1581 = .ok (.iaload, 1) := by decide +kernel
theorem dL_law_1582 : decode cL_law 1582 = .ok (.aload_n 3, 1) := by decide +kernel
theorem dL_law_1583 : decode cL_law 1583 = .ok (.invokestatic 265, 3) := by decide +kernel
theorem dL_law_1586 : decode cL_law 1586 = .ok (.istore 6, 2) := by decide +kernel
theorem dL_law_1588 : decode cL_law 1588 = .ok (.aload_n 2, 1) := by decide +kernel
theorem dL_law_1589 : decode cL_law 1589 = .ok (.aload_n 0, 1) := by decide +kernel
theorem dL_law_1590 : decode cL_law 1590 = .ok (.iload 5, 2) := by decide +kernel
theorem dL_law_1592 : decode cL_law 1592 = .ok (.iconst 1, 1) := by decide +kernel
theorem dL_law_1593 : decode cL_law 1593 = .ok (.iadd, 1) := by decide +kernel
theorem dL_law_1594 : decode cL_law 1594 = .ok (.iaload, 1) := by decide +kernel
theorem dL_law_1595 : decode cL_law 1595 = .ok (.aload_n 0, 1) := by decide +kernel
theorem dL_law_1596 : decode cL_law 1596 = .ok (.iload 5, 2) := by decide +kernel
theorem dL_law_1598 : decode cL_law 1598 = .ok (.iconst 2, 1) := by decide +kernel
theorem dL_law_1599 : decode cL_law 1599 = .ok (.iadd, 1) := by decide +kernel
theorem dL_law_1600 : decode cL_law 1600 = .ok (.iaload, 1) := by decide +kernel
theorem dL_law_1601 : decode cL_law 1601 = .ok (.invokevirtual 267, 3) := by decide +kernel
theorem dL_law_1604 : decode cL_law 1604 = .ok (.istore 7, 2) := by decide +kernel
theorem dL_law_1606 : decode cL_law 1606 = .ok (.aload_n 2, 1) := by decide +kernel
theorem dL_law_1607 : decode cL_law 1607 = .ok (.invokevirtual 202, 3) := by decide +kernel
theorem dL_law_1610 : decode cL_law 1610 = .ok (.iload 6, 2) := by decide +kernel
theorem dL_law_1612 : decode cL_law 1612 = .ok (.if_icmp .eq 5, 3) := by decide +kernel
theorem dL_law_1617 : decode cL_law 1617 = .ok (.iload 6, 2) := by decide +kernel
theorem dL_law_1619 : decode cL_law 1619 = .ok (.ifCond .ne 15, 3) := by decide +kernel
theorem dL_law_1634 : decode cL_law 1634 = .ok (.goto 1989, 3) := by decide +kernel
set_option maxRecDepth 100000 in
set_option maxHeartbeats 4000000 in
theorem law_24 {p : Program} {l : Launch} {e : Env} {s : State} {m : MethodId} {below : List Frame} {meth : Method} {c : Code} {D : va_G} {ct : Nat → ClassId} {A : Nat → Prop} {b : Nat} {xs : Nat → Int32} {H : Heap} {locs : List Loc} {ls : Array Slot} (hfl : l.stackTraces = false) (C1 : cmL p s m meth c D ct A b 4 xs) (x : Nat) (w : Nat) (sp : Nat) (sv : Nat) (bu : Nat) (w_se : Nat) (w_cu : Nat) (w_pr : Nat) (w_ch : Nat) (w_re : Nat) (w_lo : Nat) (mo : Nat) (mw : Nat) (ma : Nat) (mf : Nat) (m0 : Nat) (m1 : Nat) (mu : Nat) (mv : Nat) (u0 : Nat) (u1 : Nat) (iz : Nat) (mb : Nat) (ov : Nat) (od : Nat) (hP : va_P D vwCl [(x, .inr (10, [.ref w, .ref sp, .ref sv, .ref bu, .int 0, .int 0])), (w, .inr (9, [.int 0, .ref w_se, .ref w_cu, .ref w_pr, .int 0, .ref w_ch, .ref w_re, .ref w_lo])), (mo, .inr (11, [.ref mw, .ref ma, .ref mf, .ref m0, .ref m1, .ref mu, .ref mv, .ref u0, .ref u1, .ref iz, .int 0, .ref mb, .int 0, .int 0, .int 0, .int 0, .int 0, .int 0, .int 0])), (mw, .inl (ct 0, 958, .inl m_w0)), (ov, .inl (ct 1, 1, .inr (.inl (fun _ => 0))))] H) (hD : va_D A [(x, .inr (10, [.ref w, .ref sp, .ref sv, .ref bu, .int 0, .int 0])), (w, .inr (9, [.int 0, .ref w_se, .ref w_cu, .ref w_pr, .int 0, .ref w_ch, .ref w_re, .ref w_lo])), (mo, .inr (11, [.ref mw, .ref ma, .ref mf, .ref m0, .ref m1, .ref mu, .ref mv, .ref u0, .ref u1, .ref iz, .int 0, .ref mb, .int 0, .int 0, .int 0, .int 0, .int 0, .int 0, .int 0])), (mw, .inl (ct 0, 958, .inl m_w0)), (ov, .inl (ct 1, 1, .inr (.inl (fun _ => 0))))]) (hS : va_S A s.heap H locs) (hl : lv_has ls 9 [(0, .ref b), (1, .ref x), (2, .ref mo), (3, .ref ov), (4, .ref od), (5, .int 0)]) : W p l e room_1 s m #[Value.ref b] below meth c H locs 157 8795 (lw_Z below #[Value.ref b] s) (F0 m 1569 ls []) := by
  obtain ⟨hx, hb, hr, hml, hown, hts, hK, hX, hXs, hbl, hbA, hA, hAr, hlocks⟩ := id C1
  refine lv_aload_n hx hb dL_law_1569 rfl (lv_at hl 1 rfl) ?_
  refine lv_aload_n hx hb dL_law_1570 rfl (lv_at hl 0 rfl) ?_
  refine lv_iload hx hb dL_law_1571 (lv_at hl 5 rfl) ?_
  refine lv_iconst (v := 1) hx hb dL_law_1573 (by decide) ?_
  refine lv_iadd hx hb dL_law_1574 ?_
  refine cm_cst (y := 1) (by decide) ?_
  refine va_sld hx hb hXs hbl hbA hS (cm_vin (by decide)) dL_law_1575 ?_
  refine lv_aload_n hx hb dL_law_1576 rfl (lv_at hl 0 rfl) ?_
  refine lv_iload hx hb dL_law_1577 (lv_at hl 5 rfl) ?_
  refine lv_iconst (v := 2) hx hb dL_law_1579 (by decide) ?_
  refine lv_iadd hx hb dL_law_1580 ?_
  refine cm_cst (y := 2) (by decide) ?_
  refine va_sld hx hb hXs hbl hbA hS (cm_vin (by decide)) dL_law_1581 ?_
  refine lv_aload_n hx hb dL_law_1582 rfl (lv_at hl 3 rfl) ?_
  refine cm_ki (wr := [(mo, .inr (11, [.ref mw, .ref ma, .ref mf, .ref m0, .ref m1, .ref mu, .ref mv, .ref u0, .ref u1, .ref iz, .int 0, .ref mb, .int 0, .int 0, .int 0, .int 0, .int 0, .int 0, .int 0])), (mw, .inl (ct 0, 958, .inl m_w0))]) (vx_runSW (As := [.ref x, .int (xs (1 : Int32).toNatClampNeg), .int (xs (2 : Int32).toNatClampNeg), .ref ov]) (rest := []) ⟨hx, hb, hml, hown, hts⟩ (l_restVoltage l hfl D ct x w sp sv bu w_se w_cu w_pr w_ch w_re w_lo ov (fun _ => 0) (xs (1 : Int32).toNatClampNeg) (xs (2 : Int32).toNatClampNeg) _) (cm_SW 4 hts kw_L_restVoltage ki_RL kl_RL_265 ks_L_restVoltage kd_L_restVoltage ⟨Nat.le_of_ble_eq_true rfl, Nat.le_of_ble_eq_true rfl⟩) (cm_preS hP hK hD hS hA hX [0, 1, 4] rfl rfl rfl) rfl rfl hl.1 rfl (lv_room (Nat.le_of_ble_eq_true rfl)) dL_law_1583 ⟨Nat.le_of_ble_eq_true rfl, Nat.le_of_ble_eq_true rfl⟩) hP hD hS hA [0, 1, 4] [2, 3] rfl rfl rfl (by decide) (fun r_1 u H locs hw_2 hP hD hS => ?_)
  have hw_2 : r_1 = 1 := hw_2
  obtain rfl := hw_2
  have hP : va_P D vwCl [(mo, .inr (11, [.ref mw, .ref ma, .ref mf, .ref m0, .ref m1, .ref mu, .ref mv, .ref u0, .ref u1, .ref iz, .int 0, .ref mb, .int 0, .int 0, .int 0, .int 0, .int 0, .int 0, .int 0])), (mw, .inl (ct 0, 958, .inl m_w0))] H := hP
  have hD : va_D A [(mo, .inr (11, [.ref mw, .ref ma, .ref mf, .ref m0, .ref m1, .ref mu, .ref mv, .ref u0, .ref u1, .ref iz, .int 0, .ref mb, .int 0, .int 0, .int 0, .int 0, .int 0, .int 0, .int 0])), (mw, .inl (ct 0, 958, .inl m_w0))] := hD
  refine W.widen (k := 158) (n := 8801) (Nat.le_of_ble_eq_true rfl) (Nat.le_of_ble_eq_true rfl) ?_
  refine lv_istore (lv' := [(6, .int 1), (0, .ref b), (1, .ref x), (2, .ref mo), (3, .ref ov), (4, .ref od), (5, .int 0)]) hx hb dL_law_1586 hl (by decide) rfl (fun ls hl => ?_)
  refine lv_aload_n hx hb dL_law_1588 rfl (lv_at hl 3 rfl) ?_
  refine lv_aload_n hx hb dL_law_1589 rfl (lv_at hl 1 rfl) ?_
  refine lv_iload hx hb dL_law_1590 (lv_at hl 6 rfl) ?_
  refine lv_iconst (v := 1) hx hb dL_law_1592 (by decide) ?_
  refine lv_iadd hx hb dL_law_1593 ?_
  refine cm_cst (y := 1) (by decide) ?_
  refine va_sld hx hb hXs hbl hbA hS (cm_vin (by decide)) dL_law_1594 ?_
  refine lv_aload_n hx hb dL_law_1595 rfl (lv_at hl 1 rfl) ?_
  refine lv_iload hx hb dL_law_1596 (lv_at hl 6 rfl) ?_
  refine lv_iconst (v := 2) hx hb dL_law_1598 (by decide) ?_
  refine lv_iadd hx hb dL_law_1599 ?_
  refine cm_cst (y := 2) (by decide) ?_
  refine va_sld hx hb hXs hbl hbA hS (cm_vin (by decide)) dL_law_1600 ?_
  refine cm_ki (wr := []) (va_runV (As := [.int (xs (1 : Int32).toNatClampNeg), .int (xs (2 : Int32).toNatClampNeg)]) (rest := []) ⟨hx, hb, hml, hown, hts⟩ (m_restVoltage_0 l D ct mo mw ma mf m0 m1 mu mv u0 u1 iz mb (xs (1 : Int32).toNatClampNeg) (xs (2 : Int32).toNatClampNeg) _) (cm_V 2 hts kc_X11_restVoltage ki_RX11 kl_RL_267 kv_X11_restVoltage kx_X11_restVoltage kd_X11_restVoltage ⟨Nat.le_of_ble_eq_true rfl, Nat.le_of_ble_eq_true rfl⟩) (cm_preV hP hK hD hS hA hX [0, 1] rfl rfl rfl (q0 := 0) (ci := 11) rfl rfl) rfl rfl hl.1 rfl (lv_room (Nat.le_of_ble_eq_true rfl)) dL_law_1601 ⟨Nat.le_of_ble_eq_true rfl, Nat.le_of_ble_eq_true rfl⟩) hP hD hS hA [0, 1] [] rfl rfl rfl (by decide) (fun r_3 u H locs hw_4 hP hD hS => ?_)
  have hP : va_P D vwCl [(mo, .inr (11, [.ref mw, .ref ma, .ref mf, .ref m0, .ref m1, .ref mu, .ref mv, .ref u0, .ref u1, .ref iz, .int 1, .ref mb, .int 0, .int 0, .int 0, .int 0, .int 0, .int 0, .int 0])), (mw, .inl (ct 0, 958, .inl m_w0))] H := hP
  have hD : va_D A [(mo, .inr (11, [.ref mw, .ref ma, .ref mf, .ref m0, .ref m1, .ref mu, .ref mv, .ref u0, .ref u1, .ref iz, .int 1, .ref mb, .int 0, .int 0, .int 0, .int 0, .int 0, .int 0, .int 0])), (mw, .inl (ct 0, 958, .inl m_w0))] := hD
  refine lv_istore (lv' := [(7, .int r_3), (6, .int 1), (0, .ref b), (1, .ref x), (2, .ref mo), (3, .ref ov), (4, .ref od), (5, .int 0)]) hx hb dL_law_1604 hl (by decide) rfl (fun ls hl => ?_)
  refine lv_aload_n hx hb dL_law_1606 rfl (lv_at hl 4 rfl) ?_
  refine cm_ki (wr := [(mw, .inl (ct 0, 958, .inl m_w0))]) (va_runV (As := []) (rest := []) ⟨hx, hb, hml, hown, hts⟩ (m_thrown l D ct mo mw ma mf m0 m1 mu mv u0 u1 iz mb 1 _) (cm_V 0 hts kc_X11_thrown ki_RX11 kl_RL_202 kv_X11_thrown kx_X11_thrown kd_X11_thrown ⟨Nat.le_of_ble_eq_true rfl, Nat.le_of_ble_eq_true rfl⟩) (cm_preV hP hK hD hS hA hX [0] rfl rfl rfl (q0 := 0) (ci := 11) rfl rfl) rfl rfl hl.1 rfl (lv_room (Nat.le_of_ble_eq_true rfl)) dL_law_1607 ⟨Nat.le_of_ble_eq_true rfl, Nat.le_of_ble_eq_true rfl⟩) hP hD hS hA [0] [1] rfl rfl rfl (by decide) (fun r_5 u H locs hw_6 hP hD hS => ?_)
  have hw_6 : r_5 = 1 := hw_6
  obtain rfl := hw_6
  have hP : va_P D vwCl [(mw, .inl (ct 0, 958, .inl m_w0)), (mo, .inr (11, [.ref mw, .ref ma, .ref mf, .ref m0, .ref m1, .ref mu, .ref mv, .ref u0, .ref u1, .ref iz, .int 1, .ref mb, .int 0, .int 0, .int 0, .int 0, .int 0, .int 0, .int 0]))] H := hP
  have hD : va_D A [(mw, .inl (ct 0, 958, .inl m_w0)), (mo, .inr (11, [.ref mw, .ref ma, .ref mf, .ref m0, .ref m1, .ref mu, .ref mv, .ref u0, .ref u1, .ref iz, .int 1, .ref mb, .int 0, .int 0, .int 0, .int 0, .int 0, .int 0, .int 0]))] := hD
  refine lv_iload hx hb dL_law_1610 (lv_at hl 1 rfl) ?_
  refine lv_icmp_eq (tgt := 1617) hx hb dL_law_1612 (by decide) (fun _ => ?_) (fun hc => absurd (by decide) hc)
  refine lv_iload hx hb dL_law_1617 (lv_at hl 1 rfl) ?_
  refine lv_if_ne (tgt := 1634) hx hb dL_law_1619 (by decide) (fun _ => ?_) (fun hc => absurd hc (by decide))
  refine lv_goto (tgt := 3623) hx hb dL_law_1634 (by decide) ?_
  exact law_end C1 hS (lv_sub hl [2, 7] rfl) (Nat.le_of_ble_eq_true rfl) (Nat.le_of_ble_eq_true rfl)
theorem dL_law_1637 : decode cL_law 1637 = .ok (.aload_n 1, 1) := by decide +kernel
theorem dL_law_1638 : decode cL_law 1638 = .ok (.aload_n 0, 1) := by decide +kernel
theorem dL_law_1639 : decode cL_law 1639 = .ok (.iload 5, 2) := by decide +kernel
theorem dL_law_1641 : decode cL_law 1641 = .ok (.iconst 1, 1) := by decide +kernel
theorem dL_law_1642 : decode cL_law 1642 = .ok (.iadd, 1) := by decide +kernel
theorem dL_law_1643 : decode cL_law 1643 = .ok (.iaload, 1) := by decide +kernel
theorem dL_law_1644 : decode cL_law 1644 = .ok (.aload_n 0, 1) := by decide +kernel
theorem dL_law_1645 : decode cL_law 1645 = .ok (.iload 5, 2) := by decide +kernel
theorem dL_law_1647 : decode cL_law 1647 = .ok (.iconst 2, 1) := by decide +kernel
theorem dL_law_1648 : decode cL_law 1648 = .ok (.iadd, 1) := by decide +kernel
theorem dL_law_1649 : decode cL_law 1649 = .ok (.iaload, 1) := by decide +kernel
theorem dL_law_1650 : decode cL_law 1650 = .ok (.aload_n 3, 1) := by decide +kernel
theorem dL_law_1651 : decode cL_law 1651 = .ok (.invokestatic 268, 3) := by decide +kernel
theorem dL_law_1654 : decode cL_law 1654 = .ok (.istore 6, 2) := by decide +kernel
theorem dL_law_1656 : decode cL_law 1656 = .ok (.aload_n 2, 1) := by decide +kernel
theorem dL_law_1657 : decode cL_law 1657 = .ok (.aload_n 0, 1) := by decide +kernel
theorem dL_law_1658 : decode cL_law 1658 = .ok (.iload 5, 2) := by decide +kernel
theorem dL_law_1660 : decode cL_law 1660 = .ok (.iconst 1, 1) := by decide +kernel
theorem dL_law_1661 : decode cL_law 1661 = .ok (.iadd, 1) := by decide +kernel
theorem dL_law_1662 : decode cL_law 1662 = .ok (.iaload, 1) := by decide +kernel
theorem dL_law_1663 : decode cL_law 1663 = .ok (.aload_n 0, 1) := by decide +kernel
theorem dL_law_1664 : decode cL_law 1664 = .ok (.iload 5, 2) := by decide +kernel
theorem dL_law_1666 : decode cL_law 1666 = .ok (.iconst 2, 1) := by decide +kernel
theorem dL_law_1667 : decode cL_law 1667 = .ok (.iadd, 1) := by decide +kernel
theorem dL_law_1668 : decode cL_law 1668 = .ok (.iaload, 1) := by decide +kernel
theorem dL_law_1669 : decode cL_law 1669 = .ok (.invokevirtual 270, 3) := by decide +kernel
theorem dL_law_1672 : decode cL_law 1672 = .ok (.istore 7, 2) := by decide +kernel
theorem dL_law_1674 : decode cL_law 1674 = .ok (.aload_n 2, 1) := by decide +kernel
theorem dL_law_1675 : decode cL_law 1675 = .ok (.invokevirtual 202, 3) := by decide +kernel
theorem dL_law_1678 : decode cL_law 1678 = .ok (.iload 6, 2) := by decide +kernel
theorem dL_law_1680 : decode cL_law 1680 = .ok (.if_icmp .eq 5, 3) := by decide +kernel
theorem dL_law_1685 : decode cL_law 1685 = .ok (.iload 6, 2) := by decide +kernel
theorem dL_law_1687 : decode cL_law 1687 = .ok (.ifCond .ne 15, 3) := by decide +kernel
theorem dL_law_1702 : decode cL_law 1702 = .ok (.goto 1921, 3) := by decide +kernel
set_option maxRecDepth 100000 in
set_option maxHeartbeats 4000000 in
theorem law_25 {p : Program} {l : Launch} {e : Env} {s : State} {m : MethodId} {below : List Frame} {meth : Method} {c : Code} {D : va_G} {ct : Nat → ClassId} {A : Nat → Prop} {b : Nat} {xs : Nat → Int32} {H : Heap} {locs : List Loc} {ls : Array Slot} (hfl : l.stackTraces = false) (C1 : cmL p s m meth c D ct A b 4 xs) (x : Nat) (w : Nat) (sp : Nat) (sv : Nat) (bu : Nat) (w_se : Nat) (w_cu : Nat) (w_pr : Nat) (w_ch : Nat) (w_re : Nat) (w_lo : Nat) (mo : Nat) (mw : Nat) (ma : Nat) (mf : Nat) (m0 : Nat) (m1 : Nat) (mu : Nat) (mv : Nat) (u0 : Nat) (u1 : Nat) (iz : Nat) (mb : Nat) (ov : Nat) (od : Nat) (hP : va_P D vwCl [(x, .inr (10, [.ref w, .ref sp, .ref sv, .ref bu, .int 0, .int 0])), (w, .inr (9, [.int 0, .ref w_se, .ref w_cu, .ref w_pr, .int 0, .ref w_ch, .ref w_re, .ref w_lo])), (mo, .inr (11, [.ref mw, .ref ma, .ref mf, .ref m0, .ref m1, .ref mu, .ref mv, .ref u0, .ref u1, .ref iz, .int 0, .ref mb, .int 0, .int 0, .int 0, .int 0, .int 0, .int 0, .int 0])), (mw, .inl (ct 0, 958, .inl m_w0)), (ov, .inl (ct 1, 1, .inr (.inl (fun _ => 0))))] H) (hD : va_D A [(x, .inr (10, [.ref w, .ref sp, .ref sv, .ref bu, .int 0, .int 0])), (w, .inr (9, [.int 0, .ref w_se, .ref w_cu, .ref w_pr, .int 0, .ref w_ch, .ref w_re, .ref w_lo])), (mo, .inr (11, [.ref mw, .ref ma, .ref mf, .ref m0, .ref m1, .ref mu, .ref mv, .ref u0, .ref u1, .ref iz, .int 0, .ref mb, .int 0, .int 0, .int 0, .int 0, .int 0, .int 0, .int 0])), (mw, .inl (ct 0, 958, .inl m_w0)), (ov, .inl (ct 1, 1, .inr (.inl (fun _ => 0))))]) (hS : va_S A s.heap H locs) (hl : lv_has ls 9 [(0, .ref b), (1, .ref x), (2, .ref mo), (3, .ref ov), (4, .ref od), (5, .int 0)]) : W p l e room_1 s m #[Value.ref b] below meth c H locs 157 8795 (lw_Z below #[Value.ref b] s) (F0 m 1637 ls []) := by
  obtain ⟨hx, hb, hr, hml, hown, hts, hK, hX, hXs, hbl, hbA, hA, hAr, hlocks⟩ := id C1
  refine lv_aload_n hx hb dL_law_1637 rfl (lv_at hl 1 rfl) ?_
  refine lv_aload_n hx hb dL_law_1638 rfl (lv_at hl 0 rfl) ?_
  refine lv_iload hx hb dL_law_1639 (lv_at hl 5 rfl) ?_
  refine lv_iconst (v := 1) hx hb dL_law_1641 (by decide) ?_
  refine lv_iadd hx hb dL_law_1642 ?_
  refine cm_cst (y := 1) (by decide) ?_
  refine va_sld hx hb hXs hbl hbA hS (cm_vin (by decide)) dL_law_1643 ?_
  refine lv_aload_n hx hb dL_law_1644 rfl (lv_at hl 0 rfl) ?_
  refine lv_iload hx hb dL_law_1645 (lv_at hl 5 rfl) ?_
  refine lv_iconst (v := 2) hx hb dL_law_1647 (by decide) ?_
  refine lv_iadd hx hb dL_law_1648 ?_
  refine cm_cst (y := 2) (by decide) ?_
  refine va_sld hx hb hXs hbl hbA hS (cm_vin (by decide)) dL_law_1649 ?_
  refine lv_aload_n hx hb dL_law_1650 rfl (lv_at hl 3 rfl) ?_
  refine cm_ki (wr := [(mo, .inr (11, [.ref mw, .ref ma, .ref mf, .ref m0, .ref m1, .ref mu, .ref mv, .ref u0, .ref u1, .ref iz, .int 0, .ref mb, .int 0, .int 0, .int 0, .int 0, .int 0, .int 0, .int 0])), (mw, .inl (ct 0, 958, .inl m_w0))]) (vx_runSW (As := [.ref x, .int (xs (1 : Int32).toNatClampNeg), .int (xs (2 : Int32).toNatClampNeg), .ref ov]) (rest := []) ⟨hx, hb, hml, hown, hts⟩ (l_chargeFor l hfl D ct x w sp sv bu w_se w_cu w_pr w_ch w_re w_lo ov (fun _ => 0) (xs (1 : Int32).toNatClampNeg) (xs (2 : Int32).toNatClampNeg) _) (cm_SW 4 hts kw_L_chargeFor ki_RL kl_RL_268 ks_L_chargeFor kd_L_chargeFor ⟨Nat.le_of_ble_eq_true rfl, Nat.le_of_ble_eq_true rfl⟩) (cm_preS hP hK hD hS hA hX [0, 1, 4] rfl rfl rfl) rfl rfl hl.1 rfl (lv_room (Nat.le_of_ble_eq_true rfl)) dL_law_1651 ⟨Nat.le_of_ble_eq_true rfl, Nat.le_of_ble_eq_true rfl⟩) hP hD hS hA [0, 1, 4] [2, 3] rfl rfl rfl (by decide) (fun r_1 u H locs hw_2 hP hD hS => ?_)
  have hw_2 : r_1 = 1 := hw_2
  obtain rfl := hw_2
  have hP : va_P D vwCl [(mo, .inr (11, [.ref mw, .ref ma, .ref mf, .ref m0, .ref m1, .ref mu, .ref mv, .ref u0, .ref u1, .ref iz, .int 0, .ref mb, .int 0, .int 0, .int 0, .int 0, .int 0, .int 0, .int 0])), (mw, .inl (ct 0, 958, .inl m_w0))] H := hP
  have hD : va_D A [(mo, .inr (11, [.ref mw, .ref ma, .ref mf, .ref m0, .ref m1, .ref mu, .ref mv, .ref u0, .ref u1, .ref iz, .int 0, .ref mb, .int 0, .int 0, .int 0, .int 0, .int 0, .int 0, .int 0])), (mw, .inl (ct 0, 958, .inl m_w0))] := hD
  refine W.widen (k := 158) (n := 8801) (Nat.le_of_ble_eq_true rfl) (Nat.le_of_ble_eq_true rfl) ?_
  refine lv_istore (lv' := [(6, .int 1), (0, .ref b), (1, .ref x), (2, .ref mo), (3, .ref ov), (4, .ref od), (5, .int 0)]) hx hb dL_law_1654 hl (by decide) rfl (fun ls hl => ?_)
  refine lv_aload_n hx hb dL_law_1656 rfl (lv_at hl 3 rfl) ?_
  refine lv_aload_n hx hb dL_law_1657 rfl (lv_at hl 1 rfl) ?_
  refine lv_iload hx hb dL_law_1658 (lv_at hl 6 rfl) ?_
  refine lv_iconst (v := 1) hx hb dL_law_1660 (by decide) ?_
  refine lv_iadd hx hb dL_law_1661 ?_
  refine cm_cst (y := 1) (by decide) ?_
  refine va_sld hx hb hXs hbl hbA hS (cm_vin (by decide)) dL_law_1662 ?_
  refine lv_aload_n hx hb dL_law_1663 rfl (lv_at hl 1 rfl) ?_
  refine lv_iload hx hb dL_law_1664 (lv_at hl 6 rfl) ?_
  refine lv_iconst (v := 2) hx hb dL_law_1666 (by decide) ?_
  refine lv_iadd hx hb dL_law_1667 ?_
  refine cm_cst (y := 2) (by decide) ?_
  refine va_sld hx hb hXs hbl hbA hS (cm_vin (by decide)) dL_law_1668 ?_
  refine cm_ki (wr := []) (va_runV (As := [.int (xs (1 : Int32).toNatClampNeg), .int (xs (2 : Int32).toNatClampNeg)]) (rest := []) ⟨hx, hb, hml, hown, hts⟩ (m_chargeFor_0 l D ct mo mw ma mf m0 m1 mu mv u0 u1 iz mb (xs (1 : Int32).toNatClampNeg) (xs (2 : Int32).toNatClampNeg) _) (cm_V 2 hts kc_X11_chargeFor ki_RX11 kl_RL_270 kv_X11_chargeFor kx_X11_chargeFor kd_X11_chargeFor ⟨Nat.le_of_ble_eq_true rfl, Nat.le_of_ble_eq_true rfl⟩) (cm_preV hP hK hD hS hA hX [0, 1] rfl rfl rfl (q0 := 0) (ci := 11) rfl rfl) rfl rfl hl.1 rfl (lv_room (Nat.le_of_ble_eq_true rfl)) dL_law_1669 ⟨Nat.le_of_ble_eq_true rfl, Nat.le_of_ble_eq_true rfl⟩) hP hD hS hA [0, 1] [] rfl rfl rfl (by decide) (fun r_3 u H locs hw_4 hP hD hS => ?_)
  have hP : va_P D vwCl [(mo, .inr (11, [.ref mw, .ref ma, .ref mf, .ref m0, .ref m1, .ref mu, .ref mv, .ref u0, .ref u1, .ref iz, .int 1, .ref mb, .int 0, .int 0, .int 0, .int 0, .int 0, .int 0, .int 0])), (mw, .inl (ct 0, 958, .inl m_w0))] H := hP
  have hD : va_D A [(mo, .inr (11, [.ref mw, .ref ma, .ref mf, .ref m0, .ref m1, .ref mu, .ref mv, .ref u0, .ref u1, .ref iz, .int 1, .ref mb, .int 0, .int 0, .int 0, .int 0, .int 0, .int 0, .int 0])), (mw, .inl (ct 0, 958, .inl m_w0))] := hD
  refine lv_istore (lv' := [(7, .int r_3), (6, .int 1), (0, .ref b), (1, .ref x), (2, .ref mo), (3, .ref ov), (4, .ref od), (5, .int 0)]) hx hb dL_law_1672 hl (by decide) rfl (fun ls hl => ?_)
  refine lv_aload_n hx hb dL_law_1674 rfl (lv_at hl 4 rfl) ?_
  refine cm_ki (wr := [(mw, .inl (ct 0, 958, .inl m_w0))]) (va_runV (As := []) (rest := []) ⟨hx, hb, hml, hown, hts⟩ (m_thrown l D ct mo mw ma mf m0 m1 mu mv u0 u1 iz mb 1 _) (cm_V 0 hts kc_X11_thrown ki_RX11 kl_RL_202 kv_X11_thrown kx_X11_thrown kd_X11_thrown ⟨Nat.le_of_ble_eq_true rfl, Nat.le_of_ble_eq_true rfl⟩) (cm_preV hP hK hD hS hA hX [0] rfl rfl rfl (q0 := 0) (ci := 11) rfl rfl) rfl rfl hl.1 rfl (lv_room (Nat.le_of_ble_eq_true rfl)) dL_law_1675 ⟨Nat.le_of_ble_eq_true rfl, Nat.le_of_ble_eq_true rfl⟩) hP hD hS hA [0] [1] rfl rfl rfl (by decide) (fun r_5 u H locs hw_6 hP hD hS => ?_)
  have hw_6 : r_5 = 1 := hw_6
  obtain rfl := hw_6
  have hP : va_P D vwCl [(mw, .inl (ct 0, 958, .inl m_w0)), (mo, .inr (11, [.ref mw, .ref ma, .ref mf, .ref m0, .ref m1, .ref mu, .ref mv, .ref u0, .ref u1, .ref iz, .int 1, .ref mb, .int 0, .int 0, .int 0, .int 0, .int 0, .int 0, .int 0]))] H := hP
  have hD : va_D A [(mw, .inl (ct 0, 958, .inl m_w0)), (mo, .inr (11, [.ref mw, .ref ma, .ref mf, .ref m0, .ref m1, .ref mu, .ref mv, .ref u0, .ref u1, .ref iz, .int 1, .ref mb, .int 0, .int 0, .int 0, .int 0, .int 0, .int 0, .int 0]))] := hD
  refine lv_iload hx hb dL_law_1678 (lv_at hl 1 rfl) ?_
  refine lv_icmp_eq (tgt := 1685) hx hb dL_law_1680 (by decide) (fun _ => ?_) (fun hc => absurd (by decide) hc)
  refine lv_iload hx hb dL_law_1685 (lv_at hl 1 rfl) ?_
  refine lv_if_ne (tgt := 1702) hx hb dL_law_1687 (by decide) (fun _ => ?_) (fun hc => absurd hc (by decide))
  refine lv_goto (tgt := 3623) hx hb dL_law_1702 (by decide) ?_
  exact law_end C1 hS (lv_sub hl [2, 7] rfl) (Nat.le_of_ble_eq_true rfl) (Nat.le_of_ble_eq_true rfl)
theorem dL_law_1705 : decode cL_law 1705 = .ok (.aload_n 1, 1) := by decide +kernel
theorem dL_law_1706 : decode cL_law 1706 = .ok (.aload_n 0, 1) := by decide +kernel
theorem dL_law_1707 : decode cL_law 1707 = .ok (.iload 5, 2) := by decide +kernel
theorem dL_law_1709 : decode cL_law 1709 = .ok (.iconst 1, 1) := by decide +kernel
theorem dL_law_1710 : decode cL_law 1710 = .ok (.iadd, 1) := by decide +kernel
theorem dL_law_1711 : decode cL_law 1711 = .ok (.iaload, 1) := by decide +kernel
theorem dL_law_1712 : decode cL_law 1712 = .ok (.aload_n 3, 1) := by decide +kernel
theorem dL_law_1713 : decode cL_law 1713 = .ok (.invokestatic 271, 3) := by decide +kernel
theorem dL_law_1716 : decode cL_law 1716 = .ok (.istore 6, 2) := by decide +kernel
theorem dL_law_1718 : decode cL_law 1718 = .ok (.aload_n 2, 1) := by decide +kernel
theorem dL_law_1719 : decode cL_law 1719 = .ok (.aload_n 0, 1) := by decide +kernel
theorem dL_law_1720 : decode cL_law 1720 = .ok (.iload 5, 2) := by decide +kernel
theorem dL_law_1722 : decode cL_law 1722 = .ok (.iconst 1, 1) := by decide +kernel
theorem dL_law_1723 : decode cL_law 1723 = .ok (.iadd, 1) := by decide +kernel
theorem dL_law_1724 : decode cL_law 1724 = .ok (.iaload, 1) := by decide +kernel
theorem dL_law_1725 : decode cL_law 1725 = .ok (.invokevirtual 273, 3) := by decide +kernel
theorem dL_law_1728 : decode cL_law 1728 = .ok (.istore 7, 2) := by decide +kernel
theorem dL_law_1730 : decode cL_law 1730 = .ok (.aload_n 2, 1) := by decide +kernel
theorem dL_law_1731 : decode cL_law 1731 = .ok (.invokevirtual 202, 3) := by decide +kernel
theorem dL_law_1734 : decode cL_law 1734 = .ok (.iload 6, 2) := by decide +kernel
theorem dL_law_1736 : decode cL_law 1736 = .ok (.if_icmp .eq 5, 3) := by decide +kernel
theorem dL_law_1741 : decode cL_law 1741 = .ok (.iload 6, 2) := by decide +kernel
theorem dL_law_1743 : decode cL_law 1743 = .ok (.ifCond .ne 15, 3) := by decide +kernel
theorem dL_law_1758 : decode cL_law 1758 = .ok (.goto 1865, 3) := by decide +kernel
set_option maxRecDepth 100000 in
set_option maxHeartbeats 4000000 in
theorem law_26 {p : Program} {l : Launch} {e : Env} {s : State} {m : MethodId} {below : List Frame} {meth : Method} {c : Code} {D : va_G} {ct : Nat → ClassId} {A : Nat → Prop} {b : Nat} {xs : Nat → Int32} {H : Heap} {locs : List Loc} {ls : Array Slot} (hfl : l.stackTraces = false) (C1 : cmL p s m meth c D ct A b 4 xs) (x : Nat) (w : Nat) (sp : Nat) (sv : Nat) (bu : Nat) (w_se : Nat) (w_cu : Nat) (w_pr : Nat) (w_ch : Nat) (w_re : Nat) (w_lo : Nat) (mo : Nat) (mw : Nat) (ma : Nat) (mf : Nat) (m0 : Nat) (m1 : Nat) (mu : Nat) (mv : Nat) (u0 : Nat) (u1 : Nat) (iz : Nat) (mb : Nat) (ov : Nat) (od : Nat) (hP : va_P D vwCl [(x, .inr (10, [.ref w, .ref sp, .ref sv, .ref bu, .int 0, .int 0])), (w, .inr (9, [.int 0, .ref w_se, .ref w_cu, .ref w_pr, .int 0, .ref w_ch, .ref w_re, .ref w_lo])), (mo, .inr (11, [.ref mw, .ref ma, .ref mf, .ref m0, .ref m1, .ref mu, .ref mv, .ref u0, .ref u1, .ref iz, .int 0, .ref mb, .int 0, .int 0, .int 0, .int 0, .int 0, .int 0, .int 0])), (mw, .inl (ct 0, 958, .inl m_w0)), (ov, .inl (ct 1, 1, .inr (.inl (fun _ => 0))))] H) (hD : va_D A [(x, .inr (10, [.ref w, .ref sp, .ref sv, .ref bu, .int 0, .int 0])), (w, .inr (9, [.int 0, .ref w_se, .ref w_cu, .ref w_pr, .int 0, .ref w_ch, .ref w_re, .ref w_lo])), (mo, .inr (11, [.ref mw, .ref ma, .ref mf, .ref m0, .ref m1, .ref mu, .ref mv, .ref u0, .ref u1, .ref iz, .int 0, .ref mb, .int 0, .int 0, .int 0, .int 0, .int 0, .int 0, .int 0])), (mw, .inl (ct 0, 958, .inl m_w0)), (ov, .inl (ct 1, 1, .inr (.inl (fun _ => 0))))]) (hS : va_S A s.heap H locs) (hl : lv_has ls 9 [(0, .ref b), (1, .ref x), (2, .ref mo), (3, .ref ov), (4, .ref od), (5, .int 0)]) : W p l e room_1 s m #[Value.ref b] below meth c H locs 157 8795 (lw_Z below #[Value.ref b] s) (F0 m 1705 ls []) := by
  obtain ⟨hx, hb, hr, hml, hown, hts, hK, hX, hXs, hbl, hbA, hA, hAr, hlocks⟩ := id C1
  refine lv_aload_n hx hb dL_law_1705 rfl (lv_at hl 1 rfl) ?_
  refine lv_aload_n hx hb dL_law_1706 rfl (lv_at hl 0 rfl) ?_
  refine lv_iload hx hb dL_law_1707 (lv_at hl 5 rfl) ?_
  refine lv_iconst (v := 1) hx hb dL_law_1709 (by decide) ?_
  refine lv_iadd hx hb dL_law_1710 ?_
  refine cm_cst (y := 1) (by decide) ?_
  refine va_sld hx hb hXs hbl hbA hS (cm_vin (by decide)) dL_law_1711 ?_
  refine lv_aload_n hx hb dL_law_1712 rfl (lv_at hl 3 rfl) ?_
  refine cm_ki (wr := [(mo, .inr (11, [.ref mw, .ref ma, .ref mf, .ref m0, .ref m1, .ref mu, .ref mv, .ref u0, .ref u1, .ref iz, .int 0, .ref mb, .int 0, .int 0, .int 0, .int 0, .int 0, .int 0, .int 0])), (mw, .inl (ct 0, 958, .inl m_w0))]) (vx_runSW (As := [.ref x, .int (xs (1 : Int32).toNatClampNeg), .ref ov]) (rest := []) ⟨hx, hb, hml, hown, hts⟩ (l_filling l hfl D ct x w sp sv bu w_se w_cu w_pr w_ch w_re w_lo ov (fun _ => 0) (xs (1 : Int32).toNatClampNeg) _) (cm_SW 3 hts kw_L_filling ki_RL kl_RL_271 ks_L_filling kd_L_filling ⟨Nat.le_of_ble_eq_true rfl, Nat.le_of_ble_eq_true rfl⟩) (cm_preS hP hK hD hS hA hX [0, 1, 4] rfl rfl rfl) rfl rfl hl.1 rfl (lv_room (Nat.le_of_ble_eq_true rfl)) dL_law_1713 ⟨Nat.le_of_ble_eq_true rfl, Nat.le_of_ble_eq_true rfl⟩) hP hD hS hA [0, 1, 4] [2, 3] rfl rfl rfl (by decide) (fun r_1 u H locs hw_2 hP hD hS => ?_)
  have hw_2 : r_1 = 1 := hw_2
  obtain rfl := hw_2
  have hP : va_P D vwCl [(mo, .inr (11, [.ref mw, .ref ma, .ref mf, .ref m0, .ref m1, .ref mu, .ref mv, .ref u0, .ref u1, .ref iz, .int 0, .ref mb, .int 0, .int 0, .int 0, .int 0, .int 0, .int 0, .int 0])), (mw, .inl (ct 0, 958, .inl m_w0))] H := hP
  have hD : va_D A [(mo, .inr (11, [.ref mw, .ref ma, .ref mf, .ref m0, .ref m1, .ref mu, .ref mv, .ref u0, .ref u1, .ref iz, .int 0, .ref mb, .int 0, .int 0, .int 0, .int 0, .int 0, .int 0, .int 0])), (mw, .inl (ct 0, 958, .inl m_w0))] := hD
  refine W.widen (k := 158) (n := 8801) (Nat.le_of_ble_eq_true rfl) (Nat.le_of_ble_eq_true rfl) ?_
  refine lv_istore (lv' := [(6, .int 1), (0, .ref b), (1, .ref x), (2, .ref mo), (3, .ref ov), (4, .ref od), (5, .int 0)]) hx hb dL_law_1716 hl (by decide) rfl (fun ls hl => ?_)
  refine lv_aload_n hx hb dL_law_1718 rfl (lv_at hl 3 rfl) ?_
  refine lv_aload_n hx hb dL_law_1719 rfl (lv_at hl 1 rfl) ?_
  refine lv_iload hx hb dL_law_1720 (lv_at hl 6 rfl) ?_
  refine lv_iconst (v := 1) hx hb dL_law_1722 (by decide) ?_
  refine lv_iadd hx hb dL_law_1723 ?_
  refine cm_cst (y := 1) (by decide) ?_
  refine va_sld hx hb hXs hbl hbA hS (cm_vin (by decide)) dL_law_1724 ?_
  refine cm_ki (wr := []) (va_runV (As := [.int (xs (1 : Int32).toNatClampNeg)]) (rest := []) ⟨hx, hb, hml, hown, hts⟩ (m_filling_0 l D ct mo mw ma mf m0 m1 mu mv u0 u1 iz mb (xs (1 : Int32).toNatClampNeg) _) (cm_V 1 hts kc_X11_filling ki_RX11 kl_RL_273 kv_X11_filling kx_X11_filling kd_X11_filling ⟨Nat.le_of_ble_eq_true rfl, Nat.le_of_ble_eq_true rfl⟩) (cm_preV hP hK hD hS hA hX [0, 1] rfl rfl rfl (q0 := 0) (ci := 11) rfl rfl) rfl rfl hl.1 rfl (lv_room (Nat.le_of_ble_eq_true rfl)) dL_law_1725 ⟨Nat.le_of_ble_eq_true rfl, Nat.le_of_ble_eq_true rfl⟩) hP hD hS hA [0, 1] [] rfl rfl rfl (by decide) (fun r_3 u H locs hw_4 hP hD hS => ?_)
  have hP : va_P D vwCl [(mo, .inr (11, [.ref mw, .ref ma, .ref mf, .ref m0, .ref m1, .ref mu, .ref mv, .ref u0, .ref u1, .ref iz, .int 1, .ref mb, .int 0, .int 0, .int 0, .int 0, .int 0, .int 0, .int 0])), (mw, .inl (ct 0, 958, .inl m_w0))] H := hP
  have hD : va_D A [(mo, .inr (11, [.ref mw, .ref ma, .ref mf, .ref m0, .ref m1, .ref mu, .ref mv, .ref u0, .ref u1, .ref iz, .int 1, .ref mb, .int 0, .int 0, .int 0, .int 0, .int 0, .int 0, .int 0])), (mw, .inl (ct 0, 958, .inl m_w0))] := hD
  refine lv_istore (lv' := [(7, .int r_3), (6, .int 1), (0, .ref b), (1, .ref x), (2, .ref mo), (3, .ref ov), (4, .ref od), (5, .int 0)]) hx hb dL_law_1728 hl (by decide) rfl (fun ls hl => ?_)
  refine lv_aload_n hx hb dL_law_1730 rfl (lv_at hl 4 rfl) ?_
  refine cm_ki (wr := [(mw, .inl (ct 0, 958, .inl m_w0))]) (va_runV (As := []) (rest := []) ⟨hx, hb, hml, hown, hts⟩ (m_thrown l D ct mo mw ma mf m0 m1 mu mv u0 u1 iz mb 1 _) (cm_V 0 hts kc_X11_thrown ki_RX11 kl_RL_202 kv_X11_thrown kx_X11_thrown kd_X11_thrown ⟨Nat.le_of_ble_eq_true rfl, Nat.le_of_ble_eq_true rfl⟩) (cm_preV hP hK hD hS hA hX [0] rfl rfl rfl (q0 := 0) (ci := 11) rfl rfl) rfl rfl hl.1 rfl (lv_room (Nat.le_of_ble_eq_true rfl)) dL_law_1731 ⟨Nat.le_of_ble_eq_true rfl, Nat.le_of_ble_eq_true rfl⟩) hP hD hS hA [0] [1] rfl rfl rfl (by decide) (fun r_5 u H locs hw_6 hP hD hS => ?_)
  have hw_6 : r_5 = 1 := hw_6
  obtain rfl := hw_6
  have hP : va_P D vwCl [(mw, .inl (ct 0, 958, .inl m_w0)), (mo, .inr (11, [.ref mw, .ref ma, .ref mf, .ref m0, .ref m1, .ref mu, .ref mv, .ref u0, .ref u1, .ref iz, .int 1, .ref mb, .int 0, .int 0, .int 0, .int 0, .int 0, .int 0, .int 0]))] H := hP
  have hD : va_D A [(mw, .inl (ct 0, 958, .inl m_w0)), (mo, .inr (11, [.ref mw, .ref ma, .ref mf, .ref m0, .ref m1, .ref mu, .ref mv, .ref u0, .ref u1, .ref iz, .int 1, .ref mb, .int 0, .int 0, .int 0, .int 0, .int 0, .int 0, .int 0]))] := hD
  refine lv_iload hx hb dL_law_1734 (lv_at hl 1 rfl) ?_
  refine lv_icmp_eq (tgt := 1741) hx hb dL_law_1736 (by decide) (fun _ => ?_) (fun hc => absurd (by decide) hc)
  refine lv_iload hx hb dL_law_1741 (lv_at hl 1 rfl) ?_
  refine lv_if_ne (tgt := 1758) hx hb dL_law_1743 (by decide) (fun _ => ?_) (fun hc => absurd hc (by decide))
  refine lv_goto (tgt := 3623) hx hb dL_law_1758 (by decide) ?_
  exact law_end C1 hS (lv_sub hl [2, 7] rfl) (Nat.le_of_ble_eq_true rfl) (Nat.le_of_ble_eq_true rfl)
theorem dL_law_1761 : decode cL_law 1761 = .ok (.aload_n 1, 1) := by decide +kernel
theorem dL_law_1762 : decode cL_law 1762 = .ok (.aload_n 0, 1) := by decide +kernel
theorem dL_law_1763 : decode cL_law 1763 = .ok (.iload 5, 2) := by decide +kernel
theorem dL_law_1765 : decode cL_law 1765 = .ok (.iconst 1, 1) := by decide +kernel
theorem dL_law_1766 : decode cL_law 1766 = .ok (.iadd, 1) := by decide +kernel
theorem dL_law_1767 : decode cL_law 1767 = .ok (.iaload, 1) := by decide +kernel
theorem dL_law_1768 : decode cL_law 1768 = .ok (.aload_n 0, 1) := by decide +kernel
theorem dL_law_1769 : decode cL_law 1769 = .ok (.iload 5, 2) := by decide +kernel
theorem dL_law_1771 : decode cL_law 1771 = .ok (.iconst 2, 1) := by decide +kernel
theorem dL_law_1772 : decode cL_law 1772 = .ok (.iadd, 1) := by decide +kernel
theorem dL_law_1773 : decode cL_law 1773 = .ok (.iaload, 1) := by decide +kernel
theorem dL_law_1774 : decode cL_law 1774 = .ok (.aload_n 3, 1) := by decide +kernel
theorem dL_law_1775 : decode cL_law 1775 = .ok (.invokestatic 274, 3) := by decide +kernel
theorem dL_law_1778 : decode cL_law 1778 = .ok (.istore 6, 2) := by decide +kernel
theorem dL_law_1780 : decode cL_law 1780 = .ok (.aload_n 2, 1) := by decide +kernel
theorem dL_law_1781 : decode cL_law 1781 = .ok (.aload_n 0, 1) := by decide +kernel
theorem dL_law_1782 : decode cL_law 1782 = .ok (.iload 5, 2) := by decide +kernel
theorem dL_law_1784 : decode cL_law 1784 = .ok (.iconst 1, 1) := by decide +kernel
theorem dL_law_1785 : decode cL_law 1785 = .ok (.iadd, 1) := by decide +kernel
theorem dL_law_1786 : decode cL_law 1786 = .ok (.iaload, 1) := by decide +kernel
theorem dL_law_1787 : decode cL_law 1787 = .ok (.aload_n 0, 1) := by decide +kernel
theorem dL_law_1788 : decode cL_law 1788 = .ok (.iload 5, 2) := by decide +kernel
theorem dL_law_1790 : decode cL_law 1790 = .ok (.iconst 2, 1) := by decide +kernel
theorem dL_law_1791 : decode cL_law 1791 = .ok (.iadd, 1) := by decide +kernel
theorem dL_law_1792 : decode cL_law 1792 = .ok (.iaload, 1) := by decide +kernel
theorem dL_law_1793 : decode cL_law 1793 = .ok (.invokevirtual 276, 3) := by decide +kernel
theorem dL_law_1796 : decode cL_law 1796 = .ok (.lstore 7, 2) := by decide +kernel
theorem dL_law_1798 : decode cL_law 1798 = .ok (.aload_n 2, 1) := by decide +kernel
theorem dL_law_1799 : decode cL_law 1799 = .ok (.invokevirtual 202, 3) := by decide +kernel
theorem dL_law_1802 : decode cL_law 1802 = .ok (.iload 6, 2) := by decide +kernel
theorem dL_law_1804 : decode cL_law 1804 = .ok (.if_icmp .eq 5, 3) := by decide +kernel
theorem dL_law_1809 : decode cL_law 1809 = .ok (.iload 6, 2) := by decide +kernel
theorem dL_law_1811 : decode cL_law 1811 = .ok (.ifCond .ne 14, 3) := by decide +kernel
theorem dL_law_1825 : decode cL_law 1825 = .ok (.goto 1798, 3) := by decide +kernel
set_option maxRecDepth 100000 in
set_option maxHeartbeats 4000000 in
theorem law_27 {p : Program} {l : Launch} {e : Env} {s : State} {m : MethodId} {below : List Frame} {meth : Method} {c : Code} {D : va_G} {ct : Nat → ClassId} {A : Nat → Prop} {b : Nat} {xs : Nat → Int32} {H : Heap} {locs : List Loc} {ls : Array Slot} (hfl : l.stackTraces = false) (C1 : cmL p s m meth c D ct A b 4 xs) (x : Nat) (w : Nat) (sp : Nat) (sv : Nat) (bu : Nat) (w_se : Nat) (w_cu : Nat) (w_pr : Nat) (w_ch : Nat) (w_re : Nat) (w_lo : Nat) (mo : Nat) (mw : Nat) (ma : Nat) (mf : Nat) (m0 : Nat) (m1 : Nat) (mu : Nat) (mv : Nat) (u0 : Nat) (u1 : Nat) (iz : Nat) (mb : Nat) (ov : Nat) (od : Nat) (hP : va_P D vwCl [(x, .inr (10, [.ref w, .ref sp, .ref sv, .ref bu, .int 0, .int 0])), (w, .inr (9, [.int 0, .ref w_se, .ref w_cu, .ref w_pr, .int 0, .ref w_ch, .ref w_re, .ref w_lo])), (mo, .inr (11, [.ref mw, .ref ma, .ref mf, .ref m0, .ref m1, .ref mu, .ref mv, .ref u0, .ref u1, .ref iz, .int 0, .ref mb, .int 0, .int 0, .int 0, .int 0, .int 0, .int 0, .int 0])), (mw, .inl (ct 0, 958, .inl m_w0)), (ov, .inl (ct 1, 1, .inr (.inl (fun _ => 0))))] H) (hD : va_D A [(x, .inr (10, [.ref w, .ref sp, .ref sv, .ref bu, .int 0, .int 0])), (w, .inr (9, [.int 0, .ref w_se, .ref w_cu, .ref w_pr, .int 0, .ref w_ch, .ref w_re, .ref w_lo])), (mo, .inr (11, [.ref mw, .ref ma, .ref mf, .ref m0, .ref m1, .ref mu, .ref mv, .ref u0, .ref u1, .ref iz, .int 0, .ref mb, .int 0, .int 0, .int 0, .int 0, .int 0, .int 0, .int 0])), (mw, .inl (ct 0, 958, .inl m_w0)), (ov, .inl (ct 1, 1, .inr (.inl (fun _ => 0))))]) (hS : va_S A s.heap H locs) (hl : lv_has ls 9 [(0, .ref b), (1, .ref x), (2, .ref mo), (3, .ref ov), (4, .ref od), (5, .int 0)]) : W p l e room_1 s m #[Value.ref b] below meth c H locs 157 8795 (lw_Z below #[Value.ref b] s) (F0 m 1761 ls []) := by
  obtain ⟨hx, hb, hr, hml, hown, hts, hK, hX, hXs, hbl, hbA, hA, hAr, hlocks⟩ := id C1
  refine lv_aload_n hx hb dL_law_1761 rfl (lv_at hl 1 rfl) ?_
  refine lv_aload_n hx hb dL_law_1762 rfl (lv_at hl 0 rfl) ?_
  refine lv_iload hx hb dL_law_1763 (lv_at hl 5 rfl) ?_
  refine lv_iconst (v := 1) hx hb dL_law_1765 (by decide) ?_
  refine lv_iadd hx hb dL_law_1766 ?_
  refine cm_cst (y := 1) (by decide) ?_
  refine va_sld hx hb hXs hbl hbA hS (cm_vin (by decide)) dL_law_1767 ?_
  refine lv_aload_n hx hb dL_law_1768 rfl (lv_at hl 0 rfl) ?_
  refine lv_iload hx hb dL_law_1769 (lv_at hl 5 rfl) ?_
  refine lv_iconst (v := 2) hx hb dL_law_1771 (by decide) ?_
  refine lv_iadd hx hb dL_law_1772 ?_
  refine cm_cst (y := 2) (by decide) ?_
  refine va_sld hx hb hXs hbl hbA hS (cm_vin (by decide)) dL_law_1773 ?_
  refine lv_aload_n hx hb dL_law_1774 rfl (lv_at hl 3 rfl) ?_
  refine cm_ki (wr := [(mo, .inr (11, [.ref mw, .ref ma, .ref mf, .ref m0, .ref m1, .ref mu, .ref mv, .ref u0, .ref u1, .ref iz, .int 0, .ref mb, .int 0, .int 0, .int 0, .int 0, .int 0, .int 0, .int 0])), (mw, .inl (ct 0, 958, .inl m_w0))]) (vx_runSW (As := [.ref x, .int (xs (1 : Int32).toNatClampNeg), .int (xs (2 : Int32).toNatClampNeg), .ref ov]) (rest := []) ⟨hx, hb, hml, hown, hts⟩ (l_ledger l hfl D ct x w sp sv bu w_se w_cu w_pr w_ch w_re w_lo ov (fun _ => 0) (xs (1 : Int32).toNatClampNeg) (xs (2 : Int32).toNatClampNeg) _) (cm_SW 4 hts kw_L_ledger ki_RL kl_RL_274 ks_L_ledger kd_L_ledger ⟨Nat.le_of_ble_eq_true rfl, Nat.le_of_ble_eq_true rfl⟩) (cm_preS hP hK hD hS hA hX [0, 1, 4] rfl rfl rfl) rfl rfl hl.1 rfl (lv_room (Nat.le_of_ble_eq_true rfl)) dL_law_1775 ⟨Nat.le_of_ble_eq_true rfl, Nat.le_of_ble_eq_true rfl⟩) hP hD hS hA [0, 1, 4] [2, 3] rfl rfl rfl (by decide) (fun r_1 u H locs hw_2 hP hD hS => ?_)
  have hw_2 : r_1 = 1 := hw_2
  obtain rfl := hw_2
  have hP : va_P D vwCl [(mo, .inr (11, [.ref mw, .ref ma, .ref mf, .ref m0, .ref m1, .ref mu, .ref mv, .ref u0, .ref u1, .ref iz, .int 0, .ref mb, .int 0, .int 0, .int 0, .int 0, .int 0, .int 0, .int 0])), (mw, .inl (ct 0, 958, .inl m_w0))] H := hP
  have hD : va_D A [(mo, .inr (11, [.ref mw, .ref ma, .ref mf, .ref m0, .ref m1, .ref mu, .ref mv, .ref u0, .ref u1, .ref iz, .int 0, .ref mb, .int 0, .int 0, .int 0, .int 0, .int 0, .int 0, .int 0])), (mw, .inl (ct 0, 958, .inl m_w0))] := hD
  refine W.widen (k := 158) (n := 8801) (Nat.le_of_ble_eq_true rfl) (Nat.le_of_ble_eq_true rfl) ?_
  refine lv_istore (lv' := [(6, .int 1), (0, .ref b), (1, .ref x), (2, .ref mo), (3, .ref ov), (4, .ref od), (5, .int 0)]) hx hb dL_law_1778 hl (by decide) rfl (fun ls hl => ?_)
  refine lv_aload_n hx hb dL_law_1780 rfl (lv_at hl 3 rfl) ?_
  refine lv_aload_n hx hb dL_law_1781 rfl (lv_at hl 1 rfl) ?_
  refine lv_iload hx hb dL_law_1782 (lv_at hl 6 rfl) ?_
  refine lv_iconst (v := 1) hx hb dL_law_1784 (by decide) ?_
  refine lv_iadd hx hb dL_law_1785 ?_
  refine cm_cst (y := 1) (by decide) ?_
  refine va_sld hx hb hXs hbl hbA hS (cm_vin (by decide)) dL_law_1786 ?_
  refine lv_aload_n hx hb dL_law_1787 rfl (lv_at hl 1 rfl) ?_
  refine lv_iload hx hb dL_law_1788 (lv_at hl 6 rfl) ?_
  refine lv_iconst (v := 2) hx hb dL_law_1790 (by decide) ?_
  refine lv_iadd hx hb dL_law_1791 ?_
  refine cm_cst (y := 2) (by decide) ?_
  refine va_sld hx hb hXs hbl hbA hS (cm_vin (by decide)) dL_law_1792 ?_
  refine cm_kl (wr := []) (va_runV (As := [.int (xs (1 : Int32).toNatClampNeg), .int (xs (2 : Int32).toNatClampNeg)]) (rest := []) ⟨hx, hb, hml, hown, hts⟩ (m_ledger_0 l D ct mo mw ma mf m0 m1 mu mv u0 u1 iz mb (xs (1 : Int32).toNatClampNeg) (xs (2 : Int32).toNatClampNeg) _) (cm_V 2 hts kc_X11_ledger ki_RX11 kl_RL_276 kv_X11_ledger kx_X11_ledger kd_X11_ledger ⟨Nat.le_of_ble_eq_true rfl, Nat.le_of_ble_eq_true rfl⟩) (cm_preV hP hK hD hS hA hX [0, 1] rfl rfl rfl (q0 := 0) (ci := 11) rfl rfl) rfl rfl hl.1 rfl (lv_room (Nat.le_of_ble_eq_true rfl)) dL_law_1793 ⟨Nat.le_of_ble_eq_true rfl, Nat.le_of_ble_eq_true rfl⟩) hP hD hS hA [0, 1] [] rfl rfl rfl (by decide) (fun r_3 u H locs hw_4 hP hD hS => ?_)
  have hP : va_P D vwCl [(mo, .inr (11, [.ref mw, .ref ma, .ref mf, .ref m0, .ref m1, .ref mu, .ref mv, .ref u0, .ref u1, .ref iz, .int 1, .ref mb, .int 0, .int 0, .int 0, .int 0, .int 0, .int 0, .int 0])), (mw, .inl (ct 0, 958, .inl m_w0))] H := hP
  have hD : va_D A [(mo, .inr (11, [.ref mw, .ref ma, .ref mf, .ref m0, .ref m1, .ref mu, .ref mv, .ref u0, .ref u1, .ref iz, .int 1, .ref mb, .int 0, .int 0, .int 0, .int 0, .int 0, .int 0, .int 0])), (mw, .inl (ct 0, 958, .inl m_w0))] := hD
  refine lv_lstore (lv' := [(7, .long r_3), (6, .int 1), (0, .ref b), (1, .ref x), (2, .ref mo), (3, .ref ov), (4, .ref od), (5, .int 0)]) hx hb dL_law_1796 hl (by decide) rfl (fun ls hl => ?_)
  refine lv_aload_n hx hb dL_law_1798 rfl (lv_at hl 4 rfl) ?_
  refine cm_ki (wr := [(mw, .inl (ct 0, 958, .inl m_w0))]) (va_runV (As := []) (rest := []) ⟨hx, hb, hml, hown, hts⟩ (m_thrown l D ct mo mw ma mf m0 m1 mu mv u0 u1 iz mb 1 _) (cm_V 0 hts kc_X11_thrown ki_RX11 kl_RL_202 kv_X11_thrown kx_X11_thrown kd_X11_thrown ⟨Nat.le_of_ble_eq_true rfl, Nat.le_of_ble_eq_true rfl⟩) (cm_preV hP hK hD hS hA hX [0] rfl rfl rfl (q0 := 0) (ci := 11) rfl rfl) rfl rfl hl.1 rfl (lv_room (Nat.le_of_ble_eq_true rfl)) dL_law_1799 ⟨Nat.le_of_ble_eq_true rfl, Nat.le_of_ble_eq_true rfl⟩) hP hD hS hA [0] [1] rfl rfl rfl (by decide) (fun r_5 u H locs hw_6 hP hD hS => ?_)
  have hw_6 : r_5 = 1 := hw_6
  obtain rfl := hw_6
  have hP : va_P D vwCl [(mw, .inl (ct 0, 958, .inl m_w0)), (mo, .inr (11, [.ref mw, .ref ma, .ref mf, .ref m0, .ref m1, .ref mu, .ref mv, .ref u0, .ref u1, .ref iz, .int 1, .ref mb, .int 0, .int 0, .int 0, .int 0, .int 0, .int 0, .int 0]))] H := hP
  have hD : va_D A [(mw, .inl (ct 0, 958, .inl m_w0)), (mo, .inr (11, [.ref mw, .ref ma, .ref mf, .ref m0, .ref m1, .ref mu, .ref mv, .ref u0, .ref u1, .ref iz, .int 1, .ref mb, .int 0, .int 0, .int 0, .int 0, .int 0, .int 0, .int 0]))] := hD
  refine lv_iload hx hb dL_law_1802 (lv_at hl 1 rfl) ?_
  refine lv_icmp_eq (tgt := 1809) hx hb dL_law_1804 (by decide) (fun _ => ?_) (fun hc => absurd (by decide) hc)
  refine lv_iload hx hb dL_law_1809 (lv_at hl 1 rfl) ?_
  refine lv_if_ne (tgt := 1825) hx hb dL_law_1811 (by decide) (fun _ => ?_) (fun hc => absurd hc (by decide))
  refine lv_goto (tgt := 3623) hx hb dL_law_1825 (by decide) ?_
  exact law_end C1 hS (lv_sub hl [2, 7] rfl) (Nat.le_of_ble_eq_true rfl) (Nat.le_of_ble_eq_true rfl)
theorem dL_law_1828 : decode cL_law 1828 = .ok (.aload_n 1, 1) := by decide +kernel
theorem dL_law_1829 : decode cL_law 1829 = .ok (.aload_n 0, 1) := by decide +kernel
theorem dL_law_1830 : decode cL_law 1830 = .ok (.iload 5, 2) := by decide +kernel
theorem dL_law_1832 : decode cL_law 1832 = .ok (.iconst 1, 1) := by decide +kernel
theorem dL_law_1833 : decode cL_law 1833 = .ok (.iadd, 1) := by decide +kernel
theorem dL_law_1834 : decode cL_law 1834 = .ok (.iaload, 1) := by decide +kernel
theorem dL_law_1835 : decode cL_law 1835 = .ok (.aload 4, 2) := by decide +kernel
theorem dL_law_1837 : decode cL_law 1837 = .ok (.invokestatic 277, 3) := by decide +kernel
theorem dL_law_1840 : decode cL_law 1840 = .ok (.istore 6, 2) := by decide +kernel
theorem dL_law_1842 : decode cL_law 1842 = .ok (.aload_n 2, 1) := by decide +kernel
theorem dL_law_1843 : decode cL_law 1843 = .ok (.aload_n 0, 1) := by decide +kernel
theorem dL_law_1844 : decode cL_law 1844 = .ok (.iload 5, 2) := by decide +kernel
theorem dL_law_1846 : decode cL_law 1846 = .ok (.iconst 1, 1) := by decide +kernel
theorem dL_law_1847 : decode cL_law 1847 = .ok (.iadd, 1) := by decide +kernel
theorem dL_law_1848 : decode cL_law 1848 = .ok (.iaload, 1) := by decide +kernel
theorem dL_law_1849 : decode cL_law 1849 = .ok (.invokevirtual 280, 3) := by decide +kernel
theorem dL_law_1852 : decode cL_law 1852 = .ok (.fstore 7, 2) := by decide +kernel
theorem dL_law_1854 : decode cL_law 1854 = .ok (.aload_n 2, 1) := by decide +kernel
theorem dL_law_1855 : decode cL_law 1855 = .ok (.invokevirtual 202, 3) := by decide +kernel
theorem dL_law_1858 : decode cL_law 1858 = .ok (.iload 6, 2) := by decide +kernel
theorem dL_law_1860 : decode cL_law 1860 = .ok (.if_icmp .eq 5, 3) := by decide +kernel
theorem dL_law_1865 : decode cL_law 1865 = .ok (.iload 6, 2) := by decide +kernel
theorem dL_law_1867 : decode cL_law 1867 = .ok (.ifCond .ne 36, 3) := by decide +kernel
theorem dL_law_1903 : decode cL_law 1903 = .ok (.goto 1720, 3) := by decide +kernel
set_option maxRecDepth 100000 in
set_option maxHeartbeats 4000000 in
theorem law_28 {p : Program} {l : Launch} {e : Env} {s : State} {m : MethodId} {below : List Frame} {meth : Method} {c : Code} {D : va_G} {ct : Nat → ClassId} {A : Nat → Prop} {b : Nat} {xs : Nat → Int32} {H : Heap} {locs : List Loc} {ls : Array Slot} (hfl : l.stackTraces = false) (C1 : cmL p s m meth c D ct A b 4 xs) (x : Nat) (w : Nat) (sp : Nat) (sv : Nat) (bu : Nat) (w_se : Nat) (w_cu : Nat) (w_pr : Nat) (w_ch : Nat) (w_re : Nat) (w_lo : Nat) (mo : Nat) (mw : Nat) (ma : Nat) (mf : Nat) (m0 : Nat) (m1 : Nat) (mu : Nat) (mv : Nat) (u0 : Nat) (u1 : Nat) (iz : Nat) (mb : Nat) (od : Nat) (ov : Nat) (hP : va_P D vwCl [(x, .inr (10, [.ref w, .ref sp, .ref sv, .ref bu, .int 0, .int 0])), (w, .inr (9, [.int 0, .ref w_se, .ref w_cu, .ref w_pr, .int 0, .ref w_ch, .ref w_re, .ref w_lo])), (mo, .inr (11, [.ref mw, .ref ma, .ref mf, .ref m0, .ref m1, .ref mu, .ref mv, .ref u0, .ref u1, .ref iz, .int 0, .ref mb, .int 0, .int 0, .int 0, .int 0, .int 0, .int 0, .int 0])), (mw, .inl (ct 0, 958, .inl m_w0)), (od, .inl (ct 5, 1, .inr (.inr (.inr (.inl (fun _ => 0))))))] H) (hD : va_D A [(x, .inr (10, [.ref w, .ref sp, .ref sv, .ref bu, .int 0, .int 0])), (w, .inr (9, [.int 0, .ref w_se, .ref w_cu, .ref w_pr, .int 0, .ref w_ch, .ref w_re, .ref w_lo])), (mo, .inr (11, [.ref mw, .ref ma, .ref mf, .ref m0, .ref m1, .ref mu, .ref mv, .ref u0, .ref u1, .ref iz, .int 0, .ref mb, .int 0, .int 0, .int 0, .int 0, .int 0, .int 0, .int 0])), (mw, .inl (ct 0, 958, .inl m_w0)), (od, .inl (ct 5, 1, .inr (.inr (.inr (.inl (fun _ => 0))))))]) (hS : va_S A s.heap H locs) (hl : lv_has ls 9 [(0, .ref b), (1, .ref x), (2, .ref mo), (3, .ref ov), (4, .ref od), (5, .int 0)]) : W p l e room_1 s m #[Value.ref b] below meth c H locs 157 8795 (lw_Z below #[Value.ref b] s) (F0 m 1828 ls []) := by
  obtain ⟨hx, hb, hr, hml, hown, hts, hK, hX, hXs, hbl, hbA, hA, hAr, hlocks⟩ := id C1
  refine lv_aload_n hx hb dL_law_1828 rfl (lv_at hl 1 rfl) ?_
  refine lv_aload_n hx hb dL_law_1829 rfl (lv_at hl 0 rfl) ?_
  refine lv_iload hx hb dL_law_1830 (lv_at hl 5 rfl) ?_
  refine lv_iconst (v := 1) hx hb dL_law_1832 (by decide) ?_
  refine lv_iadd hx hb dL_law_1833 ?_
  refine cm_cst (y := 1) (by decide) ?_
  refine va_sld hx hb hXs hbl hbA hS (cm_vin (by decide)) dL_law_1834 ?_
  refine lv_aload hx hb dL_law_1835 (lv_at hl 4 rfl) ?_
  refine cm_ki (wr := [(mo, .inr (11, [.ref mw, .ref ma, .ref mf, .ref m0, .ref m1, .ref mu, .ref mv, .ref u0, .ref u1, .ref iz, .int 0, .ref mb, .int 0, .int 0, .int 0, .int 0, .int 0, .int 0, .int 0])), (mw, .inl (ct 0, 958, .inl m_w0))]) (vx_runSW (As := [.ref x, .int (xs (1 : Int32).toNatClampNeg), .ref od]) (rest := []) ⟨hx, hb, hml, hown, hts⟩ (l_chargeEfficiency l hfl D ct x w sp sv bu w_se w_cu w_pr w_ch w_re w_lo od (fun _ => 0) (xs (1 : Int32).toNatClampNeg) _) (cm_SW 3 hts kw_L_chargeEfficiency ki_RL kl_RL_277 ks_L_chargeEfficiency kd_L_chargeEfficiency ⟨Nat.le_of_ble_eq_true rfl, Nat.le_of_ble_eq_true rfl⟩) (cm_preS hP hK hD hS hA hX [0, 1, 4] rfl rfl rfl) rfl rfl hl.1 rfl (lv_room (Nat.le_of_ble_eq_true rfl)) dL_law_1837 ⟨Nat.le_of_ble_eq_true rfl, Nat.le_of_ble_eq_true rfl⟩) hP hD hS hA [0, 1, 4] [2, 3] rfl rfl rfl (by decide) (fun r_1 u H locs hw_2 hP hD hS => ?_)
  have hw_2 : r_1 = 1 := hw_2
  obtain rfl := hw_2
  have hP : va_P D vwCl [(mo, .inr (11, [.ref mw, .ref ma, .ref mf, .ref m0, .ref m1, .ref mu, .ref mv, .ref u0, .ref u1, .ref iz, .int 0, .ref mb, .int 0, .int 0, .int 0, .int 0, .int 0, .int 0, .int 0])), (mw, .inl (ct 0, 958, .inl m_w0))] H := hP
  have hD : va_D A [(mo, .inr (11, [.ref mw, .ref ma, .ref mf, .ref m0, .ref m1, .ref mu, .ref mv, .ref u0, .ref u1, .ref iz, .int 0, .ref mb, .int 0, .int 0, .int 0, .int 0, .int 0, .int 0, .int 0])), (mw, .inl (ct 0, 958, .inl m_w0))] := hD
  refine W.widen (k := 158) (n := 8801) (Nat.le_of_ble_eq_true rfl) (Nat.le_of_ble_eq_true rfl) ?_
  refine lv_istore (lv' := [(6, .int 1), (0, .ref b), (1, .ref x), (2, .ref mo), (3, .ref ov), (4, .ref od), (5, .int 0)]) hx hb dL_law_1840 hl (by decide) rfl (fun ls hl => ?_)
  refine lv_aload_n hx hb dL_law_1842 rfl (lv_at hl 3 rfl) ?_
  refine lv_aload_n hx hb dL_law_1843 rfl (lv_at hl 1 rfl) ?_
  refine lv_iload hx hb dL_law_1844 (lv_at hl 6 rfl) ?_
  refine lv_iconst (v := 1) hx hb dL_law_1846 (by decide) ?_
  refine lv_iadd hx hb dL_law_1847 ?_
  refine cm_cst (y := 1) (by decide) ?_
  refine va_sld hx hb hXs hbl hbA hS (cm_vin (by decide)) dL_law_1848 ?_
  refine cm_kf (wr := []) (va_runV (As := [.int (xs (1 : Int32).toNatClampNeg)]) (rest := []) ⟨hx, hb, hml, hown, hts⟩ (m_chargeEfficiency_0 l D ct mo mw ma mf m0 m1 mu mv u0 u1 iz mb (xs (1 : Int32).toNatClampNeg) _) (cm_V 1 hts kc_X11_chargeEfficiency ki_RX11 kl_RL_280 kv_X11_chargeEfficiency kx_X11_chargeEfficiency kd_X11_chargeEfficiency ⟨Nat.le_of_ble_eq_true rfl, Nat.le_of_ble_eq_true rfl⟩) (cm_preV hP hK hD hS hA hX [0, 1] rfl rfl rfl (q0 := 0) (ci := 11) rfl rfl) rfl rfl hl.1 rfl (lv_room (Nat.le_of_ble_eq_true rfl)) dL_law_1849 ⟨Nat.le_of_ble_eq_true rfl, Nat.le_of_ble_eq_true rfl⟩) hP hD hS hA [0, 1] [] rfl rfl rfl (by decide) (fun r_3 u H locs hw_4 hP hD hS => ?_)
  have hP : va_P D vwCl [(mo, .inr (11, [.ref mw, .ref ma, .ref mf, .ref m0, .ref m1, .ref mu, .ref mv, .ref u0, .ref u1, .ref iz, .int 1, .ref mb, .int 0, .int 0, .int 0, .int 0, .int 0, .int 0, .int 0])), (mw, .inl (ct 0, 958, .inl m_w0))] H := hP
  have hD : va_D A [(mo, .inr (11, [.ref mw, .ref ma, .ref mf, .ref m0, .ref m1, .ref mu, .ref mv, .ref u0, .ref u1, .ref iz, .int 1, .ref mb, .int 0, .int 0, .int 0, .int 0, .int 0, .int 0, .int 0])), (mw, .inl (ct 0, 958, .inl m_w0))] := hD
  refine lv_fstore (lv' := [(7, .float r_3), (6, .int 1), (0, .ref b), (1, .ref x), (2, .ref mo), (3, .ref ov), (4, .ref od), (5, .int 0)]) hx hb dL_law_1852 hl (by decide) rfl (fun ls hl => ?_)
  refine lv_aload_n hx hb dL_law_1854 rfl (lv_at hl 4 rfl) ?_
  refine cm_ki (wr := [(mw, .inl (ct 0, 958, .inl m_w0))]) (va_runV (As := []) (rest := []) ⟨hx, hb, hml, hown, hts⟩ (m_thrown l D ct mo mw ma mf m0 m1 mu mv u0 u1 iz mb 1 _) (cm_V 0 hts kc_X11_thrown ki_RX11 kl_RL_202 kv_X11_thrown kx_X11_thrown kd_X11_thrown ⟨Nat.le_of_ble_eq_true rfl, Nat.le_of_ble_eq_true rfl⟩) (cm_preV hP hK hD hS hA hX [0] rfl rfl rfl (q0 := 0) (ci := 11) rfl rfl) rfl rfl hl.1 rfl (lv_room (Nat.le_of_ble_eq_true rfl)) dL_law_1855 ⟨Nat.le_of_ble_eq_true rfl, Nat.le_of_ble_eq_true rfl⟩) hP hD hS hA [0] [1] rfl rfl rfl (by decide) (fun r_5 u H locs hw_6 hP hD hS => ?_)
  have hw_6 : r_5 = 1 := hw_6
  obtain rfl := hw_6
  have hP : va_P D vwCl [(mw, .inl (ct 0, 958, .inl m_w0)), (mo, .inr (11, [.ref mw, .ref ma, .ref mf, .ref m0, .ref m1, .ref mu, .ref mv, .ref u0, .ref u1, .ref iz, .int 1, .ref mb, .int 0, .int 0, .int 0, .int 0, .int 0, .int 0, .int 0]))] H := hP
  have hD : va_D A [(mw, .inl (ct 0, 958, .inl m_w0)), (mo, .inr (11, [.ref mw, .ref ma, .ref mf, .ref m0, .ref m1, .ref mu, .ref mv, .ref u0, .ref u1, .ref iz, .int 1, .ref mb, .int 0, .int 0, .int 0, .int 0, .int 0, .int 0, .int 0]))] := hD
  refine lv_iload hx hb dL_law_1858 (lv_at hl 1 rfl) ?_
  refine lv_icmp_eq (tgt := 1865) hx hb dL_law_1860 (by decide) (fun _ => ?_) (fun hc => absurd (by decide) hc)
  refine lv_iload hx hb dL_law_1865 (lv_at hl 1 rfl) ?_
  refine lv_if_ne (tgt := 1903) hx hb dL_law_1867 (by decide) (fun _ => ?_) (fun hc => absurd hc (by decide))
  refine lv_goto (tgt := 3623) hx hb dL_law_1903 (by decide) ?_
  exact law_end C1 hS (lv_sub hl [2, 7] rfl) (Nat.le_of_ble_eq_true rfl) (Nat.le_of_ble_eq_true rfl)
theorem dL_law_1906 : decode cL_law 1906 = .ok (.aload_n 1, 1) := by decide +kernel
theorem dL_law_1907 : decode cL_law 1907 = .ok (.aload_n 0, 1) := by decide +kernel
theorem dL_law_1908 : decode cL_law 1908 = .ok (.iload 5, 2) := by decide +kernel
theorem dL_law_1910 : decode cL_law 1910 = .ok (.iconst 1, 1) := by decide +kernel
theorem dL_law_1911 : decode cL_law 1911 = .ok (.iadd, 1) := by decide +kernel
theorem dL_law_1912 : decode cL_law 1912 = .ok (.iaload, 1) := by decide +kernel
theorem dL_law_1913 : decode cL_law 1913 = .ok (.aload 4, 2) := by decide +kernel
theorem dL_law_1915 : decode cL_law 1915 = .ok (.invokestatic 281, 3) := by decide +kernel
theorem dL_law_1918 : decode cL_law 1918 = .ok (.istore 6, 2) := by decide +kernel
theorem dL_law_1920 : decode cL_law 1920 = .ok (.aload_n 2, 1) := by decide +kernel
theorem dL_law_1921 : decode cL_law 1921 = .ok (.aload_n 0, 1) := by decide +kernel
theorem dL_law_1922 : decode cL_law 1922 = .ok (.iload 5, 2) := by decide +kernel
theorem dL_law_1924 : decode cL_law 1924 = .ok (.iconst 1, 1) := by decide +kernel
theorem dL_law_1925 : decode cL_law 1925 = .ok (.iadd, 1) := by decide +kernel
theorem dL_law_1926 : decode cL_law 1926 = .ok (.iaload, 1) := by decide +kernel
theorem dL_law_1927 : decode cL_law 1927 = .ok (.invokevirtual 283, 3) := by decide +kernel
theorem dL_law_1930 : decode cL_law 1930 = .ok (.dstore 7, 2) := by decide +kernel
theorem dL_law_1932 : decode cL_law 1932 = .ok (.aload_n 2, 1) := by decide +kernel
theorem dL_law_1933 : decode cL_law 1933 = .ok (.invokevirtual 202, 3) := by decide +kernel
theorem dL_law_1936 : decode cL_law 1936 = .ok (.iload 6, 2) := by decide +kernel
theorem dL_law_1938 : decode cL_law 1938 = .ok (.if_icmp .eq 5, 3) := by decide +kernel
theorem dL_law_1943 : decode cL_law 1943 = .ok (.iload 6, 2) := by decide +kernel
theorem dL_law_1945 : decode cL_law 1945 = .ok (.ifCond .ne 35, 3) := by decide +kernel
theorem dL_law_1980 : decode cL_law 1980 = .ok (.goto 1643, 3) := by decide +kernel
set_option maxRecDepth 100000 in
set_option maxHeartbeats 4000000 in
theorem law_29 {p : Program} {l : Launch} {e : Env} {s : State} {m : MethodId} {below : List Frame} {meth : Method} {c : Code} {D : va_G} {ct : Nat → ClassId} {A : Nat → Prop} {b : Nat} {xs : Nat → Int32} {H : Heap} {locs : List Loc} {ls : Array Slot} (hfl : l.stackTraces = false) (C1 : cmL p s m meth c D ct A b 4 xs) (x : Nat) (w : Nat) (sp : Nat) (sv : Nat) (bu : Nat) (w_se : Nat) (w_cu : Nat) (w_pr : Nat) (w_ch : Nat) (w_re : Nat) (w_lo : Nat) (mo : Nat) (mw : Nat) (ma : Nat) (mf : Nat) (m0 : Nat) (m1 : Nat) (mu : Nat) (mv : Nat) (u0 : Nat) (u1 : Nat) (iz : Nat) (mb : Nat) (od : Nat) (ov : Nat) (hP : va_P D vwCl [(x, .inr (10, [.ref w, .ref sp, .ref sv, .ref bu, .int 0, .int 0])), (w, .inr (9, [.int 0, .ref w_se, .ref w_cu, .ref w_pr, .int 0, .ref w_ch, .ref w_re, .ref w_lo])), (mo, .inr (11, [.ref mw, .ref ma, .ref mf, .ref m0, .ref m1, .ref mu, .ref mv, .ref u0, .ref u1, .ref iz, .int 0, .ref mb, .int 0, .int 0, .int 0, .int 0, .int 0, .int 0, .int 0])), (mw, .inl (ct 0, 958, .inl m_w0)), (od, .inl (ct 5, 1, .inr (.inr (.inr (.inl (fun _ => 0))))))] H) (hD : va_D A [(x, .inr (10, [.ref w, .ref sp, .ref sv, .ref bu, .int 0, .int 0])), (w, .inr (9, [.int 0, .ref w_se, .ref w_cu, .ref w_pr, .int 0, .ref w_ch, .ref w_re, .ref w_lo])), (mo, .inr (11, [.ref mw, .ref ma, .ref mf, .ref m0, .ref m1, .ref mu, .ref mv, .ref u0, .ref u1, .ref iz, .int 0, .ref mb, .int 0, .int 0, .int 0, .int 0, .int 0, .int 0, .int 0])), (mw, .inl (ct 0, 958, .inl m_w0)), (od, .inl (ct 5, 1, .inr (.inr (.inr (.inl (fun _ => 0))))))]) (hS : va_S A s.heap H locs) (hl : lv_has ls 9 [(0, .ref b), (1, .ref x), (2, .ref mo), (3, .ref ov), (4, .ref od), (5, .int 0)]) : W p l e room_1 s m #[Value.ref b] below meth c H locs 157 8795 (lw_Z below #[Value.ref b] s) (F0 m 1906 ls []) := by
  obtain ⟨hx, hb, hr, hml, hown, hts, hK, hX, hXs, hbl, hbA, hA, hAr, hlocks⟩ := id C1
  refine lv_aload_n hx hb dL_law_1906 rfl (lv_at hl 1 rfl) ?_
  refine lv_aload_n hx hb dL_law_1907 rfl (lv_at hl 0 rfl) ?_
  refine lv_iload hx hb dL_law_1908 (lv_at hl 5 rfl) ?_
  refine lv_iconst (v := 1) hx hb dL_law_1910 (by decide) ?_
  refine lv_iadd hx hb dL_law_1911 ?_
  refine cm_cst (y := 1) (by decide) ?_
  refine va_sld hx hb hXs hbl hbA hS (cm_vin (by decide)) dL_law_1912 ?_
  refine lv_aload hx hb dL_law_1913 (lv_at hl 4 rfl) ?_
  refine cm_ki (wr := [(mo, .inr (11, [.ref mw, .ref ma, .ref mf, .ref m0, .ref m1, .ref mu, .ref mv, .ref u0, .ref u1, .ref iz, .int 0, .ref mb, .int 0, .int 0, .int 0, .int 0, .int 0, .int 0, .int 0])), (mw, .inl (ct 0, 958, .inl m_w0))]) (vx_runSW (As := [.ref x, .int (xs (1 : Int32).toNatClampNeg), .ref od]) (rest := []) ⟨hx, hb, hml, hown, hts⟩ (l_energyEfficiency l hfl D ct x w sp sv bu w_se w_cu w_pr w_ch w_re w_lo od (fun _ => 0) (xs (1 : Int32).toNatClampNeg) _) (cm_SW 3 hts kw_L_energyEfficiency ki_RL kl_RL_281 ks_L_energyEfficiency kd_L_energyEfficiency ⟨Nat.le_of_ble_eq_true rfl, Nat.le_of_ble_eq_true rfl⟩) (cm_preS hP hK hD hS hA hX [0, 1, 4] rfl rfl rfl) rfl rfl hl.1 rfl (lv_room (Nat.le_of_ble_eq_true rfl)) dL_law_1915 ⟨Nat.le_of_ble_eq_true rfl, Nat.le_of_ble_eq_true rfl⟩) hP hD hS hA [0, 1, 4] [2, 3] rfl rfl rfl (by decide) (fun r_1 u H locs hw_2 hP hD hS => ?_)
  have hw_2 : r_1 = 1 := hw_2
  obtain rfl := hw_2
  have hP : va_P D vwCl [(mo, .inr (11, [.ref mw, .ref ma, .ref mf, .ref m0, .ref m1, .ref mu, .ref mv, .ref u0, .ref u1, .ref iz, .int 0, .ref mb, .int 0, .int 0, .int 0, .int 0, .int 0, .int 0, .int 0])), (mw, .inl (ct 0, 958, .inl m_w0))] H := hP
  have hD : va_D A [(mo, .inr (11, [.ref mw, .ref ma, .ref mf, .ref m0, .ref m1, .ref mu, .ref mv, .ref u0, .ref u1, .ref iz, .int 0, .ref mb, .int 0, .int 0, .int 0, .int 0, .int 0, .int 0, .int 0])), (mw, .inl (ct 0, 958, .inl m_w0))] := hD
  refine W.widen (k := 158) (n := 8801) (Nat.le_of_ble_eq_true rfl) (Nat.le_of_ble_eq_true rfl) ?_
  refine lv_istore (lv' := [(6, .int 1), (0, .ref b), (1, .ref x), (2, .ref mo), (3, .ref ov), (4, .ref od), (5, .int 0)]) hx hb dL_law_1918 hl (by decide) rfl (fun ls hl => ?_)
  refine lv_aload_n hx hb dL_law_1920 rfl (lv_at hl 3 rfl) ?_
  refine lv_aload_n hx hb dL_law_1921 rfl (lv_at hl 1 rfl) ?_
  refine lv_iload hx hb dL_law_1922 (lv_at hl 6 rfl) ?_
  refine lv_iconst (v := 1) hx hb dL_law_1924 (by decide) ?_
  refine lv_iadd hx hb dL_law_1925 ?_
  refine cm_cst (y := 1) (by decide) ?_
  refine va_sld hx hb hXs hbl hbA hS (cm_vin (by decide)) dL_law_1926 ?_
  refine cm_kd (wr := []) (va_runV (As := [.int (xs (1 : Int32).toNatClampNeg)]) (rest := []) ⟨hx, hb, hml, hown, hts⟩ (m_energyEfficiency_0 l D ct mo mw ma mf m0 m1 mu mv u0 u1 iz mb (xs (1 : Int32).toNatClampNeg) _) (cm_V 1 hts kc_X11_energyEfficiency ki_RX11 kl_RL_283 kv_X11_energyEfficiency kx_X11_energyEfficiency kd_X11_energyEfficiency ⟨Nat.le_of_ble_eq_true rfl, Nat.le_of_ble_eq_true rfl⟩) (cm_preV hP hK hD hS hA hX [0, 1] rfl rfl rfl (q0 := 0) (ci := 11) rfl rfl) rfl rfl hl.1 rfl (lv_room (Nat.le_of_ble_eq_true rfl)) dL_law_1927 ⟨Nat.le_of_ble_eq_true rfl, Nat.le_of_ble_eq_true rfl⟩) hP hD hS hA [0, 1] [] rfl rfl rfl (by decide) (fun r_3 u H locs hw_4 hP hD hS => ?_)
  have hP : va_P D vwCl [(mo, .inr (11, [.ref mw, .ref ma, .ref mf, .ref m0, .ref m1, .ref mu, .ref mv, .ref u0, .ref u1, .ref iz, .int 1, .ref mb, .int 0, .int 0, .int 0, .int 0, .int 0, .int 0, .int 0])), (mw, .inl (ct 0, 958, .inl m_w0))] H := hP
  have hD : va_D A [(mo, .inr (11, [.ref mw, .ref ma, .ref mf, .ref m0, .ref m1, .ref mu, .ref mv, .ref u0, .ref u1, .ref iz, .int 1, .ref mb, .int 0, .int 0, .int 0, .int 0, .int 0, .int 0, .int 0])), (mw, .inl (ct 0, 958, .inl m_w0))] := hD
  refine lv_dstore (lv' := [(7, .double r_3), (6, .int 1), (0, .ref b), (1, .ref x), (2, .ref mo), (3, .ref ov), (4, .ref od), (5, .int 0)]) hx hb dL_law_1930 hl (by decide) rfl (fun ls hl => ?_)
  refine lv_aload_n hx hb dL_law_1932 rfl (lv_at hl 4 rfl) ?_
  refine cm_ki (wr := [(mw, .inl (ct 0, 958, .inl m_w0))]) (va_runV (As := []) (rest := []) ⟨hx, hb, hml, hown, hts⟩ (m_thrown l D ct mo mw ma mf m0 m1 mu mv u0 u1 iz mb 1 _) (cm_V 0 hts kc_X11_thrown ki_RX11 kl_RL_202 kv_X11_thrown kx_X11_thrown kd_X11_thrown ⟨Nat.le_of_ble_eq_true rfl, Nat.le_of_ble_eq_true rfl⟩) (cm_preV hP hK hD hS hA hX [0] rfl rfl rfl (q0 := 0) (ci := 11) rfl rfl) rfl rfl hl.1 rfl (lv_room (Nat.le_of_ble_eq_true rfl)) dL_law_1933 ⟨Nat.le_of_ble_eq_true rfl, Nat.le_of_ble_eq_true rfl⟩) hP hD hS hA [0] [1] rfl rfl rfl (by decide) (fun r_5 u H locs hw_6 hP hD hS => ?_)
  have hw_6 : r_5 = 1 := hw_6
  obtain rfl := hw_6
  have hP : va_P D vwCl [(mw, .inl (ct 0, 958, .inl m_w0)), (mo, .inr (11, [.ref mw, .ref ma, .ref mf, .ref m0, .ref m1, .ref mu, .ref mv, .ref u0, .ref u1, .ref iz, .int 1, .ref mb, .int 0, .int 0, .int 0, .int 0, .int 0, .int 0, .int 0]))] H := hP
  have hD : va_D A [(mw, .inl (ct 0, 958, .inl m_w0)), (mo, .inr (11, [.ref mw, .ref ma, .ref mf, .ref m0, .ref m1, .ref mu, .ref mv, .ref u0, .ref u1, .ref iz, .int 1, .ref mb, .int 0, .int 0, .int 0, .int 0, .int 0, .int 0, .int 0]))] := hD
  refine lv_iload hx hb dL_law_1936 (lv_at hl 1 rfl) ?_
  refine lv_icmp_eq (tgt := 1943) hx hb dL_law_1938 (by decide) (fun _ => ?_) (fun hc => absurd (by decide) hc)
  refine lv_iload hx hb dL_law_1943 (lv_at hl 1 rfl) ?_
  refine lv_if_ne (tgt := 1980) hx hb dL_law_1945 (by decide) (fun _ => ?_) (fun hc => absurd hc (by decide))
  refine lv_goto (tgt := 3623) hx hb dL_law_1980 (by decide) ?_
  exact law_end C1 hS (lv_sub hl [2, 7] rfl) (Nat.le_of_ble_eq_true rfl) (Nat.le_of_ble_eq_true rfl)
theorem dL_law_1983 : decode cL_law 1983 = .ok (.aload_n 1, 1) := by decide +kernel
theorem dL_law_1984 : decode cL_law 1984 = .ok (.aload_n 0, 1) := by decide +kernel
theorem dL_law_1985 : decode cL_law 1985 = .ok (.iload 5, 2) := by decide +kernel
theorem dL_law_1987 : decode cL_law 1987 = .ok (.iconst 1, 1) := by decide +kernel
theorem dL_law_1988 : decode cL_law 1988 = .ok (.iadd, 1) := by decide +kernel
theorem dL_law_1989 : decode cL_law 1989 = .ok (.iaload, 1) := by decide +kernel
theorem dL_law_1990 : decode cL_law 1990 = .ok (.aload_n 3, 1) := by decide +kernel
theorem dL_law_1991 : decode cL_law 1991 = .ok (.invokestatic 284, 3) := by decide +kernel
theorem dL_law_1994 : decode cL_law 1994 = .ok (.istore 6, 2) := by decide +kernel
theorem dL_law_1996 : decode cL_law 1996 = .ok (.aload_n 2, 1) := by decide +kernel
theorem dL_law_1997 : decode cL_law 1997 = .ok (.aload_n 0, 1) := by decide +kernel
theorem dL_law_1998 : decode cL_law 1998 = .ok (.iload 5, 2) := by decide +kernel
theorem dL_law_2000 : decode cL_law 2000 = .ok (.iconst 1, 1) := by decide +kernel
theorem dL_law_2001 : decode cL_law 2001 = .ok (.iadd, 1) := by decide +kernel
theorem dL_law_2002 : decode cL_law 2002 = .ok (.iaload, 1) := by decide +kernel
theorem dL_law_2003 : decode cL_law 2003 = .ok (.invokevirtual 286, 3) := by decide +kernel
theorem dL_law_2006 : decode cL_law 2006 = .ok (.istore 7, 2) := by decide +kernel
theorem dL_law_2008 : decode cL_law 2008 = .ok (.aload_n 2, 1) := by decide +kernel
theorem dL_law_2009 : decode cL_law 2009 = .ok (.invokevirtual 202, 3) := by decide +kernel
theorem dL_law_2012 : decode cL_law 2012 = .ok (.iload 6, 2) := by decide +kernel
theorem dL_law_2014 : decode cL_law 2014 = .ok (.if_icmp .eq 5, 3) := by decide +kernel
theorem dL_law_2019 : decode cL_law 2019 = .ok (.iload 6, 2) := by decide +kernel
theorem dL_law_2021 : decode cL_law 2021 = .ok (.ifCond .ne 15, 3) := by decide +kernel
theorem dL_law_2036 : decode cL_law 2036 = .ok (.goto 1587, 3) := by decide +kernel
set_option maxRecDepth 100000 in
set_option maxHeartbeats 4000000 in
theorem law_30 {p : Program} {l : Launch} {e : Env} {s : State} {m : MethodId} {below : List Frame} {meth : Method} {c : Code} {D : va_G} {ct : Nat → ClassId} {A : Nat → Prop} {b : Nat} {xs : Nat → Int32} {H : Heap} {locs : List Loc} {ls : Array Slot} (hfl : l.stackTraces = false) (C1 : cmL p s m meth c D ct A b 4 xs) (x : Nat) (w : Nat) (sp : Nat) (sv : Nat) (bu : Nat) (w_se : Nat) (w_cu : Nat) (w_pr : Nat) (w_ch : Nat) (w_re : Nat) (w_lo : Nat) (mo : Nat) (mw : Nat) (ma : Nat) (mf : Nat) (m0 : Nat) (m1 : Nat) (mu : Nat) (mv : Nat) (u0 : Nat) (u1 : Nat) (iz : Nat) (mb : Nat) (ov : Nat) (od : Nat) (hP : va_P D vwCl [(x, .inr (10, [.ref w, .ref sp, .ref sv, .ref bu, .int 0, .int 0])), (w, .inr (9, [.int 0, .ref w_se, .ref w_cu, .ref w_pr, .int 0, .ref w_ch, .ref w_re, .ref w_lo])), (mo, .inr (11, [.ref mw, .ref ma, .ref mf, .ref m0, .ref m1, .ref mu, .ref mv, .ref u0, .ref u1, .ref iz, .int 0, .ref mb, .int 0, .int 0, .int 0, .int 0, .int 0, .int 0, .int 0])), (mw, .inl (ct 0, 958, .inl m_w0)), (ov, .inl (ct 1, 1, .inr (.inl (fun _ => 0))))] H) (hD : va_D A [(x, .inr (10, [.ref w, .ref sp, .ref sv, .ref bu, .int 0, .int 0])), (w, .inr (9, [.int 0, .ref w_se, .ref w_cu, .ref w_pr, .int 0, .ref w_ch, .ref w_re, .ref w_lo])), (mo, .inr (11, [.ref mw, .ref ma, .ref mf, .ref m0, .ref m1, .ref mu, .ref mv, .ref u0, .ref u1, .ref iz, .int 0, .ref mb, .int 0, .int 0, .int 0, .int 0, .int 0, .int 0, .int 0])), (mw, .inl (ct 0, 958, .inl m_w0)), (ov, .inl (ct 1, 1, .inr (.inl (fun _ => 0))))]) (hS : va_S A s.heap H locs) (hl : lv_has ls 9 [(0, .ref b), (1, .ref x), (2, .ref mo), (3, .ref ov), (4, .ref od), (5, .int 0)]) : W p l e room_1 s m #[Value.ref b] below meth c H locs 157 8795 (lw_Z below #[Value.ref b] s) (F0 m 1983 ls []) := by
  obtain ⟨hx, hb, hr, hml, hown, hts, hK, hX, hXs, hbl, hbA, hA, hAr, hlocks⟩ := id C1
  refine lv_aload_n hx hb dL_law_1983 rfl (lv_at hl 1 rfl) ?_
  refine lv_aload_n hx hb dL_law_1984 rfl (lv_at hl 0 rfl) ?_
  refine lv_iload hx hb dL_law_1985 (lv_at hl 5 rfl) ?_
  refine lv_iconst (v := 1) hx hb dL_law_1987 (by decide) ?_
  refine lv_iadd hx hb dL_law_1988 ?_
  refine cm_cst (y := 1) (by decide) ?_
  refine va_sld hx hb hXs hbl hbA hS (cm_vin (by decide)) dL_law_1989 ?_
  refine lv_aload_n hx hb dL_law_1990 rfl (lv_at hl 3 rfl) ?_
  refine cm_ki (wr := [(mo, .inr (11, [.ref mw, .ref ma, .ref mf, .ref m0, .ref m1, .ref mu, .ref mv, .ref u0, .ref u1, .ref iz, .int 0, .ref mb, .int 0, .int 0, .int 0, .int 0, .int 0, .int 0, .int 0])), (mw, .inl (ct 0, 958, .inl m_w0))]) (vx_runSW (As := [.ref x, .int (xs (1 : Int32).toNatClampNeg), .ref ov]) (rest := []) ⟨hx, hb, hml, hown, hts⟩ (l_power l hfl D ct x w sp sv bu w_se w_cu w_pr w_ch w_re w_lo ov (fun _ => 0) (xs (1 : Int32).toNatClampNeg) _) (cm_SW 3 hts kw_L_power ki_RL kl_RL_284 ks_L_power kd_L_power ⟨Nat.le_of_ble_eq_true rfl, Nat.le_of_ble_eq_true rfl⟩) (cm_preS hP hK hD hS hA hX [0, 1, 4] rfl rfl rfl) rfl rfl hl.1 rfl (lv_room (Nat.le_of_ble_eq_true rfl)) dL_law_1991 ⟨Nat.le_of_ble_eq_true rfl, Nat.le_of_ble_eq_true rfl⟩) hP hD hS hA [0, 1, 4] [2, 3] rfl rfl rfl (by decide) (fun r_1 u H locs hw_2 hP hD hS => ?_)
  have hw_2 : r_1 = 1 := hw_2
  obtain rfl := hw_2
  have hP : va_P D vwCl [(mo, .inr (11, [.ref mw, .ref ma, .ref mf, .ref m0, .ref m1, .ref mu, .ref mv, .ref u0, .ref u1, .ref iz, .int 0, .ref mb, .int 0, .int 0, .int 0, .int 0, .int 0, .int 0, .int 0])), (mw, .inl (ct 0, 958, .inl m_w0))] H := hP
  have hD : va_D A [(mo, .inr (11, [.ref mw, .ref ma, .ref mf, .ref m0, .ref m1, .ref mu, .ref mv, .ref u0, .ref u1, .ref iz, .int 0, .ref mb, .int 0, .int 0, .int 0, .int 0, .int 0, .int 0, .int 0])), (mw, .inl (ct 0, 958, .inl m_w0))] := hD
  refine W.widen (k := 158) (n := 8801) (Nat.le_of_ble_eq_true rfl) (Nat.le_of_ble_eq_true rfl) ?_
  refine lv_istore (lv' := [(6, .int 1), (0, .ref b), (1, .ref x), (2, .ref mo), (3, .ref ov), (4, .ref od), (5, .int 0)]) hx hb dL_law_1994 hl (by decide) rfl (fun ls hl => ?_)
  refine lv_aload_n hx hb dL_law_1996 rfl (lv_at hl 3 rfl) ?_
  refine lv_aload_n hx hb dL_law_1997 rfl (lv_at hl 1 rfl) ?_
  refine lv_iload hx hb dL_law_1998 (lv_at hl 6 rfl) ?_
  refine lv_iconst (v := 1) hx hb dL_law_2000 (by decide) ?_
  refine lv_iadd hx hb dL_law_2001 ?_
  refine cm_cst (y := 1) (by decide) ?_
  refine va_sld hx hb hXs hbl hbA hS (cm_vin (by decide)) dL_law_2002 ?_
  refine cm_ki (wr := []) (va_runV (As := [.int (xs (1 : Int32).toNatClampNeg)]) (rest := []) ⟨hx, hb, hml, hown, hts⟩ (m_power_0 l D ct mo mw ma mf m0 m1 mu mv u0 u1 iz mb (xs (1 : Int32).toNatClampNeg) _) (cm_V 1 hts kc_X11_power ki_RX11 kl_RL_286 kv_X11_power kx_X11_power kd_X11_power ⟨Nat.le_of_ble_eq_true rfl, Nat.le_of_ble_eq_true rfl⟩) (cm_preV hP hK hD hS hA hX [0, 1] rfl rfl rfl (q0 := 0) (ci := 11) rfl rfl) rfl rfl hl.1 rfl (lv_room (Nat.le_of_ble_eq_true rfl)) dL_law_2003 ⟨Nat.le_of_ble_eq_true rfl, Nat.le_of_ble_eq_true rfl⟩) hP hD hS hA [0, 1] [] rfl rfl rfl (by decide) (fun r_3 u H locs hw_4 hP hD hS => ?_)
  have hP : va_P D vwCl [(mo, .inr (11, [.ref mw, .ref ma, .ref mf, .ref m0, .ref m1, .ref mu, .ref mv, .ref u0, .ref u1, .ref iz, .int 1, .ref mb, .int 0, .int 0, .int 0, .int 0, .int 0, .int 0, .int 0])), (mw, .inl (ct 0, 958, .inl m_w0))] H := hP
  have hD : va_D A [(mo, .inr (11, [.ref mw, .ref ma, .ref mf, .ref m0, .ref m1, .ref mu, .ref mv, .ref u0, .ref u1, .ref iz, .int 1, .ref mb, .int 0, .int 0, .int 0, .int 0, .int 0, .int 0, .int 0])), (mw, .inl (ct 0, 958, .inl m_w0))] := hD
  refine lv_istore (lv' := [(7, .int r_3), (6, .int 1), (0, .ref b), (1, .ref x), (2, .ref mo), (3, .ref ov), (4, .ref od), (5, .int 0)]) hx hb dL_law_2006 hl (by decide) rfl (fun ls hl => ?_)
  refine lv_aload_n hx hb dL_law_2008 rfl (lv_at hl 4 rfl) ?_
  refine cm_ki (wr := [(mw, .inl (ct 0, 958, .inl m_w0))]) (va_runV (As := []) (rest := []) ⟨hx, hb, hml, hown, hts⟩ (m_thrown l D ct mo mw ma mf m0 m1 mu mv u0 u1 iz mb 1 _) (cm_V 0 hts kc_X11_thrown ki_RX11 kl_RL_202 kv_X11_thrown kx_X11_thrown kd_X11_thrown ⟨Nat.le_of_ble_eq_true rfl, Nat.le_of_ble_eq_true rfl⟩) (cm_preV hP hK hD hS hA hX [0] rfl rfl rfl (q0 := 0) (ci := 11) rfl rfl) rfl rfl hl.1 rfl (lv_room (Nat.le_of_ble_eq_true rfl)) dL_law_2009 ⟨Nat.le_of_ble_eq_true rfl, Nat.le_of_ble_eq_true rfl⟩) hP hD hS hA [0] [1] rfl rfl rfl (by decide) (fun r_5 u H locs hw_6 hP hD hS => ?_)
  have hw_6 : r_5 = 1 := hw_6
  obtain rfl := hw_6
  have hP : va_P D vwCl [(mw, .inl (ct 0, 958, .inl m_w0)), (mo, .inr (11, [.ref mw, .ref ma, .ref mf, .ref m0, .ref m1, .ref mu, .ref mv, .ref u0, .ref u1, .ref iz, .int 1, .ref mb, .int 0, .int 0, .int 0, .int 0, .int 0, .int 0, .int 0]))] H := hP
  have hD : va_D A [(mw, .inl (ct 0, 958, .inl m_w0)), (mo, .inr (11, [.ref mw, .ref ma, .ref mf, .ref m0, .ref m1, .ref mu, .ref mv, .ref u0, .ref u1, .ref iz, .int 1, .ref mb, .int 0, .int 0, .int 0, .int 0, .int 0, .int 0, .int 0]))] := hD
  refine lv_iload hx hb dL_law_2012 (lv_at hl 1 rfl) ?_
  refine lv_icmp_eq (tgt := 2019) hx hb dL_law_2014 (by decide) (fun _ => ?_) (fun hc => absurd (by decide) hc)
  refine lv_iload hx hb dL_law_2019 (lv_at hl 1 rfl) ?_
  refine lv_if_ne (tgt := 2036) hx hb dL_law_2021 (by decide) (fun _ => ?_) (fun hc => absurd hc (by decide))
  refine lv_goto (tgt := 3623) hx hb dL_law_2036 (by decide) ?_
  exact law_end C1 hS (lv_sub hl [2, 7] rfl) (Nat.le_of_ble_eq_true rfl) (Nat.le_of_ble_eq_true rfl)
theorem dL_law_2039 : decode cL_law 2039 = .ok (.aload_n 1, 1) := by decide +kernel
theorem dL_law_2040 : decode cL_law 2040 = .ok (.aload_n 0, 1) := by decide +kernel
theorem dL_law_2041 : decode cL_law 2041 = .ok (.iload 5, 2) := by decide +kernel
theorem dL_law_2043 : decode cL_law 2043 = .ok (.iconst 1, 1) := by decide +kernel
theorem dL_law_2044 : decode cL_law 2044 = .ok (.iadd, 1) := by decide +kernel
theorem dL_law_2045 : decode cL_law 2045 = .ok (.iaload, 1) := by decide +kernel
theorem dL_law_2046 : decode cL_law 2046 = .ok (.aload_n 3, 1) := by decide +kernel
theorem dL_law_2047 : decode cL_law 2047 = .ok (.invokestatic 287, 3) := by decide +kernel
theorem dL_law_2050 : decode cL_law 2050 = .ok (.istore 6, 2) := by decide +kernel
theorem dL_law_2052 : decode cL_law 2052 = .ok (.aload_n 2, 1) := by decide +kernel
theorem dL_law_2053 : decode cL_law 2053 = .ok (.aload_n 0, 1) := by decide +kernel
theorem dL_law_2054 : decode cL_law 2054 = .ok (.iload 5, 2) := by decide +kernel
theorem dL_law_2056 : decode cL_law 2056 = .ok (.iconst 1, 1) := by decide +kernel
theorem dL_law_2057 : decode cL_law 2057 = .ok (.iadd, 1) := by decide +kernel
theorem dL_law_2058 : decode cL_law 2058 = .ok (.iaload, 1) := by decide +kernel
theorem dL_law_2059 : decode cL_law 2059 = .ok (.invokevirtual 289, 3) := by decide +kernel
theorem dL_law_2062 : decode cL_law 2062 = .ok (.istore 7, 2) := by decide +kernel
theorem dL_law_2064 : decode cL_law 2064 = .ok (.aload_n 2, 1) := by decide +kernel
theorem dL_law_2065 : decode cL_law 2065 = .ok (.invokevirtual 202, 3) := by decide +kernel
theorem dL_law_2068 : decode cL_law 2068 = .ok (.iload 6, 2) := by decide +kernel
theorem dL_law_2070 : decode cL_law 2070 = .ok (.if_icmp .eq 5, 3) := by decide +kernel
theorem dL_law_2075 : decode cL_law 2075 = .ok (.iload 6, 2) := by decide +kernel
theorem dL_law_2077 : decode cL_law 2077 = .ok (.ifCond .ne 15, 3) := by decide +kernel
theorem dL_law_2092 : decode cL_law 2092 = .ok (.goto 1531, 3) := by decide +kernel
set_option maxRecDepth 100000 in
set_option maxHeartbeats 4000000 in
theorem law_31 {p : Program} {l : Launch} {e : Env} {s : State} {m : MethodId} {below : List Frame} {meth : Method} {c : Code} {D : va_G} {ct : Nat → ClassId} {A : Nat → Prop} {b : Nat} {xs : Nat → Int32} {H : Heap} {locs : List Loc} {ls : Array Slot} (hfl : l.stackTraces = false) (C1 : cmL p s m meth c D ct A b 4 xs) (x : Nat) (w : Nat) (sp : Nat) (sv : Nat) (bu : Nat) (w_se : Nat) (w_cu : Nat) (w_pr : Nat) (w_ch : Nat) (w_re : Nat) (w_lo : Nat) (mo : Nat) (mw : Nat) (ma : Nat) (mf : Nat) (m0 : Nat) (m1 : Nat) (mu : Nat) (mv : Nat) (u0 : Nat) (u1 : Nat) (iz : Nat) (mb : Nat) (ov : Nat) (od : Nat) (hP : va_P D vwCl [(x, .inr (10, [.ref w, .ref sp, .ref sv, .ref bu, .int 0, .int 0])), (w, .inr (9, [.int 0, .ref w_se, .ref w_cu, .ref w_pr, .int 0, .ref w_ch, .ref w_re, .ref w_lo])), (mo, .inr (11, [.ref mw, .ref ma, .ref mf, .ref m0, .ref m1, .ref mu, .ref mv, .ref u0, .ref u1, .ref iz, .int 0, .ref mb, .int 0, .int 0, .int 0, .int 0, .int 0, .int 0, .int 0])), (mw, .inl (ct 0, 958, .inl m_w0)), (ov, .inl (ct 1, 1, .inr (.inl (fun _ => 0))))] H) (hD : va_D A [(x, .inr (10, [.ref w, .ref sp, .ref sv, .ref bu, .int 0, .int 0])), (w, .inr (9, [.int 0, .ref w_se, .ref w_cu, .ref w_pr, .int 0, .ref w_ch, .ref w_re, .ref w_lo])), (mo, .inr (11, [.ref mw, .ref ma, .ref mf, .ref m0, .ref m1, .ref mu, .ref mv, .ref u0, .ref u1, .ref iz, .int 0, .ref mb, .int 0, .int 0, .int 0, .int 0, .int 0, .int 0, .int 0])), (mw, .inl (ct 0, 958, .inl m_w0)), (ov, .inl (ct 1, 1, .inr (.inl (fun _ => 0))))]) (hS : va_S A s.heap H locs) (hl : lv_has ls 9 [(0, .ref b), (1, .ref x), (2, .ref mo), (3, .ref ov), (4, .ref od), (5, .int 0)]) : W p l e room_1 s m #[Value.ref b] below meth c H locs 157 8795 (lw_Z below #[Value.ref b] s) (F0 m 2039 ls []) := by
  obtain ⟨hx, hb, hr, hml, hown, hts, hK, hX, hXs, hbl, hbA, hA, hAr, hlocks⟩ := id C1
  refine lv_aload_n hx hb dL_law_2039 rfl (lv_at hl 1 rfl) ?_
  refine lv_aload_n hx hb dL_law_2040 rfl (lv_at hl 0 rfl) ?_
  refine lv_iload hx hb dL_law_2041 (lv_at hl 5 rfl) ?_
  refine lv_iconst (v := 1) hx hb dL_law_2043 (by decide) ?_
  refine lv_iadd hx hb dL_law_2044 ?_
  refine cm_cst (y := 1) (by decide) ?_
  refine va_sld hx hb hXs hbl hbA hS (cm_vin (by decide)) dL_law_2045 ?_
  refine lv_aload_n hx hb dL_law_2046 rfl (lv_at hl 3 rfl) ?_
  refine cm_ki (wr := [(mo, .inr (11, [.ref mw, .ref ma, .ref mf, .ref m0, .ref m1, .ref mu, .ref mv, .ref u0, .ref u1, .ref iz, .int 0, .ref mb, .int 0, .int 0, .int 0, .int 0, .int 0, .int 0, .int 0])), (mw, .inl (ct 0, 958, .inl m_w0))]) (vx_runSW (As := [.ref x, .int (xs (1 : Int32).toNatClampNeg), .ref ov]) (rest := []) ⟨hx, hb, hml, hown, hts⟩ (l_measuredRest l hfl D ct x w sp sv bu w_se w_cu w_pr w_ch w_re w_lo ov (fun _ => 0) (xs (1 : Int32).toNatClampNeg) _) (cm_SW 3 hts kw_L_measuredRest ki_RL kl_RL_287 ks_L_measuredRest kd_L_measuredRest ⟨Nat.le_of_ble_eq_true rfl, Nat.le_of_ble_eq_true rfl⟩) (cm_preS hP hK hD hS hA hX [0, 1, 4] rfl rfl rfl) rfl rfl hl.1 rfl (lv_room (Nat.le_of_ble_eq_true rfl)) dL_law_2047 ⟨Nat.le_of_ble_eq_true rfl, Nat.le_of_ble_eq_true rfl⟩) hP hD hS hA [0, 1, 4] [2, 3] rfl rfl rfl (by decide) (fun r_1 u H locs hw_2 hP hD hS => ?_)
  have hw_2 : r_1 = 1 := hw_2
  obtain rfl := hw_2
  have hP : va_P D vwCl [(mo, .inr (11, [.ref mw, .ref ma, .ref mf, .ref m0, .ref m1, .ref mu, .ref mv, .ref u0, .ref u1, .ref iz, .int 0, .ref mb, .int 0, .int 0, .int 0, .int 0, .int 0, .int 0, .int 0])), (mw, .inl (ct 0, 958, .inl m_w0))] H := hP
  have hD : va_D A [(mo, .inr (11, [.ref mw, .ref ma, .ref mf, .ref m0, .ref m1, .ref mu, .ref mv, .ref u0, .ref u1, .ref iz, .int 0, .ref mb, .int 0, .int 0, .int 0, .int 0, .int 0, .int 0, .int 0])), (mw, .inl (ct 0, 958, .inl m_w0))] := hD
  refine W.widen (k := 158) (n := 8801) (Nat.le_of_ble_eq_true rfl) (Nat.le_of_ble_eq_true rfl) ?_
  refine lv_istore (lv' := [(6, .int 1), (0, .ref b), (1, .ref x), (2, .ref mo), (3, .ref ov), (4, .ref od), (5, .int 0)]) hx hb dL_law_2050 hl (by decide) rfl (fun ls hl => ?_)
  refine lv_aload_n hx hb dL_law_2052 rfl (lv_at hl 3 rfl) ?_
  refine lv_aload_n hx hb dL_law_2053 rfl (lv_at hl 1 rfl) ?_
  refine lv_iload hx hb dL_law_2054 (lv_at hl 6 rfl) ?_
  refine lv_iconst (v := 1) hx hb dL_law_2056 (by decide) ?_
  refine lv_iadd hx hb dL_law_2057 ?_
  refine cm_cst (y := 1) (by decide) ?_
  refine va_sld hx hb hXs hbl hbA hS (cm_vin (by decide)) dL_law_2058 ?_
  refine cm_ki (wr := []) (va_runV (As := [.int (xs (1 : Int32).toNatClampNeg)]) (rest := []) ⟨hx, hb, hml, hown, hts⟩ (m_measuredRest_0 l D ct mo mw ma mf m0 m1 mu mv u0 u1 iz mb (xs (1 : Int32).toNatClampNeg) _) (cm_V 1 hts kc_X11_measuredRest ki_RX11 kl_RL_289 kv_X11_measuredRest kx_X11_measuredRest kd_X11_measuredRest ⟨Nat.le_of_ble_eq_true rfl, Nat.le_of_ble_eq_true rfl⟩) (cm_preV hP hK hD hS hA hX [0, 1] rfl rfl rfl (q0 := 0) (ci := 11) rfl rfl) rfl rfl hl.1 rfl (lv_room (Nat.le_of_ble_eq_true rfl)) dL_law_2059 ⟨Nat.le_of_ble_eq_true rfl, Nat.le_of_ble_eq_true rfl⟩) hP hD hS hA [0, 1] [] rfl rfl rfl (by decide) (fun r_3 u H locs hw_4 hP hD hS => ?_)
  have hP : va_P D vwCl [(mo, .inr (11, [.ref mw, .ref ma, .ref mf, .ref m0, .ref m1, .ref mu, .ref mv, .ref u0, .ref u1, .ref iz, .int 1, .ref mb, .int 0, .int 0, .int 0, .int 0, .int 0, .int 0, .int 0])), (mw, .inl (ct 0, 958, .inl m_w0))] H := hP
  have hD : va_D A [(mo, .inr (11, [.ref mw, .ref ma, .ref mf, .ref m0, .ref m1, .ref mu, .ref mv, .ref u0, .ref u1, .ref iz, .int 1, .ref mb, .int 0, .int 0, .int 0, .int 0, .int 0, .int 0, .int 0])), (mw, .inl (ct 0, 958, .inl m_w0))] := hD
  refine lv_istore (lv' := [(7, .int r_3), (6, .int 1), (0, .ref b), (1, .ref x), (2, .ref mo), (3, .ref ov), (4, .ref od), (5, .int 0)]) hx hb dL_law_2062 hl (by decide) rfl (fun ls hl => ?_)
  refine lv_aload_n hx hb dL_law_2064 rfl (lv_at hl 4 rfl) ?_
  refine cm_ki (wr := [(mw, .inl (ct 0, 958, .inl m_w0))]) (va_runV (As := []) (rest := []) ⟨hx, hb, hml, hown, hts⟩ (m_thrown l D ct mo mw ma mf m0 m1 mu mv u0 u1 iz mb 1 _) (cm_V 0 hts kc_X11_thrown ki_RX11 kl_RL_202 kv_X11_thrown kx_X11_thrown kd_X11_thrown ⟨Nat.le_of_ble_eq_true rfl, Nat.le_of_ble_eq_true rfl⟩) (cm_preV hP hK hD hS hA hX [0] rfl rfl rfl (q0 := 0) (ci := 11) rfl rfl) rfl rfl hl.1 rfl (lv_room (Nat.le_of_ble_eq_true rfl)) dL_law_2065 ⟨Nat.le_of_ble_eq_true rfl, Nat.le_of_ble_eq_true rfl⟩) hP hD hS hA [0] [1] rfl rfl rfl (by decide) (fun r_5 u H locs hw_6 hP hD hS => ?_)
  have hw_6 : r_5 = 1 := hw_6
  obtain rfl := hw_6
  have hP : va_P D vwCl [(mw, .inl (ct 0, 958, .inl m_w0)), (mo, .inr (11, [.ref mw, .ref ma, .ref mf, .ref m0, .ref m1, .ref mu, .ref mv, .ref u0, .ref u1, .ref iz, .int 1, .ref mb, .int 0, .int 0, .int 0, .int 0, .int 0, .int 0, .int 0]))] H := hP
  have hD : va_D A [(mw, .inl (ct 0, 958, .inl m_w0)), (mo, .inr (11, [.ref mw, .ref ma, .ref mf, .ref m0, .ref m1, .ref mu, .ref mv, .ref u0, .ref u1, .ref iz, .int 1, .ref mb, .int 0, .int 0, .int 0, .int 0, .int 0, .int 0, .int 0]))] := hD
  refine lv_iload hx hb dL_law_2068 (lv_at hl 1 rfl) ?_
  refine lv_icmp_eq (tgt := 2075) hx hb dL_law_2070 (by decide) (fun _ => ?_) (fun hc => absurd (by decide) hc)
  refine lv_iload hx hb dL_law_2075 (lv_at hl 1 rfl) ?_
  refine lv_if_ne (tgt := 2092) hx hb dL_law_2077 (by decide) (fun _ => ?_) (fun hc => absurd hc (by decide))
  refine lv_goto (tgt := 3623) hx hb dL_law_2092 (by decide) ?_
  exact law_end C1 hS (lv_sub hl [2, 7] rfl) (Nat.le_of_ble_eq_true rfl) (Nat.le_of_ble_eq_true rfl)
theorem dL_law_2095 : decode cL_law 2095 = .ok (.aload_n 1, 1) := by decide +kernel
theorem dL_law_2096 : decode cL_law 2096 = .ok (.aload_n 0, 1) := by decide +kernel
theorem dL_law_2097 : decode cL_law 2097 = .ok (.iload 5, 2) := by decide +kernel
theorem dL_law_2099 : decode cL_law 2099 = .ok (.iconst 1, 1) := by decide +kernel
theorem dL_law_2100 : decode cL_law 2100 = .ok (.iadd, 1) := by decide +kernel
theorem dL_law_2101 : decode cL_law 2101 = .ok (.iaload, 1) := by decide +kernel
theorem dL_law_2102 : decode cL_law 2102 = .ok (.aload_n 3, 1) := by decide +kernel
theorem dL_law_2103 : decode cL_law 2103 = .ok (.invokestatic 290, 3) := by decide +kernel
theorem dL_law_2106 : decode cL_law 2106 = .ok (.istore 6, 2) := by decide +kernel
theorem dL_law_2108 : decode cL_law 2108 = .ok (.aload_n 2, 1) := by decide +kernel
theorem dL_law_2109 : decode cL_law 2109 = .ok (.aload_n 0, 1) := by decide +kernel
theorem dL_law_2110 : decode cL_law 2110 = .ok (.iload 5, 2) := by decide +kernel
theorem dL_law_2112 : decode cL_law 2112 = .ok (.iconst 1, 1) := by decide +kernel
theorem dL_law_2113 : decode cL_law 2113 = .ok (.iadd, 1) := by decide +kernel
theorem dL_law_2114 : decode cL_law 2114 = .ok (.iaload, 1) := by decide +kernel
theorem dL_law_2115 : decode cL_law 2115 = .ok (.invokevirtual 292, 3) := by decide +kernel
theorem dL_law_2118 : decode cL_law 2118 = .ok (.istore 7, 2) := by decide +kernel
theorem dL_law_2120 : decode cL_law 2120 = .ok (.aload_n 2, 1) := by decide +kernel
theorem dL_law_2121 : decode cL_law 2121 = .ok (.invokevirtual 202, 3) := by decide +kernel
theorem dL_law_2124 : decode cL_law 2124 = .ok (.iload 6, 2) := by decide +kernel
theorem dL_law_2126 : decode cL_law 2126 = .ok (.if_icmp .eq 5, 3) := by decide +kernel
theorem dL_law_2131 : decode cL_law 2131 = .ok (.iload 6, 2) := by decide +kernel
theorem dL_law_2133 : decode cL_law 2133 = .ok (.ifCond .ne 15, 3) := by decide +kernel
theorem dL_law_2148 : decode cL_law 2148 = .ok (.goto 1475, 3) := by decide +kernel
set_option maxRecDepth 100000 in
set_option maxHeartbeats 4000000 in
theorem law_32 {p : Program} {l : Launch} {e : Env} {s : State} {m : MethodId} {below : List Frame} {meth : Method} {c : Code} {D : va_G} {ct : Nat → ClassId} {A : Nat → Prop} {b : Nat} {xs : Nat → Int32} {H : Heap} {locs : List Loc} {ls : Array Slot} (hfl : l.stackTraces = false) (C1 : cmL p s m meth c D ct A b 4 xs) (x : Nat) (w : Nat) (sp : Nat) (sv : Nat) (bu : Nat) (w_se : Nat) (w_cu : Nat) (w_pr : Nat) (w_ch : Nat) (w_re : Nat) (w_lo : Nat) (mo : Nat) (mw : Nat) (ma : Nat) (mf : Nat) (m0 : Nat) (m1 : Nat) (mu : Nat) (mv : Nat) (u0 : Nat) (u1 : Nat) (iz : Nat) (mb : Nat) (ov : Nat) (od : Nat) (hP : va_P D vwCl [(x, .inr (10, [.ref w, .ref sp, .ref sv, .ref bu, .int 0, .int 0])), (w, .inr (9, [.int 0, .ref w_se, .ref w_cu, .ref w_pr, .int 0, .ref w_ch, .ref w_re, .ref w_lo])), (mo, .inr (11, [.ref mw, .ref ma, .ref mf, .ref m0, .ref m1, .ref mu, .ref mv, .ref u0, .ref u1, .ref iz, .int 0, .ref mb, .int 0, .int 0, .int 0, .int 0, .int 0, .int 0, .int 0])), (mw, .inl (ct 0, 958, .inl m_w0)), (ov, .inl (ct 1, 1, .inr (.inl (fun _ => 0))))] H) (hD : va_D A [(x, .inr (10, [.ref w, .ref sp, .ref sv, .ref bu, .int 0, .int 0])), (w, .inr (9, [.int 0, .ref w_se, .ref w_cu, .ref w_pr, .int 0, .ref w_ch, .ref w_re, .ref w_lo])), (mo, .inr (11, [.ref mw, .ref ma, .ref mf, .ref m0, .ref m1, .ref mu, .ref mv, .ref u0, .ref u1, .ref iz, .int 0, .ref mb, .int 0, .int 0, .int 0, .int 0, .int 0, .int 0, .int 0])), (mw, .inl (ct 0, 958, .inl m_w0)), (ov, .inl (ct 1, 1, .inr (.inl (fun _ => 0))))]) (hS : va_S A s.heap H locs) (hl : lv_has ls 9 [(0, .ref b), (1, .ref x), (2, .ref mo), (3, .ref ov), (4, .ref od), (5, .int 0)]) : W p l e room_1 s m #[Value.ref b] below meth c H locs 157 8795 (lw_Z below #[Value.ref b] s) (F0 m 2095 ls []) := by
  obtain ⟨hx, hb, hr, hml, hown, hts, hK, hX, hXs, hbl, hbA, hA, hAr, hlocks⟩ := id C1
  refine lv_aload_n hx hb dL_law_2095 rfl (lv_at hl 1 rfl) ?_
  refine lv_aload_n hx hb dL_law_2096 rfl (lv_at hl 0 rfl) ?_
  refine lv_iload hx hb dL_law_2097 (lv_at hl 5 rfl) ?_
  refine lv_iconst (v := 1) hx hb dL_law_2099 (by decide) ?_
  refine lv_iadd hx hb dL_law_2100 ?_
  refine cm_cst (y := 1) (by decide) ?_
  refine va_sld hx hb hXs hbl hbA hS (cm_vin (by decide)) dL_law_2101 ?_
  refine lv_aload_n hx hb dL_law_2102 rfl (lv_at hl 3 rfl) ?_
  refine cm_ki (wr := [(mo, .inr (11, [.ref mw, .ref ma, .ref mf, .ref m0, .ref m1, .ref mu, .ref mv, .ref u0, .ref u1, .ref iz, .int 0, .ref mb, .int 0, .int 0, .int 0, .int 0, .int 0, .int 0, .int 0])), (mw, .inl (ct 0, 958, .inl m_w0))]) (vx_runSW (As := [.ref x, .int (xs (1 : Int32).toNatClampNeg), .ref ov]) (rest := []) ⟨hx, hb, hml, hown, hts⟩ (l_capacityByRule l hfl D ct x w sp sv bu w_se w_cu w_pr w_ch w_re w_lo ov (fun _ => 0) (xs (1 : Int32).toNatClampNeg) _) (cm_SW 3 hts kw_L_capacityByRule ki_RL kl_RL_290 ks_L_capacityByRule kd_L_capacityByRule ⟨Nat.le_of_ble_eq_true rfl, Nat.le_of_ble_eq_true rfl⟩) (cm_preS hP hK hD hS hA hX [0, 1, 4] rfl rfl rfl) rfl rfl hl.1 rfl (lv_room (Nat.le_of_ble_eq_true rfl)) dL_law_2103 ⟨Nat.le_of_ble_eq_true rfl, Nat.le_of_ble_eq_true rfl⟩) hP hD hS hA [0, 1, 4] [2, 3] rfl rfl rfl (by decide) (fun r_1 u H locs hw_2 hP hD hS => ?_)
  have hw_2 : r_1 = 1 := hw_2
  obtain rfl := hw_2
  have hP : va_P D vwCl [(mo, .inr (11, [.ref mw, .ref ma, .ref mf, .ref m0, .ref m1, .ref mu, .ref mv, .ref u0, .ref u1, .ref iz, .int 0, .ref mb, .int 0, .int 0, .int 0, .int 0, .int 0, .int 0, .int 0])), (mw, .inl (ct 0, 958, .inl m_w0))] H := hP
  have hD : va_D A [(mo, .inr (11, [.ref mw, .ref ma, .ref mf, .ref m0, .ref m1, .ref mu, .ref mv, .ref u0, .ref u1, .ref iz, .int 0, .ref mb, .int 0, .int 0, .int 0, .int 0, .int 0, .int 0, .int 0])), (mw, .inl (ct 0, 958, .inl m_w0))] := hD
  refine W.widen (k := 158) (n := 8801) (Nat.le_of_ble_eq_true rfl) (Nat.le_of_ble_eq_true rfl) ?_
  refine lv_istore (lv' := [(6, .int 1), (0, .ref b), (1, .ref x), (2, .ref mo), (3, .ref ov), (4, .ref od), (5, .int 0)]) hx hb dL_law_2106 hl (by decide) rfl (fun ls hl => ?_)
  refine lv_aload_n hx hb dL_law_2108 rfl (lv_at hl 3 rfl) ?_
  refine lv_aload_n hx hb dL_law_2109 rfl (lv_at hl 1 rfl) ?_
  refine lv_iload hx hb dL_law_2110 (lv_at hl 6 rfl) ?_
  refine lv_iconst (v := 1) hx hb dL_law_2112 (by decide) ?_
  refine lv_iadd hx hb dL_law_2113 ?_
  refine cm_cst (y := 1) (by decide) ?_
  refine va_sld hx hb hXs hbl hbA hS (cm_vin (by decide)) dL_law_2114 ?_
  refine cm_ki (wr := []) (va_runV (As := [.int (xs (1 : Int32).toNatClampNeg)]) (rest := []) ⟨hx, hb, hml, hown, hts⟩ (m_capacityByRule_0 l D ct mo mw ma mf m0 m1 mu mv u0 u1 iz mb (xs (1 : Int32).toNatClampNeg) _) (cm_V 1 hts kc_X11_capacityByRule ki_RX11 kl_RL_292 kv_X11_capacityByRule kx_X11_capacityByRule kd_X11_capacityByRule ⟨Nat.le_of_ble_eq_true rfl, Nat.le_of_ble_eq_true rfl⟩) (cm_preV hP hK hD hS hA hX [0, 1] rfl rfl rfl (q0 := 0) (ci := 11) rfl rfl) rfl rfl hl.1 rfl (lv_room (Nat.le_of_ble_eq_true rfl)) dL_law_2115 ⟨Nat.le_of_ble_eq_true rfl, Nat.le_of_ble_eq_true rfl⟩) hP hD hS hA [0, 1] [] rfl rfl rfl (by decide) (fun r_3 u H locs hw_4 hP hD hS => ?_)
  have hP : va_P D vwCl [(mo, .inr (11, [.ref mw, .ref ma, .ref mf, .ref m0, .ref m1, .ref mu, .ref mv, .ref u0, .ref u1, .ref iz, .int 1, .ref mb, .int 0, .int 0, .int 0, .int 0, .int 0, .int 0, .int 0])), (mw, .inl (ct 0, 958, .inl m_w0))] H := hP
  have hD : va_D A [(mo, .inr (11, [.ref mw, .ref ma, .ref mf, .ref m0, .ref m1, .ref mu, .ref mv, .ref u0, .ref u1, .ref iz, .int 1, .ref mb, .int 0, .int 0, .int 0, .int 0, .int 0, .int 0, .int 0])), (mw, .inl (ct 0, 958, .inl m_w0))] := hD
  refine lv_istore (lv' := [(7, .int r_3), (6, .int 1), (0, .ref b), (1, .ref x), (2, .ref mo), (3, .ref ov), (4, .ref od), (5, .int 0)]) hx hb dL_law_2118 hl (by decide) rfl (fun ls hl => ?_)
  refine lv_aload_n hx hb dL_law_2120 rfl (lv_at hl 4 rfl) ?_
  refine cm_ki (wr := [(mw, .inl (ct 0, 958, .inl m_w0))]) (va_runV (As := []) (rest := []) ⟨hx, hb, hml, hown, hts⟩ (m_thrown l D ct mo mw ma mf m0 m1 mu mv u0 u1 iz mb 1 _) (cm_V 0 hts kc_X11_thrown ki_RX11 kl_RL_202 kv_X11_thrown kx_X11_thrown kd_X11_thrown ⟨Nat.le_of_ble_eq_true rfl, Nat.le_of_ble_eq_true rfl⟩) (cm_preV hP hK hD hS hA hX [0] rfl rfl rfl (q0 := 0) (ci := 11) rfl rfl) rfl rfl hl.1 rfl (lv_room (Nat.le_of_ble_eq_true rfl)) dL_law_2121 ⟨Nat.le_of_ble_eq_true rfl, Nat.le_of_ble_eq_true rfl⟩) hP hD hS hA [0] [1] rfl rfl rfl (by decide) (fun r_5 u H locs hw_6 hP hD hS => ?_)
  have hw_6 : r_5 = 1 := hw_6
  obtain rfl := hw_6
  have hP : va_P D vwCl [(mw, .inl (ct 0, 958, .inl m_w0)), (mo, .inr (11, [.ref mw, .ref ma, .ref mf, .ref m0, .ref m1, .ref mu, .ref mv, .ref u0, .ref u1, .ref iz, .int 1, .ref mb, .int 0, .int 0, .int 0, .int 0, .int 0, .int 0, .int 0]))] H := hP
  have hD : va_D A [(mw, .inl (ct 0, 958, .inl m_w0)), (mo, .inr (11, [.ref mw, .ref ma, .ref mf, .ref m0, .ref m1, .ref mu, .ref mv, .ref u0, .ref u1, .ref iz, .int 1, .ref mb, .int 0, .int 0, .int 0, .int 0, .int 0, .int 0, .int 0]))] := hD
  refine lv_iload hx hb dL_law_2124 (lv_at hl 1 rfl) ?_
  refine lv_icmp_eq (tgt := 2131) hx hb dL_law_2126 (by decide) (fun _ => ?_) (fun hc => absurd (by decide) hc)
  refine lv_iload hx hb dL_law_2131 (lv_at hl 1 rfl) ?_
  refine lv_if_ne (tgt := 2148) hx hb dL_law_2133 (by decide) (fun _ => ?_) (fun hc => absurd hc (by decide))
  refine lv_goto (tgt := 3623) hx hb dL_law_2148 (by decide) ?_
  exact law_end C1 hS (lv_sub hl [2, 7] rfl) (Nat.le_of_ble_eq_true rfl) (Nat.le_of_ble_eq_true rfl)
theorem dL_law_2151 : decode cL_law 2151 = .ok (.aload_n 1, 1) := by decide +kernel
theorem dL_law_2152 : decode cL_law 2152 = .ok (.aload_n 0, 1) := by decide +kernel
theorem dL_law_2153 : decode cL_law 2153 = .ok (.iload 5, 2) := by decide +kernel
theorem dL_law_2155 : decode cL_law 2155 = .ok (.iconst 1, 1) := by decide +kernel
theorem dL_law_2156 : decode cL_law 2156 = .ok (.iadd, 1) := by decide +kernel
theorem dL_law_2157 : decode cL_law 2157 = .ok (.iaload, 1) := by decide +kernel
theorem dL_law_2158 : decode cL_law 2158 = .ok (.aload_n 3, 1) := by decide +kernel
theorem dL_law_2159 : decode cL_law 2159 = .ok (.invokestatic 293, 3) := by decide +kernel
theorem dL_law_2162 : decode cL_law 2162 = .ok (.istore 6, 2) := by decide +kernel
theorem dL_law_2164 : decode cL_law 2164 = .ok (.aload_n 2, 1) := by decide +kernel
theorem dL_law_2165 : decode cL_law 2165 = .ok (.aload_n 0, 1) := by decide +kernel
theorem dL_law_2166 : decode cL_law 2166 = .ok (.iload 5, 2) := by decide +kernel
theorem dL_law_2168 : decode cL_law 2168 = .ok (.iconst 1, 1) := by decide +kernel
theorem dL_law_2169 : decode cL_law 2169 = .ok (.iadd, 1) := by decide +kernel
theorem dL_law_2170 : decode cL_law 2170 = .ok (.iaload, 1) := by decide +kernel
theorem dL_law_2171 : decode cL_law 2171 = .ok (.invokevirtual 295, 3) := by decide +kernel
theorem dL_law_2174 : decode cL_law 2174 = .ok (.istore 7, 2) := by decide +kernel
theorem dL_law_2176 : decode cL_law 2176 = .ok (.aload_n 2, 1) := by decide +kernel
theorem dL_law_2177 : decode cL_law 2177 = .ok (.invokevirtual 202, 3) := by decide +kernel
theorem dL_law_2180 : decode cL_law 2180 = .ok (.iload 6, 2) := by decide +kernel
theorem dL_law_2182 : decode cL_law 2182 = .ok (.if_icmp .eq 5, 3) := by decide +kernel
theorem dL_law_2187 : decode cL_law 2187 = .ok (.iload 6, 2) := by decide +kernel
theorem dL_law_2189 : decode cL_law 2189 = .ok (.ifCond .ne 15, 3) := by decide +kernel
theorem dL_law_2204 : decode cL_law 2204 = .ok (.goto 1419, 3) := by decide +kernel
set_option maxRecDepth 100000 in
set_option maxHeartbeats 4000000 in
theorem law_33 {p : Program} {l : Launch} {e : Env} {s : State} {m : MethodId} {below : List Frame} {meth : Method} {c : Code} {D : va_G} {ct : Nat → ClassId} {A : Nat → Prop} {b : Nat} {xs : Nat → Int32} {H : Heap} {locs : List Loc} {ls : Array Slot} (hfl : l.stackTraces = false) (C1 : cmL p s m meth c D ct A b 4 xs) (x : Nat) (w : Nat) (sp : Nat) (sv : Nat) (bu : Nat) (w_se : Nat) (w_cu : Nat) (w_pr : Nat) (w_ch : Nat) (w_re : Nat) (w_lo : Nat) (mo : Nat) (mw : Nat) (ma : Nat) (mf : Nat) (m0 : Nat) (m1 : Nat) (mu : Nat) (mv : Nat) (u0 : Nat) (u1 : Nat) (iz : Nat) (mb : Nat) (ov : Nat) (od : Nat) (hP : va_P D vwCl [(x, .inr (10, [.ref w, .ref sp, .ref sv, .ref bu, .int 0, .int 0])), (w, .inr (9, [.int 0, .ref w_se, .ref w_cu, .ref w_pr, .int 0, .ref w_ch, .ref w_re, .ref w_lo])), (mo, .inr (11, [.ref mw, .ref ma, .ref mf, .ref m0, .ref m1, .ref mu, .ref mv, .ref u0, .ref u1, .ref iz, .int 0, .ref mb, .int 0, .int 0, .int 0, .int 0, .int 0, .int 0, .int 0])), (mw, .inl (ct 0, 958, .inl m_w0)), (ov, .inl (ct 1, 1, .inr (.inl (fun _ => 0))))] H) (hD : va_D A [(x, .inr (10, [.ref w, .ref sp, .ref sv, .ref bu, .int 0, .int 0])), (w, .inr (9, [.int 0, .ref w_se, .ref w_cu, .ref w_pr, .int 0, .ref w_ch, .ref w_re, .ref w_lo])), (mo, .inr (11, [.ref mw, .ref ma, .ref mf, .ref m0, .ref m1, .ref mu, .ref mv, .ref u0, .ref u1, .ref iz, .int 0, .ref mb, .int 0, .int 0, .int 0, .int 0, .int 0, .int 0, .int 0])), (mw, .inl (ct 0, 958, .inl m_w0)), (ov, .inl (ct 1, 1, .inr (.inl (fun _ => 0))))]) (hS : va_S A s.heap H locs) (hl : lv_has ls 9 [(0, .ref b), (1, .ref x), (2, .ref mo), (3, .ref ov), (4, .ref od), (5, .int 0)]) : W p l e room_1 s m #[Value.ref b] below meth c H locs 157 8795 (lw_Z below #[Value.ref b] s) (F0 m 2151 ls []) := by
  obtain ⟨hx, hb, hr, hml, hown, hts, hK, hX, hXs, hbl, hbA, hA, hAr, hlocks⟩ := id C1
  refine lv_aload_n hx hb dL_law_2151 rfl (lv_at hl 1 rfl) ?_
  refine lv_aload_n hx hb dL_law_2152 rfl (lv_at hl 0 rfl) ?_
  refine lv_iload hx hb dL_law_2153 (lv_at hl 5 rfl) ?_
  refine lv_iconst (v := 1) hx hb dL_law_2155 (by decide) ?_
  refine lv_iadd hx hb dL_law_2156 ?_
  refine cm_cst (y := 1) (by decide) ?_
  refine va_sld hx hb hXs hbl hbA hS (cm_vin (by decide)) dL_law_2157 ?_
  refine lv_aload_n hx hb dL_law_2158 rfl (lv_at hl 3 rfl) ?_
  refine cm_ki (wr := [(mo, .inr (11, [.ref mw, .ref ma, .ref mf, .ref m0, .ref m1, .ref mu, .ref mv, .ref u0, .ref u1, .ref iz, .int 0, .ref mb, .int 0, .int 0, .int 0, .int 0, .int 0, .int 0, .int 0])), (mw, .inl (ct 0, 958, .inl m_w0))]) (vx_runSW (As := [.ref x, .int (xs (1 : Int32).toNatClampNeg), .ref ov]) (rest := []) ⟨hx, hb, hml, hown, hts⟩ (l_internalResistance l hfl D ct x w sp sv bu w_se w_cu w_pr w_ch w_re w_lo ov (fun _ => 0) (xs (1 : Int32).toNatClampNeg) _) (cm_SW 3 hts kw_L_internalResistance ki_RL kl_RL_293 ks_L_internalResistance kd_L_internalResistance ⟨Nat.le_of_ble_eq_true rfl, Nat.le_of_ble_eq_true rfl⟩) (cm_preS hP hK hD hS hA hX [0, 1, 4] rfl rfl rfl) rfl rfl hl.1 rfl (lv_room (Nat.le_of_ble_eq_true rfl)) dL_law_2159 ⟨Nat.le_of_ble_eq_true rfl, Nat.le_of_ble_eq_true rfl⟩) hP hD hS hA [0, 1, 4] [2, 3] rfl rfl rfl (by decide) (fun r_1 u H locs hw_2 hP hD hS => ?_)
  have hw_2 : r_1 = 1 := hw_2
  obtain rfl := hw_2
  have hP : va_P D vwCl [(mo, .inr (11, [.ref mw, .ref ma, .ref mf, .ref m0, .ref m1, .ref mu, .ref mv, .ref u0, .ref u1, .ref iz, .int 0, .ref mb, .int 0, .int 0, .int 0, .int 0, .int 0, .int 0, .int 0])), (mw, .inl (ct 0, 958, .inl m_w0))] H := hP
  have hD : va_D A [(mo, .inr (11, [.ref mw, .ref ma, .ref mf, .ref m0, .ref m1, .ref mu, .ref mv, .ref u0, .ref u1, .ref iz, .int 0, .ref mb, .int 0, .int 0, .int 0, .int 0, .int 0, .int 0, .int 0])), (mw, .inl (ct 0, 958, .inl m_w0))] := hD
  refine W.widen (k := 158) (n := 8801) (Nat.le_of_ble_eq_true rfl) (Nat.le_of_ble_eq_true rfl) ?_
  refine lv_istore (lv' := [(6, .int 1), (0, .ref b), (1, .ref x), (2, .ref mo), (3, .ref ov), (4, .ref od), (5, .int 0)]) hx hb dL_law_2162 hl (by decide) rfl (fun ls hl => ?_)
  refine lv_aload_n hx hb dL_law_2164 rfl (lv_at hl 3 rfl) ?_
  refine lv_aload_n hx hb dL_law_2165 rfl (lv_at hl 1 rfl) ?_
  refine lv_iload hx hb dL_law_2166 (lv_at hl 6 rfl) ?_
  refine lv_iconst (v := 1) hx hb dL_law_2168 (by decide) ?_
  refine lv_iadd hx hb dL_law_2169 ?_
  refine cm_cst (y := 1) (by decide) ?_
  refine va_sld hx hb hXs hbl hbA hS (cm_vin (by decide)) dL_law_2170 ?_
  refine cm_ki (wr := []) (va_runV (As := [.int (xs (1 : Int32).toNatClampNeg)]) (rest := []) ⟨hx, hb, hml, hown, hts⟩ (m_internalResistance_0 l D ct mo mw ma mf m0 m1 mu mv u0 u1 iz mb (xs (1 : Int32).toNatClampNeg) _) (cm_V 1 hts kc_X11_internalResistance ki_RX11 kl_RL_295 kv_X11_internalResistance kx_X11_internalResistance kd_X11_internalResistance ⟨Nat.le_of_ble_eq_true rfl, Nat.le_of_ble_eq_true rfl⟩) (cm_preV hP hK hD hS hA hX [0, 1] rfl rfl rfl (q0 := 0) (ci := 11) rfl rfl) rfl rfl hl.1 rfl (lv_room (Nat.le_of_ble_eq_true rfl)) dL_law_2171 ⟨Nat.le_of_ble_eq_true rfl, Nat.le_of_ble_eq_true rfl⟩) hP hD hS hA [0, 1] [] rfl rfl rfl (by decide) (fun r_3 u H locs hw_4 hP hD hS => ?_)
  have hP : va_P D vwCl [(mo, .inr (11, [.ref mw, .ref ma, .ref mf, .ref m0, .ref m1, .ref mu, .ref mv, .ref u0, .ref u1, .ref iz, .int 1, .ref mb, .int 0, .int 0, .int 0, .int 0, .int 0, .int 0, .int 0])), (mw, .inl (ct 0, 958, .inl m_w0))] H := hP
  have hD : va_D A [(mo, .inr (11, [.ref mw, .ref ma, .ref mf, .ref m0, .ref m1, .ref mu, .ref mv, .ref u0, .ref u1, .ref iz, .int 1, .ref mb, .int 0, .int 0, .int 0, .int 0, .int 0, .int 0, .int 0])), (mw, .inl (ct 0, 958, .inl m_w0))] := hD
  refine lv_istore (lv' := [(7, .int r_3), (6, .int 1), (0, .ref b), (1, .ref x), (2, .ref mo), (3, .ref ov), (4, .ref od), (5, .int 0)]) hx hb dL_law_2174 hl (by decide) rfl (fun ls hl => ?_)
  refine lv_aload_n hx hb dL_law_2176 rfl (lv_at hl 4 rfl) ?_
  refine cm_ki (wr := [(mw, .inl (ct 0, 958, .inl m_w0))]) (va_runV (As := []) (rest := []) ⟨hx, hb, hml, hown, hts⟩ (m_thrown l D ct mo mw ma mf m0 m1 mu mv u0 u1 iz mb 1 _) (cm_V 0 hts kc_X11_thrown ki_RX11 kl_RL_202 kv_X11_thrown kx_X11_thrown kd_X11_thrown ⟨Nat.le_of_ble_eq_true rfl, Nat.le_of_ble_eq_true rfl⟩) (cm_preV hP hK hD hS hA hX [0] rfl rfl rfl (q0 := 0) (ci := 11) rfl rfl) rfl rfl hl.1 rfl (lv_room (Nat.le_of_ble_eq_true rfl)) dL_law_2177 ⟨Nat.le_of_ble_eq_true rfl, Nat.le_of_ble_eq_true rfl⟩) hP hD hS hA [0] [1] rfl rfl rfl (by decide) (fun r_5 u H locs hw_6 hP hD hS => ?_)
  have hw_6 : r_5 = 1 := hw_6
  obtain rfl := hw_6
  have hP : va_P D vwCl [(mw, .inl (ct 0, 958, .inl m_w0)), (mo, .inr (11, [.ref mw, .ref ma, .ref mf, .ref m0, .ref m1, .ref mu, .ref mv, .ref u0, .ref u1, .ref iz, .int 1, .ref mb, .int 0, .int 0, .int 0, .int 0, .int 0, .int 0, .int 0]))] H := hP
  have hD : va_D A [(mw, .inl (ct 0, 958, .inl m_w0)), (mo, .inr (11, [.ref mw, .ref ma, .ref mf, .ref m0, .ref m1, .ref mu, .ref mv, .ref u0, .ref u1, .ref iz, .int 1, .ref mb, .int 0, .int 0, .int 0, .int 0, .int 0, .int 0, .int 0]))] := hD
  refine lv_iload hx hb dL_law_2180 (lv_at hl 1 rfl) ?_
  refine lv_icmp_eq (tgt := 2187) hx hb dL_law_2182 (by decide) (fun _ => ?_) (fun hc => absurd (by decide) hc)
  refine lv_iload hx hb dL_law_2187 (lv_at hl 1 rfl) ?_
  refine lv_if_ne (tgt := 2204) hx hb dL_law_2189 (by decide) (fun _ => ?_) (fun hc => absurd hc (by decide))
  refine lv_goto (tgt := 3623) hx hb dL_law_2204 (by decide) ?_
  exact law_end C1 hS (lv_sub hl [2, 7] rfl) (Nat.le_of_ble_eq_true rfl) (Nat.le_of_ble_eq_true rfl)
theorem dL_law_2207 : decode cL_law 2207 = .ok (.aload_n 1, 1) := by decide +kernel
theorem dL_law_2208 : decode cL_law 2208 = .ok (.aload_n 0, 1) := by decide +kernel
theorem dL_law_2209 : decode cL_law 2209 = .ok (.iload 5, 2) := by decide +kernel
theorem dL_law_2211 : decode cL_law 2211 = .ok (.iconst 1, 1) := by decide +kernel
theorem dL_law_2212 : decode cL_law 2212 = .ok (.iadd, 1) := by decide +kernel
theorem dL_law_2213 : decode cL_law 2213 = .ok (.iaload, 1) := by decide +kernel
theorem dL_law_2214 : decode cL_law 2214 = .ok (.aload_n 0, 1) := by decide +kernel
theorem dL_law_2215 : decode cL_law 2215 = .ok (.iload 5, 2) := by decide +kernel
theorem dL_law_2217 : decode cL_law 2217 = .ok (.iconst 2, 1) := by decide +kernel
theorem dL_law_2218 : decode cL_law 2218 = .ok (.iadd, 1) := by decide +kernel
theorem dL_law_2219 : decode cL_law 2219 = .ok (.iaload, 1) := by decide +kernel
theorem dL_law_2220 : decode cL_law 2220 = .ok (.aload_n 3, 1) := by decide +kernel
theorem dL_law_2221 : decode cL_law 2221 = .ok (.invokestatic 296, 3) := by decide +kernel
theorem dL_law_2224 : decode cL_law 2224 = .ok (.istore 6, 2) := by decide +kernel
theorem dL_law_2226 : decode cL_law 2226 = .ok (.aload_n 2, 1) := by decide +kernel
theorem dL_law_2227 : decode cL_law 2227 = .ok (.aload_n 0, 1) := by decide +kernel
theorem dL_law_2228 : decode cL_law 2228 = .ok (.iload 5, 2) := by decide +kernel
theorem dL_law_2230 : decode cL_law 2230 = .ok (.iconst 1, 1) := by decide +kernel
theorem dL_law_2231 : decode cL_law 2231 = .ok (.iadd, 1) := by decide +kernel
theorem dL_law_2232 : decode cL_law 2232 = .ok (.iaload, 1) := by decide +kernel
theorem dL_law_2233 : decode cL_law 2233 = .ok (.aload_n 0, 1) := by decide +kernel
theorem dL_law_2234 : decode cL_law 2234 = .ok (.iload 5, 2) := by decide +kernel
theorem dL_law_2236 : decode cL_law 2236 = .ok (.iconst 2, 1) := by decide +kernel
theorem dL_law_2237 : decode cL_law 2237 = .ok (.iadd, 1) := by decide +kernel
theorem dL_law_2238 : decode cL_law 2238 = .ok (.iaload, 1) := by decide +kernel
theorem dL_law_2239 : decode cL_law 2239 = .ok (.invokevirtual 298, 3) := by decide +kernel
theorem dL_law_2242 : decode cL_law 2242 = .ok (.istore 7, 2) := by decide +kernel
theorem dL_law_2244 : decode cL_law 2244 = .ok (.aload_n 2, 1) := by decide +kernel
theorem dL_law_2245 : decode cL_law 2245 = .ok (.invokevirtual 202, 3) := by decide +kernel
theorem dL_law_2248 : decode cL_law 2248 = .ok (.iload 6, 2) := by decide +kernel
theorem dL_law_2250 : decode cL_law 2250 = .ok (.if_icmp .eq 5, 3) := by decide +kernel
theorem dL_law_2255 : decode cL_law 2255 = .ok (.iload 6, 2) := by decide +kernel
theorem dL_law_2257 : decode cL_law 2257 = .ok (.ifCond .ne 15, 3) := by decide +kernel
theorem dL_law_2272 : decode cL_law 2272 = .ok (.goto 1351, 3) := by decide +kernel
set_option maxRecDepth 100000 in
set_option maxHeartbeats 4000000 in
theorem law_34 {p : Program} {l : Launch} {e : Env} {s : State} {m : MethodId} {below : List Frame} {meth : Method} {c : Code} {D : va_G} {ct : Nat → ClassId} {A : Nat → Prop} {b : Nat} {xs : Nat → Int32} {H : Heap} {locs : List Loc} {ls : Array Slot} (hfl : l.stackTraces = false) (C1 : cmL p s m meth c D ct A b 4 xs) (x : Nat) (w : Nat) (sp : Nat) (sv : Nat) (bu : Nat) (w_se : Nat) (w_cu : Nat) (w_pr : Nat) (w_ch : Nat) (w_re : Nat) (w_lo : Nat) (mo : Nat) (mw : Nat) (ma : Nat) (mf : Nat) (m0 : Nat) (m1 : Nat) (mu : Nat) (mv : Nat) (u0 : Nat) (u1 : Nat) (iz : Nat) (mb : Nat) (ov : Nat) (od : Nat) (hP : va_P D vwCl [(x, .inr (10, [.ref w, .ref sp, .ref sv, .ref bu, .int 0, .int 0])), (w, .inr (9, [.int 0, .ref w_se, .ref w_cu, .ref w_pr, .int 0, .ref w_ch, .ref w_re, .ref w_lo])), (mo, .inr (11, [.ref mw, .ref ma, .ref mf, .ref m0, .ref m1, .ref mu, .ref mv, .ref u0, .ref u1, .ref iz, .int 0, .ref mb, .int 0, .int 0, .int 0, .int 0, .int 0, .int 0, .int 0])), (mw, .inl (ct 0, 958, .inl m_w0)), (ov, .inl (ct 1, 1, .inr (.inl (fun _ => 0))))] H) (hD : va_D A [(x, .inr (10, [.ref w, .ref sp, .ref sv, .ref bu, .int 0, .int 0])), (w, .inr (9, [.int 0, .ref w_se, .ref w_cu, .ref w_pr, .int 0, .ref w_ch, .ref w_re, .ref w_lo])), (mo, .inr (11, [.ref mw, .ref ma, .ref mf, .ref m0, .ref m1, .ref mu, .ref mv, .ref u0, .ref u1, .ref iz, .int 0, .ref mb, .int 0, .int 0, .int 0, .int 0, .int 0, .int 0, .int 0])), (mw, .inl (ct 0, 958, .inl m_w0)), (ov, .inl (ct 1, 1, .inr (.inl (fun _ => 0))))]) (hS : va_S A s.heap H locs) (hl : lv_has ls 9 [(0, .ref b), (1, .ref x), (2, .ref mo), (3, .ref ov), (4, .ref od), (5, .int 0)]) : W p l e room_1 s m #[Value.ref b] below meth c H locs 157 8795 (lw_Z below #[Value.ref b] s) (F0 m 2207 ls []) := by
  obtain ⟨hx, hb, hr, hml, hown, hts, hK, hX, hXs, hbl, hbA, hA, hAr, hlocks⟩ := id C1
  refine lv_aload_n hx hb dL_law_2207 rfl (lv_at hl 1 rfl) ?_
  refine lv_aload_n hx hb dL_law_2208 rfl (lv_at hl 0 rfl) ?_
  refine lv_iload hx hb dL_law_2209 (lv_at hl 5 rfl) ?_
  refine lv_iconst (v := 1) hx hb dL_law_2211 (by decide) ?_
  refine lv_iadd hx hb dL_law_2212 ?_
  refine cm_cst (y := 1) (by decide) ?_
  refine va_sld hx hb hXs hbl hbA hS (cm_vin (by decide)) dL_law_2213 ?_
  refine lv_aload_n hx hb dL_law_2214 rfl (lv_at hl 0 rfl) ?_
  refine lv_iload hx hb dL_law_2215 (lv_at hl 5 rfl) ?_
  refine lv_iconst (v := 2) hx hb dL_law_2217 (by decide) ?_
  refine lv_iadd hx hb dL_law_2218 ?_
  refine cm_cst (y := 2) (by decide) ?_
  refine va_sld hx hb hXs hbl hbA hS (cm_vin (by decide)) dL_law_2219 ?_
  refine lv_aload_n hx hb dL_law_2220 rfl (lv_at hl 3 rfl) ?_
  refine cm_ki (wr := [(mo, .inr (11, [.ref mw, .ref ma, .ref mf, .ref m0, .ref m1, .ref mu, .ref mv, .ref u0, .ref u1, .ref iz, .int 0, .ref mb, .int 0, .int 0, .int 0, .int 0, .int 0, .int 0, .int 0])), (mw, .inl (ct 0, 958, .inl m_w0))]) (vx_runSW (As := [.ref x, .int (xs (1 : Int32).toNatClampNeg), .int (xs (2 : Int32).toNatClampNeg), .ref ov]) (rest := []) ⟨hx, hb, hml, hown, hts⟩ (l_ticksIn l hfl D ct x w sp sv bu w_se w_cu w_pr w_ch w_re w_lo ov (fun _ => 0) (xs (1 : Int32).toNatClampNeg) (xs (2 : Int32).toNatClampNeg) _) (cm_SW 4 hts kw_L_ticksIn ki_RL kl_RL_296 ks_L_ticksIn kd_L_ticksIn ⟨Nat.le_of_ble_eq_true rfl, Nat.le_of_ble_eq_true rfl⟩) (cm_preS hP hK hD hS hA hX [0, 1, 4] rfl rfl rfl) rfl rfl hl.1 rfl (lv_room (Nat.le_of_ble_eq_true rfl)) dL_law_2221 ⟨Nat.le_of_ble_eq_true rfl, Nat.le_of_ble_eq_true rfl⟩) hP hD hS hA [0, 1, 4] [2, 3] rfl rfl rfl (by decide) (fun r_1 u H locs hw_2 hP hD hS => ?_)
  have hw_2 : r_1 = 1 := hw_2
  obtain rfl := hw_2
  have hP : va_P D vwCl [(mo, .inr (11, [.ref mw, .ref ma, .ref mf, .ref m0, .ref m1, .ref mu, .ref mv, .ref u0, .ref u1, .ref iz, .int 0, .ref mb, .int 0, .int 0, .int 0, .int 0, .int 0, .int 0, .int 0])), (mw, .inl (ct 0, 958, .inl m_w0))] H := hP
  have hD : va_D A [(mo, .inr (11, [.ref mw, .ref ma, .ref mf, .ref m0, .ref m1, .ref mu, .ref mv, .ref u0, .ref u1, .ref iz, .int 0, .ref mb, .int 0, .int 0, .int 0, .int 0, .int 0, .int 0, .int 0])), (mw, .inl (ct 0, 958, .inl m_w0))] := hD
  refine W.widen (k := 158) (n := 8801) (Nat.le_of_ble_eq_true rfl) (Nat.le_of_ble_eq_true rfl) ?_
  refine lv_istore (lv' := [(6, .int 1), (0, .ref b), (1, .ref x), (2, .ref mo), (3, .ref ov), (4, .ref od), (5, .int 0)]) hx hb dL_law_2224 hl (by decide) rfl (fun ls hl => ?_)
  refine lv_aload_n hx hb dL_law_2226 rfl (lv_at hl 3 rfl) ?_
  refine lv_aload_n hx hb dL_law_2227 rfl (lv_at hl 1 rfl) ?_
  refine lv_iload hx hb dL_law_2228 (lv_at hl 6 rfl) ?_
  refine lv_iconst (v := 1) hx hb dL_law_2230 (by decide) ?_
  refine lv_iadd hx hb dL_law_2231 ?_
  refine cm_cst (y := 1) (by decide) ?_
  refine va_sld hx hb hXs hbl hbA hS (cm_vin (by decide)) dL_law_2232 ?_
  refine lv_aload_n hx hb dL_law_2233 rfl (lv_at hl 1 rfl) ?_
  refine lv_iload hx hb dL_law_2234 (lv_at hl 6 rfl) ?_
  refine lv_iconst (v := 2) hx hb dL_law_2236 (by decide) ?_
  refine lv_iadd hx hb dL_law_2237 ?_
  refine cm_cst (y := 2) (by decide) ?_
  refine va_sld hx hb hXs hbl hbA hS (cm_vin (by decide)) dL_law_2238 ?_
  refine cm_ki (wr := []) (va_runV (As := [.int (xs (1 : Int32).toNatClampNeg), .int (xs (2 : Int32).toNatClampNeg)]) (rest := []) ⟨hx, hb, hml, hown, hts⟩ (m_ticksIn_0 l D ct mo mw ma mf m0 m1 mu mv u0 u1 iz mb (xs (1 : Int32).toNatClampNeg) (xs (2 : Int32).toNatClampNeg) _) (cm_V 2 hts kc_X11_ticksIn ki_RX11 kl_RL_298 kv_X11_ticksIn kx_X11_ticksIn kd_X11_ticksIn ⟨Nat.le_of_ble_eq_true rfl, Nat.le_of_ble_eq_true rfl⟩) (cm_preV hP hK hD hS hA hX [0, 1] rfl rfl rfl (q0 := 0) (ci := 11) rfl rfl) rfl rfl hl.1 rfl (lv_room (Nat.le_of_ble_eq_true rfl)) dL_law_2239 ⟨Nat.le_of_ble_eq_true rfl, Nat.le_of_ble_eq_true rfl⟩) hP hD hS hA [0, 1] [] rfl rfl rfl (by decide) (fun r_3 u H locs hw_4 hP hD hS => ?_)
  have hP : va_P D vwCl [(mo, .inr (11, [.ref mw, .ref ma, .ref mf, .ref m0, .ref m1, .ref mu, .ref mv, .ref u0, .ref u1, .ref iz, .int 1, .ref mb, .int 0, .int 0, .int 0, .int 0, .int 0, .int 0, .int 0])), (mw, .inl (ct 0, 958, .inl m_w0))] H := hP
  have hD : va_D A [(mo, .inr (11, [.ref mw, .ref ma, .ref mf, .ref m0, .ref m1, .ref mu, .ref mv, .ref u0, .ref u1, .ref iz, .int 1, .ref mb, .int 0, .int 0, .int 0, .int 0, .int 0, .int 0, .int 0])), (mw, .inl (ct 0, 958, .inl m_w0))] := hD
  refine lv_istore (lv' := [(7, .int r_3), (6, .int 1), (0, .ref b), (1, .ref x), (2, .ref mo), (3, .ref ov), (4, .ref od), (5, .int 0)]) hx hb dL_law_2242 hl (by decide) rfl (fun ls hl => ?_)
  refine lv_aload_n hx hb dL_law_2244 rfl (lv_at hl 4 rfl) ?_
  refine cm_ki (wr := [(mw, .inl (ct 0, 958, .inl m_w0))]) (va_runV (As := []) (rest := []) ⟨hx, hb, hml, hown, hts⟩ (m_thrown l D ct mo mw ma mf m0 m1 mu mv u0 u1 iz mb 1 _) (cm_V 0 hts kc_X11_thrown ki_RX11 kl_RL_202 kv_X11_thrown kx_X11_thrown kd_X11_thrown ⟨Nat.le_of_ble_eq_true rfl, Nat.le_of_ble_eq_true rfl⟩) (cm_preV hP hK hD hS hA hX [0] rfl rfl rfl (q0 := 0) (ci := 11) rfl rfl) rfl rfl hl.1 rfl (lv_room (Nat.le_of_ble_eq_true rfl)) dL_law_2245 ⟨Nat.le_of_ble_eq_true rfl, Nat.le_of_ble_eq_true rfl⟩) hP hD hS hA [0] [1] rfl rfl rfl (by decide) (fun r_5 u H locs hw_6 hP hD hS => ?_)
  have hw_6 : r_5 = 1 := hw_6
  obtain rfl := hw_6
  have hP : va_P D vwCl [(mw, .inl (ct 0, 958, .inl m_w0)), (mo, .inr (11, [.ref mw, .ref ma, .ref mf, .ref m0, .ref m1, .ref mu, .ref mv, .ref u0, .ref u1, .ref iz, .int 1, .ref mb, .int 0, .int 0, .int 0, .int 0, .int 0, .int 0, .int 0]))] H := hP
  have hD : va_D A [(mw, .inl (ct 0, 958, .inl m_w0)), (mo, .inr (11, [.ref mw, .ref ma, .ref mf, .ref m0, .ref m1, .ref mu, .ref mv, .ref u0, .ref u1, .ref iz, .int 1, .ref mb, .int 0, .int 0, .int 0, .int 0, .int 0, .int 0, .int 0]))] := hD
  refine lv_iload hx hb dL_law_2248 (lv_at hl 1 rfl) ?_
  refine lv_icmp_eq (tgt := 2255) hx hb dL_law_2250 (by decide) (fun _ => ?_) (fun hc => absurd (by decide) hc)
  refine lv_iload hx hb dL_law_2255 (lv_at hl 1 rfl) ?_
  refine lv_if_ne (tgt := 2272) hx hb dL_law_2257 (by decide) (fun _ => ?_) (fun hc => absurd hc (by decide))
  refine lv_goto (tgt := 3623) hx hb dL_law_2272 (by decide) ?_
  exact law_end C1 hS (lv_sub hl [2, 7] rfl) (Nat.le_of_ble_eq_true rfl) (Nat.le_of_ble_eq_true rfl)
theorem dL_law_2275 : decode cL_law 2275 = .ok (.aload_n 1, 1) := by decide +kernel
theorem dL_law_2276 : decode cL_law 2276 = .ok (.aload_n 0, 1) := by decide +kernel
theorem dL_law_2277 : decode cL_law 2277 = .ok (.iload 5, 2) := by decide +kernel
theorem dL_law_2279 : decode cL_law 2279 = .ok (.iconst 1, 1) := by decide +kernel
theorem dL_law_2280 : decode cL_law 2280 = .ok (.iadd, 1) := by decide +kernel
theorem dL_law_2281 : decode cL_law 2281 = .ok (.iaload, 1) := by decide +kernel
theorem dL_law_2282 : decode cL_law 2282 = .ok (.aload_n 3, 1) := by decide +kernel
theorem dL_law_2283 : decode cL_law 2283 = .ok (.invokestatic 299, 3) := by decide +kernel
theorem dL_law_2286 : decode cL_law 2286 = .ok (.istore 6, 2) := by decide +kernel
theorem dL_law_2288 : decode cL_law 2288 = .ok (.aload_n 2, 1) := by decide +kernel
theorem dL_law_2289 : decode cL_law 2289 = .ok (.aload_n 0, 1) := by decide +kernel
theorem dL_law_2290 : decode cL_law 2290 = .ok (.iload 5, 2) := by decide +kernel
theorem dL_law_2292 : decode cL_law 2292 = .ok (.iconst 1, 1) := by decide +kernel
theorem dL_law_2293 : decode cL_law 2293 = .ok (.iadd, 1) := by decide +kernel
theorem dL_law_2294 : decode cL_law 2294 = .ok (.iaload, 1) := by decide +kernel
theorem dL_law_2295 : decode cL_law 2295 = .ok (.invokevirtual 301, 3) := by decide +kernel
theorem dL_law_2298 : decode cL_law 2298 = .ok (.istore 7, 2) := by decide +kernel
theorem dL_law_2300 : decode cL_law 2300 = .ok (.aload_n 2, 1) := by decide +kernel
theorem dL_law_2301 : decode cL_law 2301 = .ok (.invokevirtual 202, 3) := by decide +kernel
theorem dL_law_2304 : decode cL_law 2304 = .ok (.iload 6, 2) := by decide +kernel
theorem dL_law_2306 : decode cL_law 2306 = .ok (.if_icmp .eq 5, 3) := by decide +kernel
theorem dL_law_2311 : decode cL_law 2311 = .ok (.iload 6, 2) := by decide +kernel
theorem dL_law_2313 : decode cL_law 2313 = .ok (.ifCond .ne 15, 3) := by decide +kernel
theorem dL_law_2328 : decode cL_law 2328 = .ok (.goto 1295, 3) := by decide +kernel
set_option maxRecDepth 100000 in
set_option maxHeartbeats 4000000 in
theorem law_35 {p : Program} {l : Launch} {e : Env} {s : State} {m : MethodId} {below : List Frame} {meth : Method} {c : Code} {D : va_G} {ct : Nat → ClassId} {A : Nat → Prop} {b : Nat} {xs : Nat → Int32} {H : Heap} {locs : List Loc} {ls : Array Slot} (hfl : l.stackTraces = false) (C1 : cmL p s m meth c D ct A b 4 xs) (x : Nat) (w : Nat) (sp : Nat) (sv : Nat) (bu : Nat) (w_se : Nat) (w_cu : Nat) (w_pr : Nat) (w_ch : Nat) (w_re : Nat) (w_lo : Nat) (mo : Nat) (mw : Nat) (ma : Nat) (mf : Nat) (m0 : Nat) (m1 : Nat) (mu : Nat) (mv : Nat) (u0 : Nat) (u1 : Nat) (iz : Nat) (mb : Nat) (ov : Nat) (od : Nat) (hP : va_P D vwCl [(x, .inr (10, [.ref w, .ref sp, .ref sv, .ref bu, .int 0, .int 0])), (w, .inr (9, [.int 0, .ref w_se, .ref w_cu, .ref w_pr, .int 0, .ref w_ch, .ref w_re, .ref w_lo])), (mo, .inr (11, [.ref mw, .ref ma, .ref mf, .ref m0, .ref m1, .ref mu, .ref mv, .ref u0, .ref u1, .ref iz, .int 0, .ref mb, .int 0, .int 0, .int 0, .int 0, .int 0, .int 0, .int 0])), (mw, .inl (ct 0, 958, .inl m_w0)), (ov, .inl (ct 1, 1, .inr (.inl (fun _ => 0))))] H) (hD : va_D A [(x, .inr (10, [.ref w, .ref sp, .ref sv, .ref bu, .int 0, .int 0])), (w, .inr (9, [.int 0, .ref w_se, .ref w_cu, .ref w_pr, .int 0, .ref w_ch, .ref w_re, .ref w_lo])), (mo, .inr (11, [.ref mw, .ref ma, .ref mf, .ref m0, .ref m1, .ref mu, .ref mv, .ref u0, .ref u1, .ref iz, .int 0, .ref mb, .int 0, .int 0, .int 0, .int 0, .int 0, .int 0, .int 0])), (mw, .inl (ct 0, 958, .inl m_w0)), (ov, .inl (ct 1, 1, .inr (.inl (fun _ => 0))))]) (hS : va_S A s.heap H locs) (hl : lv_has ls 9 [(0, .ref b), (1, .ref x), (2, .ref mo), (3, .ref ov), (4, .ref od), (5, .int 0)]) : W p l e room_1 s m #[Value.ref b] below meth c H locs 157 8795 (lw_Z below #[Value.ref b] s) (F0 m 2275 ls []) := by
  obtain ⟨hx, hb, hr, hml, hown, hts, hK, hX, hXs, hbl, hbA, hA, hAr, hlocks⟩ := id C1
  refine lv_aload_n hx hb dL_law_2275 rfl (lv_at hl 1 rfl) ?_
  refine lv_aload_n hx hb dL_law_2276 rfl (lv_at hl 0 rfl) ?_
  refine lv_iload hx hb dL_law_2277 (lv_at hl 5 rfl) ?_
  refine lv_iconst (v := 1) hx hb dL_law_2279 (by decide) ?_
  refine lv_iadd hx hb dL_law_2280 ?_
  refine cm_cst (y := 1) (by decide) ?_
  refine va_sld hx hb hXs hbl hbA hS (cm_vin (by decide)) dL_law_2281 ?_
  refine lv_aload_n hx hb dL_law_2282 rfl (lv_at hl 3 rfl) ?_
  refine cm_ki (wr := [(mo, .inr (11, [.ref mw, .ref ma, .ref mf, .ref m0, .ref m1, .ref mu, .ref mv, .ref u0, .ref u1, .ref iz, .int 0, .ref mb, .int 0, .int 0, .int 0, .int 0, .int 0, .int 0, .int 0])), (mw, .inl (ct 0, 958, .inl m_w0))]) (vx_runSW (As := [.ref x, .int (xs (1 : Int32).toNatClampNeg), .ref ov]) (rest := []) ⟨hx, hb, hml, hown, hts⟩ (l_warnings l hfl D ct x w sp sv bu w_se w_cu w_pr w_ch w_re w_lo ov (fun _ => 0) (xs (1 : Int32).toNatClampNeg) _) (cm_SW 3 hts kw_L_warnings ki_RL kl_RL_299 ks_L_warnings kd_L_warnings ⟨Nat.le_of_ble_eq_true rfl, Nat.le_of_ble_eq_true rfl⟩) (cm_preS hP hK hD hS hA hX [0, 1, 4] rfl rfl rfl) rfl rfl hl.1 rfl (lv_room (Nat.le_of_ble_eq_true rfl)) dL_law_2283 ⟨Nat.le_of_ble_eq_true rfl, Nat.le_of_ble_eq_true rfl⟩) hP hD hS hA [0, 1, 4] [2, 3] rfl rfl rfl (by decide) (fun r_1 u H locs hw_2 hP hD hS => ?_)
  have hw_2 : r_1 = 1 := hw_2
  obtain rfl := hw_2
  have hP : va_P D vwCl [(mo, .inr (11, [.ref mw, .ref ma, .ref mf, .ref m0, .ref m1, .ref mu, .ref mv, .ref u0, .ref u1, .ref iz, .int 0, .ref mb, .int 0, .int 0, .int 0, .int 0, .int 0, .int 0, .int 0])), (mw, .inl (ct 0, 958, .inl m_w0))] H := hP
  have hD : va_D A [(mo, .inr (11, [.ref mw, .ref ma, .ref mf, .ref m0, .ref m1, .ref mu, .ref mv, .ref u0, .ref u1, .ref iz, .int 0, .ref mb, .int 0, .int 0, .int 0, .int 0, .int 0, .int 0, .int 0])), (mw, .inl (ct 0, 958, .inl m_w0))] := hD
  refine W.widen (k := 158) (n := 8801) (Nat.le_of_ble_eq_true rfl) (Nat.le_of_ble_eq_true rfl) ?_
  refine lv_istore (lv' := [(6, .int 1), (0, .ref b), (1, .ref x), (2, .ref mo), (3, .ref ov), (4, .ref od), (5, .int 0)]) hx hb dL_law_2286 hl (by decide) rfl (fun ls hl => ?_)
  refine lv_aload_n hx hb dL_law_2288 rfl (lv_at hl 3 rfl) ?_
  refine lv_aload_n hx hb dL_law_2289 rfl (lv_at hl 1 rfl) ?_
  refine lv_iload hx hb dL_law_2290 (lv_at hl 6 rfl) ?_
  refine lv_iconst (v := 1) hx hb dL_law_2292 (by decide) ?_
  refine lv_iadd hx hb dL_law_2293 ?_
  refine cm_cst (y := 1) (by decide) ?_
  refine va_sld hx hb hXs hbl hbA hS (cm_vin (by decide)) dL_law_2294 ?_
  refine cm_ki (wr := []) (va_runV (As := [.int (xs (1 : Int32).toNatClampNeg)]) (rest := []) ⟨hx, hb, hml, hown, hts⟩ (m_warnings_0 l D ct mo mw ma mf m0 m1 mu mv u0 u1 iz mb (xs (1 : Int32).toNatClampNeg) _) (cm_V 1 hts kc_X11_warnings ki_RX11 kl_RL_301 kv_X11_warnings kx_X11_warnings kd_X11_warnings ⟨Nat.le_of_ble_eq_true rfl, Nat.le_of_ble_eq_true rfl⟩) (cm_preV hP hK hD hS hA hX [0, 1] rfl rfl rfl (q0 := 0) (ci := 11) rfl rfl) rfl rfl hl.1 rfl (lv_room (Nat.le_of_ble_eq_true rfl)) dL_law_2295 ⟨Nat.le_of_ble_eq_true rfl, Nat.le_of_ble_eq_true rfl⟩) hP hD hS hA [0, 1] [] rfl rfl rfl (by decide) (fun r_3 u H locs hw_4 hP hD hS => ?_)
  have hP : va_P D vwCl [(mo, .inr (11, [.ref mw, .ref ma, .ref mf, .ref m0, .ref m1, .ref mu, .ref mv, .ref u0, .ref u1, .ref iz, .int 1, .ref mb, .int 0, .int 0, .int 0, .int 0, .int 0, .int 0, .int 0])), (mw, .inl (ct 0, 958, .inl m_w0))] H := hP
  have hD : va_D A [(mo, .inr (11, [.ref mw, .ref ma, .ref mf, .ref m0, .ref m1, .ref mu, .ref mv, .ref u0, .ref u1, .ref iz, .int 1, .ref mb, .int 0, .int 0, .int 0, .int 0, .int 0, .int 0, .int 0])), (mw, .inl (ct 0, 958, .inl m_w0))] := hD
  refine lv_istore (lv' := [(7, .int r_3), (6, .int 1), (0, .ref b), (1, .ref x), (2, .ref mo), (3, .ref ov), (4, .ref od), (5, .int 0)]) hx hb dL_law_2298 hl (by decide) rfl (fun ls hl => ?_)
  refine lv_aload_n hx hb dL_law_2300 rfl (lv_at hl 4 rfl) ?_
  refine cm_ki (wr := [(mw, .inl (ct 0, 958, .inl m_w0))]) (va_runV (As := []) (rest := []) ⟨hx, hb, hml, hown, hts⟩ (m_thrown l D ct mo mw ma mf m0 m1 mu mv u0 u1 iz mb 1 _) (cm_V 0 hts kc_X11_thrown ki_RX11 kl_RL_202 kv_X11_thrown kx_X11_thrown kd_X11_thrown ⟨Nat.le_of_ble_eq_true rfl, Nat.le_of_ble_eq_true rfl⟩) (cm_preV hP hK hD hS hA hX [0] rfl rfl rfl (q0 := 0) (ci := 11) rfl rfl) rfl rfl hl.1 rfl (lv_room (Nat.le_of_ble_eq_true rfl)) dL_law_2301 ⟨Nat.le_of_ble_eq_true rfl, Nat.le_of_ble_eq_true rfl⟩) hP hD hS hA [0] [1] rfl rfl rfl (by decide) (fun r_5 u H locs hw_6 hP hD hS => ?_)
  have hw_6 : r_5 = 1 := hw_6
  obtain rfl := hw_6
  have hP : va_P D vwCl [(mw, .inl (ct 0, 958, .inl m_w0)), (mo, .inr (11, [.ref mw, .ref ma, .ref mf, .ref m0, .ref m1, .ref mu, .ref mv, .ref u0, .ref u1, .ref iz, .int 1, .ref mb, .int 0, .int 0, .int 0, .int 0, .int 0, .int 0, .int 0]))] H := hP
  have hD : va_D A [(mw, .inl (ct 0, 958, .inl m_w0)), (mo, .inr (11, [.ref mw, .ref ma, .ref mf, .ref m0, .ref m1, .ref mu, .ref mv, .ref u0, .ref u1, .ref iz, .int 1, .ref mb, .int 0, .int 0, .int 0, .int 0, .int 0, .int 0, .int 0]))] := hD
  refine lv_iload hx hb dL_law_2304 (lv_at hl 1 rfl) ?_
  refine lv_icmp_eq (tgt := 2311) hx hb dL_law_2306 (by decide) (fun _ => ?_) (fun hc => absurd (by decide) hc)
  refine lv_iload hx hb dL_law_2311 (lv_at hl 1 rfl) ?_
  refine lv_if_ne (tgt := 2328) hx hb dL_law_2313 (by decide) (fun _ => ?_) (fun hc => absurd hc (by decide))
  refine lv_goto (tgt := 3623) hx hb dL_law_2328 (by decide) ?_
  exact law_end C1 hS (lv_sub hl [2, 7] rfl) (Nat.le_of_ble_eq_true rfl) (Nat.le_of_ble_eq_true rfl)
theorem dL_law_2331 : decode cL_law 2331 = .ok (.aload_n 1, 1) := by decide +kernel
theorem dL_law_2332 : decode cL_law 2332 = .ok (.aload_n 0, 1) := by decide +kernel
theorem dL_law_2333 : decode cL_law 2333 = .ok (.iload 5, 2) := by decide +kernel
theorem dL_law_2335 : decode cL_law 2335 = .ok (.iconst 1, 1) := by decide +kernel
theorem dL_law_2336 : decode cL_law 2336 = .ok (.iadd, 1) := by decide +kernel
theorem dL_law_2337 : decode cL_law 2337 = .ok (.iaload, 1) := by decide +kernel
theorem dL_law_2338 : decode cL_law 2338 = .ok (.aload_n 3, 1) := by decide +kernel
theorem dL_law_2339 : decode cL_law 2339 = .ok (.invokestatic 302, 3) := by decide +kernel
theorem dL_law_2342 : decode cL_law 2342 = .ok (.istore 6, 2) := by decide +kernel
theorem dL_law_2344 : decode cL_law 2344 = .ok (.aload_n 2, 1) := by decide +kernel
theorem dL_law_2345 : decode cL_law 2345 = .ok (.aload_n 0, 1) := by decide +kernel
theorem dL_law_2346 : decode cL_law 2346 = .ok (.iload 5, 2) := by decide +kernel
theorem dL_law_2348 : decode cL_law 2348 = .ok (.iconst 1, 1) := by decide +kernel
theorem dL_law_2349 : decode cL_law 2349 = .ok (.iadd, 1) := by decide +kernel
theorem dL_law_2350 : decode cL_law 2350 = .ok (.iaload, 1) := by decide +kernel
theorem dL_law_2351 : decode cL_law 2351 = .ok (.invokevirtual 304, 3) := by decide +kernel
theorem dL_law_2354 : decode cL_law 2354 = .ok (.istore 7, 2) := by decide +kernel
theorem dL_law_2356 : decode cL_law 2356 = .ok (.aload_n 2, 1) := by decide +kernel
theorem dL_law_2357 : decode cL_law 2357 = .ok (.invokevirtual 202, 3) := by decide +kernel
theorem dL_law_2360 : decode cL_law 2360 = .ok (.iload 6, 2) := by decide +kernel
theorem dL_law_2362 : decode cL_law 2362 = .ok (.if_icmp .eq 5, 3) := by decide +kernel
theorem dL_law_2367 : decode cL_law 2367 = .ok (.iload 6, 2) := by decide +kernel
theorem dL_law_2369 : decode cL_law 2369 = .ok (.ifCond .ne 15, 3) := by decide +kernel
theorem dL_law_2384 : decode cL_law 2384 = .ok (.goto 1239, 3) := by decide +kernel
set_option maxRecDepth 100000 in
set_option maxHeartbeats 4000000 in
theorem law_36 {p : Program} {l : Launch} {e : Env} {s : State} {m : MethodId} {below : List Frame} {meth : Method} {c : Code} {D : va_G} {ct : Nat → ClassId} {A : Nat → Prop} {b : Nat} {xs : Nat → Int32} {H : Heap} {locs : List Loc} {ls : Array Slot} (hfl : l.stackTraces = false) (C1 : cmL p s m meth c D ct A b 4 xs) (x : Nat) (w : Nat) (sp : Nat) (sv : Nat) (bu : Nat) (w_se : Nat) (w_cu : Nat) (w_pr : Nat) (w_ch : Nat) (w_re : Nat) (w_lo : Nat) (mo : Nat) (mw : Nat) (ma : Nat) (mf : Nat) (m0 : Nat) (m1 : Nat) (mu : Nat) (mv : Nat) (u0 : Nat) (u1 : Nat) (iz : Nat) (mb : Nat) (ov : Nat) (od : Nat) (hP : va_P D vwCl [(x, .inr (10, [.ref w, .ref sp, .ref sv, .ref bu, .int 0, .int 0])), (w, .inr (9, [.int 0, .ref w_se, .ref w_cu, .ref w_pr, .int 0, .ref w_ch, .ref w_re, .ref w_lo])), (mo, .inr (11, [.ref mw, .ref ma, .ref mf, .ref m0, .ref m1, .ref mu, .ref mv, .ref u0, .ref u1, .ref iz, .int 0, .ref mb, .int 0, .int 0, .int 0, .int 0, .int 0, .int 0, .int 0])), (mw, .inl (ct 0, 958, .inl m_w0)), (ov, .inl (ct 1, 1, .inr (.inl (fun _ => 0))))] H) (hD : va_D A [(x, .inr (10, [.ref w, .ref sp, .ref sv, .ref bu, .int 0, .int 0])), (w, .inr (9, [.int 0, .ref w_se, .ref w_cu, .ref w_pr, .int 0, .ref w_ch, .ref w_re, .ref w_lo])), (mo, .inr (11, [.ref mw, .ref ma, .ref mf, .ref m0, .ref m1, .ref mu, .ref mv, .ref u0, .ref u1, .ref iz, .int 0, .ref mb, .int 0, .int 0, .int 0, .int 0, .int 0, .int 0, .int 0])), (mw, .inl (ct 0, 958, .inl m_w0)), (ov, .inl (ct 1, 1, .inr (.inl (fun _ => 0))))]) (hS : va_S A s.heap H locs) (hl : lv_has ls 9 [(0, .ref b), (1, .ref x), (2, .ref mo), (3, .ref ov), (4, .ref od), (5, .int 0)]) : W p l e room_1 s m #[Value.ref b] below meth c H locs 157 8795 (lw_Z below #[Value.ref b] s) (F0 m 2331 ls []) := by
  obtain ⟨hx, hb, hr, hml, hown, hts, hK, hX, hXs, hbl, hbA, hA, hAr, hlocks⟩ := id C1
  refine lv_aload_n hx hb dL_law_2331 rfl (lv_at hl 1 rfl) ?_
  refine lv_aload_n hx hb dL_law_2332 rfl (lv_at hl 0 rfl) ?_
  refine lv_iload hx hb dL_law_2333 (lv_at hl 5 rfl) ?_
  refine lv_iconst (v := 1) hx hb dL_law_2335 (by decide) ?_
  refine lv_iadd hx hb dL_law_2336 ?_
  refine cm_cst (y := 1) (by decide) ?_
  refine va_sld hx hb hXs hbl hbA hS (cm_vin (by decide)) dL_law_2337 ?_
  refine lv_aload_n hx hb dL_law_2338 rfl (lv_at hl 3 rfl) ?_
  refine cm_ki (wr := [(mo, .inr (11, [.ref mw, .ref ma, .ref mf, .ref m0, .ref m1, .ref mu, .ref mv, .ref u0, .ref u1, .ref iz, .int 0, .ref mb, .int 0, .int 0, .int 0, .int 0, .int 0, .int 0, .int 0])), (mw, .inl (ct 0, 958, .inl m_w0))]) (vx_runSW (As := [.ref x, .int (xs (1 : Int32).toNatClampNeg), .ref ov]) (rest := []) ⟨hx, hb, hml, hown, hts⟩ (l_warned l hfl D ct x w sp sv bu w_se w_cu w_pr w_ch w_re w_lo ov (fun _ => 0) (xs (1 : Int32).toNatClampNeg) _) (cm_SW 3 hts kw_L_warned ki_RL kl_RL_302 ks_L_warned kd_L_warned ⟨Nat.le_of_ble_eq_true rfl, Nat.le_of_ble_eq_true rfl⟩) (cm_preS hP hK hD hS hA hX [0, 1, 4] rfl rfl rfl) rfl rfl hl.1 rfl (lv_room (Nat.le_of_ble_eq_true rfl)) dL_law_2339 ⟨Nat.le_of_ble_eq_true rfl, Nat.le_of_ble_eq_true rfl⟩) hP hD hS hA [0, 1, 4] [2, 3] rfl rfl rfl (by decide) (fun r_1 u H locs hw_2 hP hD hS => ?_)
  have hw_2 : r_1 = 1 := hw_2
  obtain rfl := hw_2
  have hP : va_P D vwCl [(mo, .inr (11, [.ref mw, .ref ma, .ref mf, .ref m0, .ref m1, .ref mu, .ref mv, .ref u0, .ref u1, .ref iz, .int 0, .ref mb, .int 0, .int 0, .int 0, .int 0, .int 0, .int 0, .int 0])), (mw, .inl (ct 0, 958, .inl m_w0))] H := hP
  have hD : va_D A [(mo, .inr (11, [.ref mw, .ref ma, .ref mf, .ref m0, .ref m1, .ref mu, .ref mv, .ref u0, .ref u1, .ref iz, .int 0, .ref mb, .int 0, .int 0, .int 0, .int 0, .int 0, .int 0, .int 0])), (mw, .inl (ct 0, 958, .inl m_w0))] := hD
  refine W.widen (k := 158) (n := 8801) (Nat.le_of_ble_eq_true rfl) (Nat.le_of_ble_eq_true rfl) ?_
  refine lv_istore (lv' := [(6, .int 1), (0, .ref b), (1, .ref x), (2, .ref mo), (3, .ref ov), (4, .ref od), (5, .int 0)]) hx hb dL_law_2342 hl (by decide) rfl (fun ls hl => ?_)
  refine lv_aload_n hx hb dL_law_2344 rfl (lv_at hl 3 rfl) ?_
  refine lv_aload_n hx hb dL_law_2345 rfl (lv_at hl 1 rfl) ?_
  refine lv_iload hx hb dL_law_2346 (lv_at hl 6 rfl) ?_
  refine lv_iconst (v := 1) hx hb dL_law_2348 (by decide) ?_
  refine lv_iadd hx hb dL_law_2349 ?_
  refine cm_cst (y := 1) (by decide) ?_
  refine va_sld hx hb hXs hbl hbA hS (cm_vin (by decide)) dL_law_2350 ?_
  refine cm_ki (wr := []) (va_runV (As := [.int (xs (1 : Int32).toNatClampNeg)]) (rest := []) ⟨hx, hb, hml, hown, hts⟩ (m_warned_0 l D ct mo mw ma mf m0 m1 mu mv u0 u1 iz mb (xs (1 : Int32).toNatClampNeg) _) (cm_V 1 hts kc_X11_warned ki_RX11 kl_RL_304 kv_X11_warned kx_X11_warned kd_X11_warned ⟨Nat.le_of_ble_eq_true rfl, Nat.le_of_ble_eq_true rfl⟩) (cm_preV hP hK hD hS hA hX [0, 1] rfl rfl rfl (q0 := 0) (ci := 11) rfl rfl) rfl rfl hl.1 rfl (lv_room (Nat.le_of_ble_eq_true rfl)) dL_law_2351 ⟨Nat.le_of_ble_eq_true rfl, Nat.le_of_ble_eq_true rfl⟩) hP hD hS hA [0, 1] [] rfl rfl rfl (by decide) (fun r_3 u H locs hw_4 hP hD hS => ?_)
  have hP : va_P D vwCl [(mo, .inr (11, [.ref mw, .ref ma, .ref mf, .ref m0, .ref m1, .ref mu, .ref mv, .ref u0, .ref u1, .ref iz, .int 1, .ref mb, .int 0, .int 0, .int 0, .int 0, .int 0, .int 0, .int 0])), (mw, .inl (ct 0, 958, .inl m_w0))] H := hP
  have hD : va_D A [(mo, .inr (11, [.ref mw, .ref ma, .ref mf, .ref m0, .ref m1, .ref mu, .ref mv, .ref u0, .ref u1, .ref iz, .int 1, .ref mb, .int 0, .int 0, .int 0, .int 0, .int 0, .int 0, .int 0])), (mw, .inl (ct 0, 958, .inl m_w0))] := hD
  refine lv_istore (lv' := [(7, .int r_3), (6, .int 1), (0, .ref b), (1, .ref x), (2, .ref mo), (3, .ref ov), (4, .ref od), (5, .int 0)]) hx hb dL_law_2354 hl (by decide) rfl (fun ls hl => ?_)
  refine lv_aload_n hx hb dL_law_2356 rfl (lv_at hl 4 rfl) ?_
  refine cm_ki (wr := [(mw, .inl (ct 0, 958, .inl m_w0))]) (va_runV (As := []) (rest := []) ⟨hx, hb, hml, hown, hts⟩ (m_thrown l D ct mo mw ma mf m0 m1 mu mv u0 u1 iz mb 1 _) (cm_V 0 hts kc_X11_thrown ki_RX11 kl_RL_202 kv_X11_thrown kx_X11_thrown kd_X11_thrown ⟨Nat.le_of_ble_eq_true rfl, Nat.le_of_ble_eq_true rfl⟩) (cm_preV hP hK hD hS hA hX [0] rfl rfl rfl (q0 := 0) (ci := 11) rfl rfl) rfl rfl hl.1 rfl (lv_room (Nat.le_of_ble_eq_true rfl)) dL_law_2357 ⟨Nat.le_of_ble_eq_true rfl, Nat.le_of_ble_eq_true rfl⟩) hP hD hS hA [0] [1] rfl rfl rfl (by decide) (fun r_5 u H locs hw_6 hP hD hS => ?_)
  have hw_6 : r_5 = 1 := hw_6
  obtain rfl := hw_6
  have hP : va_P D vwCl [(mw, .inl (ct 0, 958, .inl m_w0)), (mo, .inr (11, [.ref mw, .ref ma, .ref mf, .ref m0, .ref m1, .ref mu, .ref mv, .ref u0, .ref u1, .ref iz, .int 1, .ref mb, .int 0, .int 0, .int 0, .int 0, .int 0, .int 0, .int 0]))] H := hP
  have hD : va_D A [(mw, .inl (ct 0, 958, .inl m_w0)), (mo, .inr (11, [.ref mw, .ref ma, .ref mf, .ref m0, .ref m1, .ref mu, .ref mv, .ref u0, .ref u1, .ref iz, .int 1, .ref mb, .int 0, .int 0, .int 0, .int 0, .int 0, .int 0, .int 0]))] := hD
  refine lv_iload hx hb dL_law_2360 (lv_at hl 1 rfl) ?_
  refine lv_icmp_eq (tgt := 2367) hx hb dL_law_2362 (by decide) (fun _ => ?_) (fun hc => absurd (by decide) hc)
  refine lv_iload hx hb dL_law_2367 (lv_at hl 1 rfl) ?_
  refine lv_if_ne (tgt := 2384) hx hb dL_law_2369 (by decide) (fun _ => ?_) (fun hc => absurd hc (by decide))
  refine lv_goto (tgt := 3623) hx hb dL_law_2384 (by decide) ?_
  exact law_end C1 hS (lv_sub hl [2, 7] rfl) (Nat.le_of_ble_eq_true rfl) (Nat.le_of_ble_eq_true rfl)
theorem dL_law_2387 : decode cL_law 2387 = .ok (.aload_n 1, 1) := by decide +kernel
theorem dL_law_2388 : decode cL_law 2388 = .ok (.aload_n 0, 1) := by decide +kernel
theorem dL_law_2389 : decode cL_law 2389 = .ok (.iload 5, 2) := by decide +kernel
theorem dL_law_2391 : decode cL_law 2391 = .ok (.iconst 1, 1) := by decide +kernel
theorem dL_law_2392 : decode cL_law 2392 = .ok (.iadd, 1) := by decide +kernel
theorem dL_law_2393 : decode cL_law 2393 = .ok (.iaload, 1) := by decide +kernel
theorem dL_law_2394 : decode cL_law 2394 = .ok (.aload_n 0, 1) := by decide +kernel
theorem dL_law_2395 : decode cL_law 2395 = .ok (.iload 5, 2) := by decide +kernel
theorem dL_law_2397 : decode cL_law 2397 = .ok (.iconst 2, 1) := by decide +kernel
theorem dL_law_2398 : decode cL_law 2398 = .ok (.iadd, 1) := by decide +kernel
theorem dL_law_2399 : decode cL_law 2399 = .ok (.iaload, 1) := by decide +kernel
theorem dL_law_2400 : decode cL_law 2400 = .ok (.aload_n 3, 1) := by decide +kernel
theorem dL_law_2401 : decode cL_law 2401 = .ok (.invokestatic 305, 3) := by decide +kernel
theorem dL_law_2404 : decode cL_law 2404 = .ok (.istore 6, 2) := by decide +kernel
theorem dL_law_2406 : decode cL_law 2406 = .ok (.aload_n 2, 1) := by decide +kernel
theorem dL_law_2407 : decode cL_law 2407 = .ok (.aload_n 0, 1) := by decide +kernel
theorem dL_law_2408 : decode cL_law 2408 = .ok (.iload 5, 2) := by decide +kernel
theorem dL_law_2410 : decode cL_law 2410 = .ok (.iconst 1, 1) := by decide +kernel
theorem dL_law_2411 : decode cL_law 2411 = .ok (.iadd, 1) := by decide +kernel
theorem dL_law_2412 : decode cL_law 2412 = .ok (.iaload, 1) := by decide +kernel
theorem dL_law_2413 : decode cL_law 2413 = .ok (.aload_n 0, 1) := by decide +kernel
theorem dL_law_2414 : decode cL_law 2414 = .ok (.iload 5, 2) := by decide +kernel
theorem dL_law_2416 : decode cL_law 2416 = .ok (.iconst 2, 1) := by decide +kernel
theorem dL_law_2417 : decode cL_law 2417 = .ok (.iadd, 1) := by decide +kernel
theorem dL_law_2418 : decode cL_law 2418 = .ok (.iaload, 1) := by decide +kernel
theorem dL_law_2419 : decode cL_law 2419 = .ok (.invokevirtual 307, 3) := by decide +kernel
theorem dL_law_2422 : decode cL_law 2422 = .ok (.istore 7, 2) := by decide +kernel
theorem dL_law_2424 : decode cL_law 2424 = .ok (.aload_n 2, 1) := by decide +kernel
theorem dL_law_2425 : decode cL_law 2425 = .ok (.invokevirtual 202, 3) := by decide +kernel
theorem dL_law_2428 : decode cL_law 2428 = .ok (.iload 6, 2) := by decide +kernel
theorem dL_law_2430 : decode cL_law 2430 = .ok (.if_icmp .eq 5, 3) := by decide +kernel
theorem dL_law_2435 : decode cL_law 2435 = .ok (.iload 6, 2) := by decide +kernel
theorem dL_law_2437 : decode cL_law 2437 = .ok (.ifCond .ne 15, 3) := by decide +kernel
theorem dL_law_2452 : decode cL_law 2452 = .ok (.goto 1171, 3) := by decide +kernel
set_option maxRecDepth 100000 in
set_option maxHeartbeats 4000000 in
theorem law_37 {p : Program} {l : Launch} {e : Env} {s : State} {m : MethodId} {below : List Frame} {meth : Method} {c : Code} {D : va_G} {ct : Nat → ClassId} {A : Nat → Prop} {b : Nat} {xs : Nat → Int32} {H : Heap} {locs : List Loc} {ls : Array Slot} (hfl : l.stackTraces = false) (C1 : cmL p s m meth c D ct A b 4 xs) (x : Nat) (w : Nat) (sp : Nat) (sv : Nat) (bu : Nat) (w_se : Nat) (w_cu : Nat) (w_pr : Nat) (w_ch : Nat) (w_re : Nat) (w_lo : Nat) (mo : Nat) (mw : Nat) (ma : Nat) (mf : Nat) (m0 : Nat) (m1 : Nat) (mu : Nat) (mv : Nat) (u0 : Nat) (u1 : Nat) (iz : Nat) (mb : Nat) (ov : Nat) (od : Nat) (hP : va_P D vwCl [(x, .inr (10, [.ref w, .ref sp, .ref sv, .ref bu, .int 0, .int 0])), (w, .inr (9, [.int 0, .ref w_se, .ref w_cu, .ref w_pr, .int 0, .ref w_ch, .ref w_re, .ref w_lo])), (mo, .inr (11, [.ref mw, .ref ma, .ref mf, .ref m0, .ref m1, .ref mu, .ref mv, .ref u0, .ref u1, .ref iz, .int 0, .ref mb, .int 0, .int 0, .int 0, .int 0, .int 0, .int 0, .int 0])), (mw, .inl (ct 0, 958, .inl m_w0)), (ov, .inl (ct 1, 1, .inr (.inl (fun _ => 0))))] H) (hD : va_D A [(x, .inr (10, [.ref w, .ref sp, .ref sv, .ref bu, .int 0, .int 0])), (w, .inr (9, [.int 0, .ref w_se, .ref w_cu, .ref w_pr, .int 0, .ref w_ch, .ref w_re, .ref w_lo])), (mo, .inr (11, [.ref mw, .ref ma, .ref mf, .ref m0, .ref m1, .ref mu, .ref mv, .ref u0, .ref u1, .ref iz, .int 0, .ref mb, .int 0, .int 0, .int 0, .int 0, .int 0, .int 0, .int 0])), (mw, .inl (ct 0, 958, .inl m_w0)), (ov, .inl (ct 1, 1, .inr (.inl (fun _ => 0))))]) (hS : va_S A s.heap H locs) (hl : lv_has ls 9 [(0, .ref b), (1, .ref x), (2, .ref mo), (3, .ref ov), (4, .ref od), (5, .int 0)]) : W p l e room_1 s m #[Value.ref b] below meth c H locs 157 8795 (lw_Z below #[Value.ref b] s) (F0 m 2387 ls []) := by
  obtain ⟨hx, hb, hr, hml, hown, hts, hK, hX, hXs, hbl, hbA, hA, hAr, hlocks⟩ := id C1
  refine lv_aload_n hx hb dL_law_2387 rfl (lv_at hl 1 rfl) ?_
  refine lv_aload_n hx hb dL_law_2388 rfl (lv_at hl 0 rfl) ?_
  refine lv_iload hx hb dL_law_2389 (lv_at hl 5 rfl) ?_
  refine lv_iconst (v := 1) hx hb dL_law_2391 (by decide) ?_
  refine lv_iadd hx hb dL_law_2392 ?_
  refine cm_cst (y := 1) (by decide) ?_
  refine va_sld hx hb hXs hbl hbA hS (cm_vin (by decide)) dL_law_2393 ?_
  refine lv_aload_n hx hb dL_law_2394 rfl (lv_at hl 0 rfl) ?_
  refine lv_iload hx hb dL_law_2395 (lv_at hl 5 rfl) ?_
  refine lv_iconst (v := 2) hx hb dL_law_2397 (by decide) ?_
  refine lv_iadd hx hb dL_law_2398 ?_
  refine cm_cst (y := 2) (by decide) ?_
  refine va_sld hx hb hXs hbl hbA hS (cm_vin (by decide)) dL_law_2399 ?_
  refine lv_aload_n hx hb dL_law_2400 rfl (lv_at hl 3 rfl) ?_
  refine cm_ki (wr := [(mo, .inr (11, [.ref mw, .ref ma, .ref mf, .ref m0, .ref m1, .ref mu, .ref mv, .ref u0, .ref u1, .ref iz, .int 0, .ref mb, .int 0, .int 0, .int 0, .int 0, .int 0, .int 0, .int 0])), (mw, .inl (ct 0, 958, .inl m_w0))]) (vx_runSW (As := [.ref x, .int (xs (1 : Int32).toNatClampNeg), .int (xs (2 : Int32).toNatClampNeg), .ref ov]) (rest := []) ⟨hx, hb, hml, hown, hts⟩ (l_repeats l hfl D ct x w sp sv bu w_se w_cu w_pr w_ch w_re w_lo ov (fun _ => 0) (xs (1 : Int32).toNatClampNeg) (xs (2 : Int32).toNatClampNeg) _) (cm_SW 4 hts kw_L_repeats ki_RL kl_RL_305 ks_L_repeats kd_L_repeats ⟨Nat.le_of_ble_eq_true rfl, Nat.le_of_ble_eq_true rfl⟩) (cm_preS hP hK hD hS hA hX [0, 1, 4] rfl rfl rfl) rfl rfl hl.1 rfl (lv_room (Nat.le_of_ble_eq_true rfl)) dL_law_2401 ⟨Nat.le_of_ble_eq_true rfl, Nat.le_of_ble_eq_true rfl⟩) hP hD hS hA [0, 1, 4] [2, 3] rfl rfl rfl (by decide) (fun r_1 u H locs hw_2 hP hD hS => ?_)
  have hw_2 : r_1 = 1 := hw_2
  obtain rfl := hw_2
  have hP : va_P D vwCl [(mo, .inr (11, [.ref mw, .ref ma, .ref mf, .ref m0, .ref m1, .ref mu, .ref mv, .ref u0, .ref u1, .ref iz, .int 0, .ref mb, .int 0, .int 0, .int 0, .int 0, .int 0, .int 0, .int 0])), (mw, .inl (ct 0, 958, .inl m_w0))] H := hP
  have hD : va_D A [(mo, .inr (11, [.ref mw, .ref ma, .ref mf, .ref m0, .ref m1, .ref mu, .ref mv, .ref u0, .ref u1, .ref iz, .int 0, .ref mb, .int 0, .int 0, .int 0, .int 0, .int 0, .int 0, .int 0])), (mw, .inl (ct 0, 958, .inl m_w0))] := hD
  refine W.widen (k := 158) (n := 8801) (Nat.le_of_ble_eq_true rfl) (Nat.le_of_ble_eq_true rfl) ?_
  refine lv_istore (lv' := [(6, .int 1), (0, .ref b), (1, .ref x), (2, .ref mo), (3, .ref ov), (4, .ref od), (5, .int 0)]) hx hb dL_law_2404 hl (by decide) rfl (fun ls hl => ?_)
  refine lv_aload_n hx hb dL_law_2406 rfl (lv_at hl 3 rfl) ?_
  refine lv_aload_n hx hb dL_law_2407 rfl (lv_at hl 1 rfl) ?_
  refine lv_iload hx hb dL_law_2408 (lv_at hl 6 rfl) ?_
  refine lv_iconst (v := 1) hx hb dL_law_2410 (by decide) ?_
  refine lv_iadd hx hb dL_law_2411 ?_
  refine cm_cst (y := 1) (by decide) ?_
  refine va_sld hx hb hXs hbl hbA hS (cm_vin (by decide)) dL_law_2412 ?_
  refine lv_aload_n hx hb dL_law_2413 rfl (lv_at hl 1 rfl) ?_
  refine lv_iload hx hb dL_law_2414 (lv_at hl 6 rfl) ?_
  refine lv_iconst (v := 2) hx hb dL_law_2416 (by decide) ?_
  refine lv_iadd hx hb dL_law_2417 ?_
  refine cm_cst (y := 2) (by decide) ?_
  refine va_sld hx hb hXs hbl hbA hS (cm_vin (by decide)) dL_law_2418 ?_
  refine cm_ki (wr := []) (va_runV (As := [.int (xs (1 : Int32).toNatClampNeg), .int (xs (2 : Int32).toNatClampNeg)]) (rest := []) ⟨hx, hb, hml, hown, hts⟩ (m_repeats_0 l D ct mo mw ma mf m0 m1 mu mv u0 u1 iz mb (xs (1 : Int32).toNatClampNeg) (xs (2 : Int32).toNatClampNeg) _) (cm_V 2 hts kc_X11_repeats ki_RX11 kl_RL_307 kv_X11_repeats kx_X11_repeats kd_X11_repeats ⟨Nat.le_of_ble_eq_true rfl, Nat.le_of_ble_eq_true rfl⟩) (cm_preV hP hK hD hS hA hX [0, 1] rfl rfl rfl (q0 := 0) (ci := 11) rfl rfl) rfl rfl hl.1 rfl (lv_room (Nat.le_of_ble_eq_true rfl)) dL_law_2419 ⟨Nat.le_of_ble_eq_true rfl, Nat.le_of_ble_eq_true rfl⟩) hP hD hS hA [0, 1] [] rfl rfl rfl (by decide) (fun r_3 u H locs hw_4 hP hD hS => ?_)
  have hP : va_P D vwCl [(mo, .inr (11, [.ref mw, .ref ma, .ref mf, .ref m0, .ref m1, .ref mu, .ref mv, .ref u0, .ref u1, .ref iz, .int 1, .ref mb, .int 0, .int 0, .int 0, .int 0, .int 0, .int 0, .int 0])), (mw, .inl (ct 0, 958, .inl m_w0))] H := hP
  have hD : va_D A [(mo, .inr (11, [.ref mw, .ref ma, .ref mf, .ref m0, .ref m1, .ref mu, .ref mv, .ref u0, .ref u1, .ref iz, .int 1, .ref mb, .int 0, .int 0, .int 0, .int 0, .int 0, .int 0, .int 0])), (mw, .inl (ct 0, 958, .inl m_w0))] := hD
  refine lv_istore (lv' := [(7, .int r_3), (6, .int 1), (0, .ref b), (1, .ref x), (2, .ref mo), (3, .ref ov), (4, .ref od), (5, .int 0)]) hx hb dL_law_2422 hl (by decide) rfl (fun ls hl => ?_)
  refine lv_aload_n hx hb dL_law_2424 rfl (lv_at hl 4 rfl) ?_
  refine cm_ki (wr := [(mw, .inl (ct 0, 958, .inl m_w0))]) (va_runV (As := []) (rest := []) ⟨hx, hb, hml, hown, hts⟩ (m_thrown l D ct mo mw ma mf m0 m1 mu mv u0 u1 iz mb 1 _) (cm_V 0 hts kc_X11_thrown ki_RX11 kl_RL_202 kv_X11_thrown kx_X11_thrown kd_X11_thrown ⟨Nat.le_of_ble_eq_true rfl, Nat.le_of_ble_eq_true rfl⟩) (cm_preV hP hK hD hS hA hX [0] rfl rfl rfl (q0 := 0) (ci := 11) rfl rfl) rfl rfl hl.1 rfl (lv_room (Nat.le_of_ble_eq_true rfl)) dL_law_2425 ⟨Nat.le_of_ble_eq_true rfl, Nat.le_of_ble_eq_true rfl⟩) hP hD hS hA [0] [1] rfl rfl rfl (by decide) (fun r_5 u H locs hw_6 hP hD hS => ?_)
  have hw_6 : r_5 = 1 := hw_6
  obtain rfl := hw_6
  have hP : va_P D vwCl [(mw, .inl (ct 0, 958, .inl m_w0)), (mo, .inr (11, [.ref mw, .ref ma, .ref mf, .ref m0, .ref m1, .ref mu, .ref mv, .ref u0, .ref u1, .ref iz, .int 1, .ref mb, .int 0, .int 0, .int 0, .int 0, .int 0, .int 0, .int 0]))] H := hP
  have hD : va_D A [(mw, .inl (ct 0, 958, .inl m_w0)), (mo, .inr (11, [.ref mw, .ref ma, .ref mf, .ref m0, .ref m1, .ref mu, .ref mv, .ref u0, .ref u1, .ref iz, .int 1, .ref mb, .int 0, .int 0, .int 0, .int 0, .int 0, .int 0, .int 0]))] := hD
  refine lv_iload hx hb dL_law_2428 (lv_at hl 1 rfl) ?_
  refine lv_icmp_eq (tgt := 2435) hx hb dL_law_2430 (by decide) (fun _ => ?_) (fun hc => absurd (by decide) hc)
  refine lv_iload hx hb dL_law_2435 (lv_at hl 1 rfl) ?_
  refine lv_if_ne (tgt := 2452) hx hb dL_law_2437 (by decide) (fun _ => ?_) (fun hc => absurd hc (by decide))
  refine lv_goto (tgt := 3623) hx hb dL_law_2452 (by decide) ?_
  exact law_end C1 hS (lv_sub hl [2, 7] rfl) (Nat.le_of_ble_eq_true rfl) (Nat.le_of_ble_eq_true rfl)
theorem dL_law_2455 : decode cL_law 2455 = .ok (.aload_n 1, 1) := by decide +kernel
theorem dL_law_2456 : decode cL_law 2456 = .ok (.aload_n 0, 1) := by decide +kernel
theorem dL_law_2457 : decode cL_law 2457 = .ok (.iload 5, 2) := by decide +kernel
theorem dL_law_2459 : decode cL_law 2459 = .ok (.iconst 1, 1) := by decide +kernel
theorem dL_law_2460 : decode cL_law 2460 = .ok (.iadd, 1) := by decide +kernel
theorem dL_law_2461 : decode cL_law 2461 = .ok (.iaload, 1) := by decide +kernel
theorem dL_law_2462 : decode cL_law 2462 = .ok (.aload_n 3, 1) := by decide +kernel
theorem dL_law_2463 : decode cL_law 2463 = .ok (.invokestatic 308, 3) := by decide +kernel
theorem dL_law_2466 : decode cL_law 2466 = .ok (.istore 6, 2) := by decide +kernel
theorem dL_law_2468 : decode cL_law 2468 = .ok (.aload_n 2, 1) := by decide +kernel
theorem dL_law_2469 : decode cL_law 2469 = .ok (.aload_n 0, 1) := by decide +kernel
theorem dL_law_2470 : decode cL_law 2470 = .ok (.iload 5, 2) := by decide +kernel
theorem dL_law_2472 : decode cL_law 2472 = .ok (.iconst 1, 1) := by decide +kernel
theorem dL_law_2473 : decode cL_law 2473 = .ok (.iadd, 1) := by decide +kernel
theorem dL_law_2474 : decode cL_law 2474 = .ok (.iaload, 1) := by decide +kernel
theorem dL_law_2475 : decode cL_law 2475 = .ok (.invokevirtual 310, 3) := by decide +kernel
theorem dL_law_2478 : decode cL_law 2478 = .ok (.istore 7, 2) := by decide +kernel
theorem dL_law_2480 : decode cL_law 2480 = .ok (.aload_n 2, 1) := by decide +kernel
theorem dL_law_2481 : decode cL_law 2481 = .ok (.invokevirtual 202, 3) := by decide +kernel
theorem dL_law_2484 : decode cL_law 2484 = .ok (.iload 6, 2) := by decide +kernel
theorem dL_law_2486 : decode cL_law 2486 = .ok (.if_icmp .eq 5, 3) := by decide +kernel
theorem dL_law_2491 : decode cL_law 2491 = .ok (.iload 6, 2) := by decide +kernel
theorem dL_law_2493 : decode cL_law 2493 = .ok (.ifCond .ne 15, 3) := by decide +kernel
theorem dL_law_2496 : decode cL_law 2496 = .ok (.aload_n 3, 1) := by decide +kernel
theorem dL_law_2497 : decode cL_law 2497 = .ok (.iconst 0, 1) := by decide +kernel
theorem dL_law_2498 : decode cL_law 2498 = .ok (.laload, 1) := by decide +kernel
theorem dL_law_2499 : decode cL_law 2499 = .ok (.iload 7, 2) := by decide +kernel
theorem dL_law_2501 : decode cL_law 2501 = .ok (.i2l, 1) := by decide +kernel
theorem dL_law_2502 : decode cL_law 2502 = .ok (.lcmp, 1) := by decide +kernel
theorem dL_law_2503 : decode cL_law 2503 = .ok (.ifCond .eq 5, 3) := by decide +kernel
theorem dL_law_2508 : decode cL_law 2508 = .ok (.goto 1115, 3) := by decide +kernel
set_option maxRecDepth 100000 in
set_option maxHeartbeats 4000000 in
theorem law_38 {p : Program} {l : Launch} {e : Env} {s : State} {m : MethodId} {below : List Frame} {meth : Method} {c : Code} {D : va_G} {ct : Nat → ClassId} {A : Nat → Prop} {b : Nat} {xs : Nat → Int32} {H : Heap} {locs : List Loc} {ls : Array Slot} (hfl : l.stackTraces = false) (C1 : cmL p s m meth c D ct A b 4 xs) (x : Nat) (w : Nat) (sp : Nat) (sv : Nat) (bu : Nat) (w_se : Nat) (w_cu : Nat) (w_pr : Nat) (w_ch : Nat) (w_re : Nat) (w_lo : Nat) (mo : Nat) (mw : Nat) (ma : Nat) (mf : Nat) (m0 : Nat) (m1 : Nat) (mu : Nat) (mv : Nat) (u0 : Nat) (u1 : Nat) (iz : Nat) (mb : Nat) (ov : Nat) (od : Nat) (hP : va_P D vwCl [(x, .inr (10, [.ref w, .ref sp, .ref sv, .ref bu, .int 0, .int 0])), (w, .inr (9, [.int 0, .ref w_se, .ref w_cu, .ref w_pr, .int 0, .ref w_ch, .ref w_re, .ref w_lo])), (mo, .inr (11, [.ref mw, .ref ma, .ref mf, .ref m0, .ref m1, .ref mu, .ref mv, .ref u0, .ref u1, .ref iz, .int 0, .ref mb, .int 0, .int 0, .int 0, .int 0, .int 0, .int 0, .int 0])), (mw, .inl (ct 0, 958, .inl m_w0)), (ov, .inl (ct 1, 1, .inr (.inl (fun _ => 0))))] H) (hD : va_D A [(x, .inr (10, [.ref w, .ref sp, .ref sv, .ref bu, .int 0, .int 0])), (w, .inr (9, [.int 0, .ref w_se, .ref w_cu, .ref w_pr, .int 0, .ref w_ch, .ref w_re, .ref w_lo])), (mo, .inr (11, [.ref mw, .ref ma, .ref mf, .ref m0, .ref m1, .ref mu, .ref mv, .ref u0, .ref u1, .ref iz, .int 0, .ref mb, .int 0, .int 0, .int 0, .int 0, .int 0, .int 0, .int 0])), (mw, .inl (ct 0, 958, .inl m_w0)), (ov, .inl (ct 1, 1, .inr (.inl (fun _ => 0))))]) (hS : va_S A s.heap H locs) (hl : lv_has ls 9 [(0, .ref b), (1, .ref x), (2, .ref mo), (3, .ref ov), (4, .ref od), (5, .int 0)]) : W p l e room_1 s m #[Value.ref b] below meth c H locs 157 8795 (lw_Z below #[Value.ref b] s) (F0 m 2455 ls []) := by
  obtain ⟨hx, hb, hr, hml, hown, hts, hK, hX, hXs, hbl, hbA, hA, hAr, hlocks⟩ := id C1
  refine lv_aload_n hx hb dL_law_2455 rfl (lv_at hl 1 rfl) ?_
  refine lv_aload_n hx hb dL_law_2456 rfl (lv_at hl 0 rfl) ?_
  refine lv_iload hx hb dL_law_2457 (lv_at hl 5 rfl) ?_
  refine lv_iconst (v := 1) hx hb dL_law_2459 (by decide) ?_
  refine lv_iadd hx hb dL_law_2460 ?_
  refine cm_cst (y := 1) (by decide) ?_
  refine va_sld hx hb hXs hbl hbA hS (cm_vin (by decide)) dL_law_2461 ?_
  refine lv_aload_n hx hb dL_law_2462 rfl (lv_at hl 3 rfl) ?_
  refine cm_ki (wr := [(mo, .inr (11, [.ref mw, .ref ma, .ref mf, .ref m0, .ref m1, .ref mu, .ref mv, .ref u0, .ref u1, .ref iz, .int 0, .ref mb, .int 0, .int 0, .int 0, .int 0, .int 0, .int 0, .int 0])), (mw, .inl (ct 0, 958, .inl m_w0))]) (vx_runSW (As := [.ref x, .int (xs (1 : Int32).toNatClampNeg), .ref ov]) (rest := []) ⟨hx, hb, hml, hown, hts⟩ (l_inState l hfl D ct x w sp sv bu w_se w_cu w_pr w_ch w_re w_lo ov (fun _ => 0) (xs (1 : Int32).toNatClampNeg) _) (cm_SW 3 hts kw_L_inState ki_RL kl_RL_308 ks_L_inState kd_L_inState ⟨Nat.le_of_ble_eq_true rfl, Nat.le_of_ble_eq_true rfl⟩) (cm_preS hP hK hD hS hA hX [0, 1, 4] rfl rfl rfl) rfl rfl hl.1 rfl (lv_room (Nat.le_of_ble_eq_true rfl)) dL_law_2463 ⟨Nat.le_of_ble_eq_true rfl, Nat.le_of_ble_eq_true rfl⟩) hP hD hS hA [0, 1, 4] [2, 3] rfl rfl rfl (by decide) (fun r_1 u H locs hw_2 hP hD hS => ?_)
  obtain ⟨g_3, rfl⟩ : ∃ z, z = u := ⟨_, rfl⟩
  have hw_2 : (r_1 = 0 ∧ (0 ≤ (xs (1 : Int32).toNatClampNeg) ∧ (xs (1 : Int32).toNatClampNeg) ≤ 4) ∧ g_3 (0 : Int32).toNatClampNeg = 0) ∨ (r_1 = 1 ∧ ((xs (1 : Int32).toNatClampNeg) < 0 ∨ 4 < (xs (1 : Int32).toNatClampNeg))) := hw_2
  have hP : va_P D vwCl [(mo, .inr (11, [.ref mw, .ref ma, .ref mf, .ref m0, .ref m1, .ref mu, .ref mv, .ref u0, .ref u1, .ref iz, .int 0, .ref mb, .int 0, .int 0, .int 0, .int 0, .int 0, .int 0, .int 0])), (mw, .inl (ct 0, 958, .inl m_w0)), (ov, .inl (ct 1, 1, .inr (.inl g_3)))] H := hP
  have hD : va_D A [(mo, .inr (11, [.ref mw, .ref ma, .ref mf, .ref m0, .ref m1, .ref mu, .ref mv, .ref u0, .ref u1, .ref iz, .int 0, .ref mb, .int 0, .int 0, .int 0, .int 0, .int 0, .int 0, .int 0])), (mw, .inl (ct 0, 958, .inl m_w0)), (ov, .inl (ct 1, 1, .inr (.inl g_3)))] := hD
  refine W.widen (k := 158) (n := 8801) (Nat.le_of_ble_eq_true rfl) (Nat.le_of_ble_eq_true rfl) ?_
  refine lv_istore (lv' := [(6, .int r_1), (0, .ref b), (1, .ref x), (2, .ref mo), (3, .ref ov), (4, .ref od), (5, .int 0)]) hx hb dL_law_2466 hl (by decide) rfl (fun ls hl => ?_)
  refine lv_aload_n hx hb dL_law_2468 rfl (lv_at hl 3 rfl) ?_
  refine lv_aload_n hx hb dL_law_2469 rfl (lv_at hl 1 rfl) ?_
  refine lv_iload hx hb dL_law_2470 (lv_at hl 6 rfl) ?_
  refine lv_iconst (v := 1) hx hb dL_law_2472 (by decide) ?_
  refine lv_iadd hx hb dL_law_2473 ?_
  refine cm_cst (y := 1) (by decide) ?_
  refine va_sld hx hb hXs hbl hbA hS (cm_vin (by decide)) dL_law_2474 ?_
  refine cm_ki (wr := [(ov, .inl (ct 1, 1, .inr (.inl g_3)))]) (va_runV (As := [.int (xs (1 : Int32).toNatClampNeg)]) (rest := []) ⟨hx, hb, hml, hown, hts⟩ (m_inState_0 l D ct mo mw ma mf m0 m1 mu mv u0 u1 iz mb (xs (1 : Int32).toNatClampNeg) _) (cm_V 1 hts kc_X11_inState ki_RX11 kl_RL_310 kv_X11_inState kx_X11_inState kd_X11_inState ⟨Nat.le_of_ble_eq_true rfl, Nat.le_of_ble_eq_true rfl⟩) (cm_preV hP hK hD hS hA hX [0, 1] rfl rfl rfl (q0 := 0) (ci := 11) rfl rfl) rfl rfl hl.1 rfl (lv_room (Nat.le_of_ble_eq_true rfl)) dL_law_2475 ⟨Nat.le_of_ble_eq_true rfl, Nat.le_of_ble_eq_true rfl⟩) hP hD hS hA [0, 1] [2] rfl rfl rfl (by decide) (fun r_4 u H locs hw_5 hP hD hS => ?_)
  obtain ⟨th_6, rfl⟩ : ∃ z, z = u := ⟨_, rfl⟩
  have hw_5 : (th_6 = 0 ∧ (0 ≤ (xs (1 : Int32).toNatClampNeg) ∧ (xs (1 : Int32).toNatClampNeg) ≤ 4) ∧ r_4 = 0) ∨ (th_6 = 1 ∧ ((xs (1 : Int32).toNatClampNeg) < 0 ∨ 4 < (xs (1 : Int32).toNatClampNeg))) := hw_5
  have hP : va_P D vwCl [(ov, .inl (ct 1, 1, .inr (.inl g_3))), (mo, .inr (11, [.ref mw, .ref ma, .ref mf, .ref m0, .ref m1, .ref mu, .ref mv, .ref u0, .ref u1, .ref iz, .int th_6, .ref mb, .int 0, .int 0, .int 0, .int 0, .int 0, .int 0, .int 0]))] H := hP
  have hD : va_D A [(ov, .inl (ct 1, 1, .inr (.inl g_3))), (mo, .inr (11, [.ref mw, .ref ma, .ref mf, .ref m0, .ref m1, .ref mu, .ref mv, .ref u0, .ref u1, .ref iz, .int th_6, .ref mb, .int 0, .int 0, .int 0, .int 0, .int 0, .int 0, .int 0]))] := hD
  refine lv_istore (lv' := [(7, .int r_4), (6, .int r_1), (0, .ref b), (1, .ref x), (2, .ref mo), (3, .ref ov), (4, .ref od), (5, .int 0)]) hx hb dL_law_2478 hl (by decide) rfl (fun ls hl => ?_)
  rcases hw_2 with ⟨rfl, hq1, hg⟩ | ⟨rfl, hq1⟩
  · rcases hw_5 with ⟨rfl, hq2, rfl⟩ | ⟨rfl, hq2⟩
    · refine lv_aload_n hx hb dL_law_2480 rfl (lv_at hl 4 rfl) ?_
      refine cm_ki (wr := [(ov, .inl (ct 1, 1, .inr (.inl g_3)))]) (va_runV (As := []) (rest := []) ⟨hx, hb, hml, hown, hts⟩ (m_thrown l D ct mo mw ma mf m0 m1 mu mv u0 u1 iz mb 0 _) (cm_V 0 hts kc_X11_thrown ki_RX11 kl_RL_202 kv_X11_thrown kx_X11_thrown kd_X11_thrown ⟨Nat.le_of_ble_eq_true rfl, Nat.le_of_ble_eq_true rfl⟩) (cm_preV hP hK hD hS hA hX [1] rfl rfl rfl (q0 := 1) (ci := 11) rfl rfl) rfl rfl hl.1 rfl (lv_room (Nat.le_of_ble_eq_true rfl)) dL_law_2481 ⟨Nat.le_of_ble_eq_true rfl, Nat.le_of_ble_eq_true rfl⟩) hP hD hS hA [1] [0] rfl rfl rfl (by decide) (fun r_7 u H locs hw_8 hP hD hS => ?_)
      have hw_8 : r_7 = 0 := hw_8
      obtain rfl := hw_8
      have hP : va_P D vwCl [(ov, .inl (ct 1, 1, .inr (.inl g_3))), (mo, .inr (11, [.ref mw, .ref ma, .ref mf, .ref m0, .ref m1, .ref mu, .ref mv, .ref u0, .ref u1, .ref iz, .int 0, .ref mb, .int 0, .int 0, .int 0, .int 0, .int 0, .int 0, .int 0]))] H := hP
      have hD : va_D A [(ov, .inl (ct 1, 1, .inr (.inl g_3))), (mo, .inr (11, [.ref mw, .ref ma, .ref mf, .ref m0, .ref m1, .ref mu, .ref mv, .ref u0, .ref u1, .ref iz, .int 0, .ref mb, .int 0, .int 0, .int 0, .int 0, .int 0, .int 0, .int 0]))] := hD
      refine lv_iload hx hb dL_law_2484 (lv_at hl 1 rfl) ?_
      refine lv_icmp_eq (tgt := 2491) hx hb dL_law_2486 (by decide) (fun _ => ?_) (fun hc => absurd (by decide) hc)
      refine lv_iload hx hb dL_law_2491 (lv_at hl 1 rfl) ?_
      refine lv_if_ne (tgt := 2508) hx hb dL_law_2493 (by decide) (fun hc => absurd (by decide) hc) (fun _ => ?_)
      refine lv_aload_n hx hb dL_law_2496 rfl (lv_at hl 5 rfl) ?_
      refine lv_iconst (v := 0) hx hb dL_law_2497 (by decide) ?_
      refine va_lald hx hb hK hP 0 1 rfl rfl (cm_vin (by decide)) dL_law_2498 ?_
      refine cm_cstl (y := 0) hg ?_
      refine lv_iload hx hb dL_law_2499 (lv_at hl 0 rfl) ?_
      refine lv_i2l (v := 0) hx hb dL_law_2501 (by decide) ?_
      refine W.lcmp hx hb dL_law_2502 ?_
      refine cm_cst (y := 0) (by decide) ?_
      refine lv_if_eq (tgt := 2508) hx hb dL_law_2503 (by decide) (fun _ => ?_) (fun hc => absurd (by decide) hc)
      refine lv_goto (tgt := 3623) hx hb dL_law_2508 (by decide) ?_
      exact law_end C1 hS (lv_sub hl [2, 7] rfl) (Nat.le_of_ble_eq_true rfl) (Nat.le_of_ble_eq_true rfl)
    · exact (cm_no hq1 hq2).elim
  · rcases hw_5 with ⟨rfl, hq2, rfl⟩ | ⟨rfl, hq2⟩
    · exact (cm_no hq2 hq1).elim
    · refine lv_aload_n hx hb dL_law_2480 rfl (lv_at hl 4 rfl) ?_
      refine cm_ki (wr := [(ov, .inl (ct 1, 1, .inr (.inl g_3)))]) (va_runV (As := []) (rest := []) ⟨hx, hb, hml, hown, hts⟩ (m_thrown l D ct mo mw ma mf m0 m1 mu mv u0 u1 iz mb 1 _) (cm_V 0 hts kc_X11_thrown ki_RX11 kl_RL_202 kv_X11_thrown kx_X11_thrown kd_X11_thrown ⟨Nat.le_of_ble_eq_true rfl, Nat.le_of_ble_eq_true rfl⟩) (cm_preV hP hK hD hS hA hX [1] rfl rfl rfl (q0 := 1) (ci := 11) rfl rfl) rfl rfl hl.1 rfl (lv_room (Nat.le_of_ble_eq_true rfl)) dL_law_2481 ⟨Nat.le_of_ble_eq_true rfl, Nat.le_of_ble_eq_true rfl⟩) hP hD hS hA [1] [0] rfl rfl rfl (by decide) (fun r_9 u H locs hw_10 hP hD hS => ?_)
      have hw_10 : r_9 = 1 := hw_10
      obtain rfl := hw_10
      have hP : va_P D vwCl [(ov, .inl (ct 1, 1, .inr (.inl g_3))), (mo, .inr (11, [.ref mw, .ref ma, .ref mf, .ref m0, .ref m1, .ref mu, .ref mv, .ref u0, .ref u1, .ref iz, .int 1, .ref mb, .int 0, .int 0, .int 0, .int 0, .int 0, .int 0, .int 0]))] H := hP
      have hD : va_D A [(ov, .inl (ct 1, 1, .inr (.inl g_3))), (mo, .inr (11, [.ref mw, .ref ma, .ref mf, .ref m0, .ref m1, .ref mu, .ref mv, .ref u0, .ref u1, .ref iz, .int 1, .ref mb, .int 0, .int 0, .int 0, .int 0, .int 0, .int 0, .int 0]))] := hD
      refine lv_iload hx hb dL_law_2484 (lv_at hl 1 rfl) ?_
      refine lv_icmp_eq (tgt := 2491) hx hb dL_law_2486 (by decide) (fun _ => ?_) (fun hc => absurd (by decide) hc)
      refine lv_iload hx hb dL_law_2491 (lv_at hl 1 rfl) ?_
      refine lv_if_ne (tgt := 2508) hx hb dL_law_2493 (by decide) (fun _ => ?_) (fun hc => absurd hc (by decide))
      refine lv_goto (tgt := 3623) hx hb dL_law_2508 (by decide) ?_
      exact law_end C1 hS (lv_sub hl [2, 7] rfl) (Nat.le_of_ble_eq_true rfl) (Nat.le_of_ble_eq_true rfl)
theorem dL_law_2511 : decode cL_law 2511 = .ok (.aload_n 1, 1) := by decide +kernel
theorem dL_law_2512 : decode cL_law 2512 = .ok (.invokevirtual 311, 3) := by decide +kernel
theorem dL_law_2515 : decode cL_law 2515 = .ok (.aload_n 2, 1) := by decide +kernel
theorem dL_law_2516 : decode cL_law 2516 = .ok (.invokevirtual 314, 3) := by decide +kernel
theorem dL_law_2519 : decode cL_law 2519 = .ok (.if_icmp .eq 1104, 3) := by decide +kernel
set_option maxRecDepth 100000 in
set_option maxHeartbeats 4000000 in
theorem law_39 {p : Program} {l : Launch} {e : Env} {s : State} {m : MethodId} {below : List Frame} {meth : Method} {c : Code} {D : va_G} {ct : Nat → ClassId} {A : Nat → Prop} {b : Nat} {xs : Nat → Int32} {H : Heap} {locs : List Loc} {ls : Array Slot} (hfl : l.stackTraces = false) (C1 : cmL p s m meth c D ct A b 4 xs) (x : Nat) (w : Nat) (sp : Nat) (sv : Nat) (bu : Nat) (w_se : Nat) (w_cu : Nat) (w_pr : Nat) (w_ch : Nat) (w_re : Nat) (w_lo : Nat) (mo : Nat) (mw : Nat) (ma : Nat) (mf : Nat) (m0 : Nat) (m1 : Nat) (mu : Nat) (mv : Nat) (u0 : Nat) (u1 : Nat) (iz : Nat) (mb : Nat) (ov : Nat) (od : Nat) (hP : va_P D vwCl [(x, .inr (10, [.ref w, .ref sp, .ref sv, .ref bu, .int 0, .int 0])), (w, .inr (9, [.int 0, .ref w_se, .ref w_cu, .ref w_pr, .int 0, .ref w_ch, .ref w_re, .ref w_lo])), (mo, .inr (11, [.ref mw, .ref ma, .ref mf, .ref m0, .ref m1, .ref mu, .ref mv, .ref u0, .ref u1, .ref iz, .int 0, .ref mb, .int 0, .int 0, .int 0, .int 0, .int 0, .int 0, .int 0])), (mw, .inl (ct 0, 958, .inl m_w0))] H) (hD : va_D A [(x, .inr (10, [.ref w, .ref sp, .ref sv, .ref bu, .int 0, .int 0])), (w, .inr (9, [.int 0, .ref w_se, .ref w_cu, .ref w_pr, .int 0, .ref w_ch, .ref w_re, .ref w_lo])), (mo, .inr (11, [.ref mw, .ref ma, .ref mf, .ref m0, .ref m1, .ref mu, .ref mv, .ref u0, .ref u1, .ref iz, .int 0, .ref mb, .int 0, .int 0, .int 0, .int 0, .int 0, .int 0, .int 0])), (mw, .inl (ct 0, 958, .inl m_w0))]) (hS : va_S A s.heap H locs) (hl : lv_has ls 9 [(0, .ref b), (1, .ref x), (2, .ref mo), (3, .ref ov), (4, .ref od), (5, .int 0)]) : W p l e room_1 s m #[Value.ref b] below meth c H locs 157 8795 (lw_Z below #[Value.ref b] s) (F0 m 2511 ls []) := by
  obtain ⟨hx, hb, hr, hml, hown, hts, hK, hX, hXs, hbl, hbA, hA, hAr, hlocks⟩ := id C1
  refine lv_aload_n hx hb dL_law_2511 rfl (lv_at hl 1 rfl) ?_
  refine cm_ki (wr := [(mo, .inr (11, [.ref mw, .ref ma, .ref mf, .ref m0, .ref m1, .ref mu, .ref mv, .ref u0, .ref u1, .ref iz, .int 0, .ref mb, .int 0, .int 0, .int 0, .int 0, .int 0, .int 0, .int 0])), (mw, .inl (ct 0, 958, .inl m_w0))]) (va_runV (As := []) (rest := []) ⟨hx, hb, hml, hown, hts⟩ (c_weakest_0 l D ct x w sp sv bu w_se w_cu w_pr w_ch w_re w_lo _) (cm_V 0 hts kc_X10_weakest ki_RX10 kl_RL_311 kv_X10_weakest kx_X10_weakest kd_X10_weakest ⟨Nat.le_of_ble_eq_true rfl, Nat.le_of_ble_eq_true rfl⟩) (cm_preV hP hK hD hS hA hX [0, 1] rfl rfl rfl (q0 := 0) (ci := 10) rfl rfl) rfl rfl hl.1 rfl (lv_room (Nat.le_of_ble_eq_true rfl)) dL_law_2512 ⟨Nat.le_of_ble_eq_true rfl, Nat.le_of_ble_eq_true rfl⟩) hP hD hS hA [0, 1] [2, 3] rfl rfl rfl (by decide) (fun r_1 u H locs hw_2 hP hD hS => ?_)
  have hw_2 : r_1 = (-1) := hw_2
  obtain rfl := hw_2
  have hP : va_P D vwCl [(mo, .inr (11, [.ref mw, .ref ma, .ref mf, .ref m0, .ref m1, .ref mu, .ref mv, .ref u0, .ref u1, .ref iz, .int 0, .ref mb, .int 0, .int 0, .int 0, .int 0, .int 0, .int 0, .int 0])), (mw, .inl (ct 0, 958, .inl m_w0)), (x, .inr (10, [.ref w, .ref sp, .ref sv, .ref bu, .int 0, .int 0])), (w, .inr (9, [.int 0, .ref w_se, .ref w_cu, .ref w_pr, .int 0, .ref w_ch, .ref w_re, .ref w_lo]))] H := hP
  have hD : va_D A [(mo, .inr (11, [.ref mw, .ref ma, .ref mf, .ref m0, .ref m1, .ref mu, .ref mv, .ref u0, .ref u1, .ref iz, .int 0, .ref mb, .int 0, .int 0, .int 0, .int 0, .int 0, .int 0, .int 0])), (mw, .inl (ct 0, 958, .inl m_w0)), (x, .inr (10, [.ref w, .ref sp, .ref sv, .ref bu, .int 0, .int 0])), (w, .inr (9, [.int 0, .ref w_se, .ref w_cu, .ref w_pr, .int 0, .ref w_ch, .ref w_re, .ref w_lo]))] := hD
  refine lv_aload_n hx hb dL_law_2515 rfl (lv_at hl 2 rfl) ?_
  refine cm_ki (wr := [(x, .inr (10, [.ref w, .ref sp, .ref sv, .ref bu, .int 0, .int 0])), (w, .inr (9, [.int 0, .ref w_se, .ref w_cu, .ref w_pr, .int 0, .ref w_ch, .ref w_re, .ref w_lo]))]) (va_runV (As := []) (rest := [.int (-1)]) ⟨hx, hb, hml, hown, hts⟩ (m_weakest_0 l D ct mo mw ma mf m0 m1 mu mv u0 u1 iz mb _) (cm_V 0 hts kc_X11_weakest ki_RX11 kl_RL_314 kv_X11_weakest kx_X11_weakest kd_X11_weakest ⟨Nat.le_of_ble_eq_true rfl, Nat.le_of_ble_eq_true rfl⟩) (cm_preV hP hK hD hS hA hX [0, 1] rfl rfl rfl (q0 := 0) (ci := 11) rfl rfl) rfl rfl hl.1 rfl (lv_room (Nat.le_of_ble_eq_true rfl)) dL_law_2516 ⟨Nat.le_of_ble_eq_true rfl, Nat.le_of_ble_eq_true rfl⟩) hP hD hS hA [0, 1] [2, 3] rfl rfl rfl (by decide) (fun r_3 u H locs hw_4 hP hD hS => ?_)
  have hw_4 : r_3 = (-1) := hw_4
  obtain rfl := hw_4
  have hP : va_P D vwCl [(x, .inr (10, [.ref w, .ref sp, .ref sv, .ref bu, .int 0, .int 0])), (w, .inr (9, [.int 0, .ref w_se, .ref w_cu, .ref w_pr, .int 0, .ref w_ch, .ref w_re, .ref w_lo])), (mo, .inr (11, [.ref mw, .ref ma, .ref mf, .ref m0, .ref m1, .ref mu, .ref mv, .ref u0, .ref u1, .ref iz, .int 0, .ref mb, .int 0, .int 0, .int 0, .int 0, .int 0, .int 0, .int 0])), (mw, .inl (ct 0, 958, .inl m_w0))] H := hP
  have hD : va_D A [(x, .inr (10, [.ref w, .ref sp, .ref sv, .ref bu, .int 0, .int 0])), (w, .inr (9, [.int 0, .ref w_se, .ref w_cu, .ref w_pr, .int 0, .ref w_ch, .ref w_re, .ref w_lo])), (mo, .inr (11, [.ref mw, .ref ma, .ref mf, .ref m0, .ref m1, .ref mu, .ref mv, .ref u0, .ref u1, .ref iz, .int 0, .ref mb, .int 0, .int 0, .int 0, .int 0, .int 0, .int 0, .int 0])), (mw, .inl (ct 0, 958, .inl m_w0))] := hD
  refine lv_icmp_eq (tgt := 3623) hx hb dL_law_2519 (by decide) (fun _ => ?_) (fun hc => absurd (by decide) hc)
  exact law_end C1 hS (lv_sub hl [0, 5] rfl) (Nat.le_of_ble_eq_true rfl) (Nat.le_of_ble_eq_true rfl)
