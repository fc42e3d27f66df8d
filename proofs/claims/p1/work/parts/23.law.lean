theorem dL_law_2524 : decode cL_law 2524 = .ok (.aload_n 1, 1) := by decide +kernel
theorem dL_law_2525 : decode cL_law 2525 = .ok (.invokevirtual 315, 3) := by decide +kernel
theorem dL_law_2528 : decode cL_law 2528 = .ok (.aload_n 2, 1) := by decide +kernel
theorem dL_law_2529 : decode cL_law 2529 = .ok (.invokevirtual 318, 3) := by decide +kernel
theorem dL_law_2532 : decode cL_law 2532 = .ok (.if_icmp .eq 1091, 3) := by decide +kernel
set_option maxRecDepth 100000 in
set_option maxHeartbeats 4000000 in
theorem law_40 {p : Program} {l : Launch} {e : Env} {s : State} {m : MethodId} {below : List Frame} {meth : Method} {c : Code} {D : va_G} {ct : Nat → ClassId} {A : Nat → Prop} {b : Nat} {xs : Nat → Int32} {H : Heap} {locs : List Loc} {ls : Array Slot} (hfl : l.stackTraces = false) (C1 : cmL p s m meth c D ct A b 4 xs) (x : Nat) (w : Nat) (sp : Nat) (sv : Nat) (bu : Nat) (w_se : Nat) (w_cu : Nat) (w_pr : Nat) (w_ch : Nat) (w_re : Nat) (w_lo : Nat) (mo : Nat) (mw : Nat) (ma : Nat) (mf : Nat) (m0 : Nat) (m1 : Nat) (mu : Nat) (mv : Nat) (u0 : Nat) (u1 : Nat) (iz : Nat) (mb : Nat) (ov : Nat) (od : Nat) (hP : va_P D vwCl [(x, .inr (10, [.ref w, .ref sp, .ref sv, .ref bu, .int 0, .int 0])), (w, .inr (9, [.int 0, .ref w_se, .ref w_cu, .ref w_pr, .int 0, .ref w_ch, .ref w_re, .ref w_lo])), (mo, .inr (11, [.ref mw, .ref ma, .ref mf, .ref m0, .ref m1, .ref mu, .ref mv, .ref u0, .ref u1, .ref iz, .int 0, .ref mb, .int 0, .int 0, .int 0, .int 0, .int 0, .int 0, .int 0])), (mw, .inl (ct 0, 958, .inl m_w0))] H) (hD : va_D A [(x, .inr (10, [.ref w, .ref sp, .ref sv, .ref bu, .int 0, .int 0])), (w, .inr (9, [.int 0, .ref w_se, .ref w_cu, .ref w_pr, .int 0, .ref w_ch, .ref w_re, .ref w_lo])), (mo, .inr (11, [.ref mw, .ref ma, .ref mf, .ref m0, .ref m1, .ref mu, .ref mv, .ref u0, .ref u1, .ref iz, .int 0, .ref mb, .int 0, .int 0, .int 0, .int 0, .int 0, .int 0, .int 0])), (mw, .inl (ct 0, 958, .inl m_w0))]) (hS : va_S A s.heap H locs) (hl : lv_has ls 9 [(0, .ref b), (1, .ref x), (2, .ref mo), (3, .ref ov), (4, .ref od), (5, .int 0)]) : W p l e room_1 s m #[Value.ref b] below meth c H locs 157 8795 (lw_Z below #[Value.ref b] s) (F0 m 2524 ls []) := by
  obtain ⟨hx, hb, hr, hml, hown, hts, hK, hX, hXs, hbl, hbA, hA, hAr, hlocks⟩ := id C1
  refine lv_aload_n hx hb dL_law_2524 rfl (lv_at hl 1 rfl) ?_
  refine cm_ki (wr := [(mo, .inr (11, [.ref mw, .ref ma, .ref mf, .ref m0, .ref m1, .ref mu, .ref mv, .ref u0, .ref u1, .ref iz, .int 0, .ref mb, .int 0, .int 0, .int 0, .int 0, .int 0, .int 0, .int 0])), (mw, .inl (ct 0, 958, .inl m_w0))]) (va_runV (As := []) (rest := []) ⟨hx, hb, hml, hown, hts⟩ (c_hottest_0 l D ct x w sp sv bu w_se w_cu w_pr w_ch w_re w_lo _) (cm_V 0 hts kc_X10_hottest ki_RX10 kl_RL_315 kv_X10_hottest kx_X10_hottest kd_X10_hottest ⟨Nat.le_of_ble_eq_true rfl, Nat.le_of_ble_eq_true rfl⟩) (cm_preV hP hK hD hS hA hX [0, 1] rfl rfl rfl (q0 := 0) (ci := 10) rfl rfl) rfl rfl hl.1 rfl (lv_room (Nat.le_of_ble_eq_true rfl)) dL_law_2525 ⟨Nat.le_of_ble_eq_true rfl, Nat.le_of_ble_eq_true rfl⟩) hP hD hS hA [0, 1] [2, 3] rfl rfl rfl (by decide) (fun r_1 u H locs hw_2 hP hD hS => ?_)
  have hw_2 : r_1 = (-1) := hw_2
  obtain rfl := hw_2
  have hP : va_P D vwCl [(mo, .inr (11, [.ref mw, .ref ma, .ref mf, .ref m0, .ref m1, .ref mu, .ref mv, .ref u0, .ref u1, .ref iz, .int 0, .ref mb, .int 0, .int 0, .int 0, .int 0, .int 0, .int 0, .int 0])), (mw, .inl (ct 0, 958, .inl m_w0)), (x, .inr (10, [.ref w, .ref sp, .ref sv, .ref bu, .int 0, .int 0])), (w, .inr (9, [.int 0, .ref w_se, .ref w_cu, .ref w_pr, .int 0, .ref w_ch, .ref w_re, .ref w_lo]))] H := hP
  have hD : va_D A [(mo, .inr (11, [.ref mw, .ref ma, .ref mf, .ref m0, .ref m1, .ref mu, .ref mv, .ref u0, .ref u1, .ref iz, .int 0, .ref mb, .int 0, .int 0, .int 0, .int 0, .int 0, .int 0, .int 0])), (mw, .inl (ct 0, 958, .inl m_w0)), (x, .inr (10, [.ref w, .ref sp, .ref sv, .ref bu, .int 0, .int 0])), (w, .inr (9, [.int 0, .ref w_se, .ref w_cu, .ref w_pr, .int 0, .ref w_ch, .ref w_re, .ref w_lo]))] := hD
  refine lv_aload_n hx hb dL_law_2528 rfl (lv_at hl 2 rfl) ?_
  refine cm_ki (wr := [(x, .inr (10, [.ref w, .ref sp, .ref sv, .ref bu, .int 0, .int 0])), (w, .inr (9, [.int 0, .ref w_se, .ref w_cu, .ref w_pr, .int 0, .ref w_ch, .ref w_re, .ref w_lo]))]) (va_runV (As := []) (rest := [.int (-1)]) ⟨hx, hb, hml, hown, hts⟩ (m_hottest_0 l D ct mo mw ma mf m0 m1 mu mv u0 u1 iz mb _) (cm_V 0 hts kc_X11_hottest ki_RX11 kl_RL_318 kv_X11_hottest kx_X11_hottest kd_X11_hottest ⟨Nat.le_of_ble_eq_true rfl, Nat.le_of_ble_eq_true rfl⟩) (cm_preV hP hK hD hS hA hX [0, 1] rfl rfl rfl (q0 := 0) (ci := 11) rfl rfl) rfl rfl hl.1 rfl (lv_room (Nat.le_of_ble_eq_true rfl)) dL_law_2529 ⟨Nat.le_of_ble_eq_true rfl, Nat.le_of_ble_eq_true rfl⟩) hP hD hS hA [0, 1] [2, 3] rfl rfl rfl (by decide) (fun r_3 u H locs hw_4 hP hD hS => ?_)
  have hw_4 : r_3 = (-1) := hw_4
  obtain rfl := hw_4
  have hP : va_P D vwCl [(x, .inr (10, [.ref w, .ref sp, .ref sv, .ref bu, .int 0, .int 0])), (w, .inr (9, [.int 0, .ref w_se, .ref w_cu, .ref w_pr, .int 0, .ref w_ch, .ref w_re, .ref w_lo])), (mo, .inr (11, [.ref mw, .ref ma, .ref mf, .ref m0, .ref m1, .ref mu, .ref mv, .ref u0, .ref u1, .ref iz, .int 0, .ref mb, .int 0, .int 0, .int 0, .int 0, .int 0, .int 0, .int 0])), (mw, .inl (ct 0, 958, .inl m_w0))] H := hP
  have hD : va_D A [(x, .inr (10, [.ref w, .ref sp, .ref sv, .ref bu, .int 0, .int 0])), (w, .inr (9, [.int 0, .ref w_se, .ref w_cu, .ref w_pr, .int 0, .ref w_ch, .ref w_re, .ref w_lo])), (mo, .inr (11, [.ref mw, .ref ma, .ref mf, .ref m0, .ref m1, .ref mu, .ref mv, .ref u0, .ref u1, .ref iz, .int 0, .ref mb, .int 0, .int 0, .int 0, .int 0, .int 0, .int 0, .int 0])), (mw, .inl (ct 0, 958, .inl m_w0))] := hD
  refine lv_icmp_eq (tgt := 3623) hx hb dL_law_2532 (by decide) (fun _ => ?_) (fun hc => absurd (by decide) hc)
  exact law_end C1 hS (lv_sub hl [0, 5] rfl) (Nat.le_of_ble_eq_true rfl) (Nat.le_of_ble_eq_true rfl)
theorem dL_law_2537 : decode cL_law 2537 = .ok (.aload_n 1, 1) := by decide +kernel
theorem dL_law_2538 : decode cL_law 2538 = .ok (.invokevirtual 319, 3) := by decide +kernel
theorem dL_law_2541 : decode cL_law 2541 = .ok (.aload_n 2, 1) := by decide +kernel
theorem dL_law_2542 : decode cL_law 2542 = .ok (.invokevirtual 322, 3) := by decide +kernel
theorem dL_law_2545 : decode cL_law 2545 = .ok (.if_icmp .eq 1078, 3) := by decide +kernel
set_option maxRecDepth 100000 in
set_option maxHeartbeats 4000000 in
theorem law_41 {p : Program} {l : Launch} {e : Env} {s : State} {m : MethodId} {below : List Frame} {meth : Method} {c : Code} {D : va_G} {ct : Nat → ClassId} {A : Nat → Prop} {b : Nat} {xs : Nat → Int32} {H : Heap} {locs : List Loc} {ls : Array Slot} (hfl : l.stackTraces = false) (C1 : cmL p s m meth c D ct A b 4 xs) (x : Nat) (w : Nat) (sp : Nat) (sv : Nat) (bu : Nat) (w_se : Nat) (w_cu : Nat) (w_pr : Nat) (w_ch : Nat) (w_re : Nat) (w_lo : Nat) (w_ra : Nat) (mo : Nat) (mw : Nat) (ma : Nat) (mf : Nat) (m0 : Nat) (m1 : Nat) (mu : Nat) (mv : Nat) (u0 : Nat) (u1 : Nat) (iz : Nat) (mb : Nat) (ov : Nat) (od : Nat) (hP : va_P D vwCl [(x, .inr (10, [.ref w, .ref sp, .ref sv, .ref bu, .int 0, .int 0])), (w, .inr (9, [.int 0, .ref w_se, .ref w_cu, .ref w_pr, .int 0, .ref w_ch, .ref w_re, .ref w_lo])), (w_re, .inr (8, [.int 30, .int 5, .ref w_ra, .int 0, .int 0])), (mo, .inr (11, [.ref mw, .ref ma, .ref mf, .ref m0, .ref m1, .ref mu, .ref mv, .ref u0, .ref u1, .ref iz, .int 0, .ref mb, .int 0, .int 0, .int 0, .int 0, .int 0, .int 0, .int 0])), (mw, .inl (ct 0, 958, .inl m_w0))] H) (hD : va_D A [(x, .inr (10, [.ref w, .ref sp, .ref sv, .ref bu, .int 0, .int 0])), (w, .inr (9, [.int 0, .ref w_se, .ref w_cu, .ref w_pr, .int 0, .ref w_ch, .ref w_re, .ref w_lo])), (w_re, .inr (8, [.int 30, .int 5, .ref w_ra, .int 0, .int 0])), (mo, .inr (11, [.ref mw, .ref ma, .ref mf, .ref m0, .ref m1, .ref mu, .ref mv, .ref u0, .ref u1, .ref iz, .int 0, .ref mb, .int 0, .int 0, .int 0, .int 0, .int 0, .int 0, .int 0])), (mw, .inl (ct 0, 958, .inl m_w0))]) (hS : va_S A s.heap H locs) (hl : lv_has ls 9 [(0, .ref b), (1, .ref x), (2, .ref mo), (3, .ref ov), (4, .ref od), (5, .int 0)]) : W p l e room_1 s m #[Value.ref b] below meth c H locs 157 8795 (lw_Z below #[Value.ref b] s) (F0 m 2537 ls []) := by
  obtain ⟨hx, hb, hr, hml, hown, hts, hK, hX, hXs, hbl, hbA, hA, hAr, hlocks⟩ := id C1
  refine lv_aload_n hx hb dL_law_2537 rfl (lv_at hl 1 rfl) ?_
  refine cm_ki (wr := [(mo, .inr (11, [.ref mw, .ref ma, .ref mf, .ref m0, .ref m1, .ref mu, .ref mv, .ref u0, .ref u1, .ref iz, .int 0, .ref mb, .int 0, .int 0, .int 0, .int 0, .int 0, .int 0, .int 0])), (mw, .inl (ct 0, 958, .inl m_w0))]) (va_runV (As := []) (rest := []) ⟨hx, hb, hml, hown, hts⟩ (c_recordCount_0 l D ct x w sp sv bu w_se w_cu w_pr w_ch w_re w_lo w_ra _) (cm_V 0 hts kc_X10_recordCount ki_RX10 kl_RL_319 kv_X10_recordCount kx_X10_recordCount kd_X10_recordCount ⟨Nat.le_of_ble_eq_true rfl, Nat.le_of_ble_eq_true rfl⟩) (cm_preV hP hK hD hS hA hX [0, 1, 2] rfl rfl rfl (q0 := 0) (ci := 10) rfl rfl) rfl rfl hl.1 rfl (lv_room (Nat.le_of_ble_eq_true rfl)) dL_law_2538 ⟨Nat.le_of_ble_eq_true rfl, Nat.le_of_ble_eq_true rfl⟩) hP hD hS hA [0, 1, 2] [3, 4] rfl rfl rfl (by decide) (fun r_1 u H locs hw_2 hP hD hS => ?_)
  have hw_2 : r_1 = 0 := hw_2
  obtain rfl := hw_2
  have hP : va_P D vwCl [(mo, .inr (11, [.ref mw, .ref ma, .ref mf, .ref m0, .ref m1, .ref mu, .ref mv, .ref u0, .ref u1, .ref iz, .int 0, .ref mb, .int 0, .int 0, .int 0, .int 0, .int 0, .int 0, .int 0])), (mw, .inl (ct 0, 958, .inl m_w0)), (x, .inr (10, [.ref w, .ref sp, .ref sv, .ref bu, .int 0, .int 0])), (w, .inr (9, [.int 0, .ref w_se, .ref w_cu, .ref w_pr, .int 0, .ref w_ch, .ref w_re, .ref w_lo])), (w_re, .inr (8, [.int 30, .int 5, .ref w_ra, .int 0, .int 0]))] H := hP
  have hD : va_D A [(mo, .inr (11, [.ref mw, .ref ma, .ref mf, .ref m0, .ref m1, .ref mu, .ref mv, .ref u0, .ref u1, .ref iz, .int 0, .ref mb, .int 0, .int 0, .int 0, .int 0, .int 0, .int 0, .int 0])), (mw, .inl (ct 0, 958, .inl m_w0)), (x, .inr (10, [.ref w, .ref sp, .ref sv, .ref bu, .int 0, .int 0])), (w, .inr (9, [.int 0, .ref w_se, .ref w_cu, .ref w_pr, .int 0, .ref w_ch, .ref w_re, .ref w_lo])), (w_re, .inr (8, [.int 30, .int 5, .ref w_ra, .int 0, .int 0]))] := hD
  refine lv_aload_n hx hb dL_law_2541 rfl (lv_at hl 2 rfl) ?_
  refine cm_ki (wr := [(x, .inr (10, [.ref w, .ref sp, .ref sv, .ref bu, .int 0, .int 0])), (w, .inr (9, [.int 0, .ref w_se, .ref w_cu, .ref w_pr, .int 0, .ref w_ch, .ref w_re, .ref w_lo])), (w_re, .inr (8, [.int 30, .int 5, .ref w_ra, .int 0, .int 0]))]) (va_runV (As := []) (rest := [.int 0]) ⟨hx, hb, hml, hown, hts⟩ (m_recordCount_0 l D ct mo mw ma mf m0 m1 mu mv u0 u1 iz mb _) (cm_V 0 hts kc_X11_recordCount ki_RX11 kl_RL_322 kv_X11_recordCount kx_X11_recordCount kd_X11_recordCount ⟨Nat.le_of_ble_eq_true rfl, Nat.le_of_ble_eq_true rfl⟩) (cm_preV hP hK hD hS hA hX [0, 1] rfl rfl rfl (q0 := 0) (ci := 11) rfl rfl) rfl rfl hl.1 rfl (lv_room (Nat.le_of_ble_eq_true rfl)) dL_law_2542 ⟨Nat.le_of_ble_eq_true rfl, Nat.le_of_ble_eq_true rfl⟩) hP hD hS hA [0, 1] [2, 3, 4] rfl rfl rfl (by decide) (fun r_3 u H locs hw_4 hP hD hS => ?_)
  have hw_4 : r_3 = 0 := hw_4
  obtain rfl := hw_4
  have hP : va_P D vwCl [(x, .inr (10, [.ref w, .ref sp, .ref sv, .ref bu, .int 0, .int 0])), (w, .inr (9, [.int 0, .ref w_se, .ref w_cu, .ref w_pr, .int 0, .ref w_ch, .ref w_re, .ref w_lo])), (w_re, .inr (8, [.int 30, .int 5, .ref w_ra, .int 0, .int 0])), (mo, .inr (11, [.ref mw, .ref ma, .ref mf, .ref m0, .ref m1, .ref mu, .ref mv, .ref u0, .ref u1, .ref iz, .int 0, .ref mb, .int 0, .int 0, .int 0, .int 0, .int 0, .int 0, .int 0])), (mw, .inl (ct 0, 958, .inl m_w0))] H := hP
  have hD : va_D A [(x, .inr (10, [.ref w, .ref sp, .ref sv, .ref bu, .int 0, .int 0])), (w, .inr (9, [.int 0, .ref w_se, .ref w_cu, .ref w_pr, .int 0, .ref w_ch, .ref w_re, .ref w_lo])), (w_re, .inr (8, [.int 30, .int 5, .ref w_ra, .int 0, .int 0])), (mo, .inr (11, [.ref mw, .ref ma, .ref mf, .ref m0, .ref m1, .ref mu, .ref mv, .ref u0, .ref u1, .ref iz, .int 0, .ref mb, .int 0, .int 0, .int 0, .int 0, .int 0, .int 0, .int 0])), (mw, .inl (ct 0, 958, .inl m_w0))] := hD
  refine lv_icmp_eq (tgt := 3623) hx hb dL_law_2545 (by decide) (fun _ => ?_) (fun hc => absurd (by decide) hc)
  exact law_end C1 hS (lv_sub hl [0, 5] rfl) (Nat.le_of_ble_eq_true rfl) (Nat.le_of_ble_eq_true rfl)
theorem dL_law_2550 : decode cL_law 2550 = .ok (.aload_n 1, 1) := by decide +kernel
theorem dL_law_2551 : decode cL_law 2551 = .ok (.aload_n 0, 1) := by decide +kernel
theorem dL_law_2552 : decode cL_law 2552 = .ok (.iload 5, 2) := by decide +kernel
theorem dL_law_2554 : decode cL_law 2554 = .ok (.iconst 1, 1) := by decide +kernel
theorem dL_law_2555 : decode cL_law 2555 = .ok (.iadd, 1) := by decide +kernel
theorem dL_law_2556 : decode cL_law 2556 = .ok (.iaload, 1) := by decide +kernel
theorem dL_law_2557 : decode cL_law 2557 = .ok (.aload_n 0, 1) := by decide +kernel
theorem dL_law_2558 : decode cL_law 2558 = .ok (.iload 5, 2) := by decide +kernel
theorem dL_law_2560 : decode cL_law 2560 = .ok (.iconst 2, 1) := by decide +kernel
theorem dL_law_2561 : decode cL_law 2561 = .ok (.iadd, 1) := by decide +kernel
theorem dL_law_2562 : decode cL_law 2562 = .ok (.iaload, 1) := by decide +kernel
theorem dL_law_2563 : decode cL_law 2563 = .ok (.aload_n 3, 1) := by decide +kernel
theorem dL_law_2564 : decode cL_law 2564 = .ok (.invokestatic 323, 3) := by decide +kernel
theorem dL_law_2567 : decode cL_law 2567 = .ok (.istore 6, 2) := by decide +kernel
theorem dL_law_2569 : decode cL_law 2569 = .ok (.aload_n 2, 1) := by decide +kernel
theorem dL_law_2570 : decode cL_law 2570 = .ok (.aload_n 0, 1) := by decide +kernel
theorem dL_law_2571 : decode cL_law 2571 = .ok (.iload 5, 2) := by decide +kernel
theorem dL_law_2573 : decode cL_law 2573 = .ok (.iconst 1, 1) := by decide +kernel
theorem dL_law_2574 : decode cL_law 2574 = .ok (.iadd, 1) := by decide +kernel
theorem dL_law_2575 : decode cL_law 2575 = .ok (.iaload, 1) := by decide +kernel
theorem dL_law_2576 : decode cL_law 2576 = .ok (.aload_n 0, 1) := by decide +kernel
theorem dL_law_2577 : decode cL_law 2577 = .ok (.iload 5, 2) := by decide +kernel
theorem dL_law_2579 : decode cL_law 2579 = .ok (.iconst 2, 1) := by decide +kernel
theorem dL_law_2580 : decode cL_law 2580 = .ok (.iadd, 1) := by decide +kernel
theorem dL_law_2581 : decode cL_law 2581 = .ok (.iaload, 1) := by decide +kernel
theorem dL_law_2582 : decode cL_law 2582 = .ok (.invokevirtual 325, 3) := by decide +kernel
theorem dL_law_2585 : decode cL_law 2585 = .ok (.istore 7, 2) := by decide +kernel
theorem dL_law_2587 : decode cL_law 2587 = .ok (.aload_n 2, 1) := by decide +kernel
theorem dL_law_2588 : decode cL_law 2588 = .ok (.invokevirtual 202, 3) := by decide +kernel
theorem dL_law_2591 : decode cL_law 2591 = .ok (.iload 6, 2) := by decide +kernel
theorem dL_law_2593 : decode cL_law 2593 = .ok (.if_icmp .eq 5, 3) := by decide +kernel
theorem dL_law_2598 : decode cL_law 2598 = .ok (.iload 6, 2) := by decide +kernel
theorem dL_law_2600 : decode cL_law 2600 = .ok (.ifCond .ne 15, 3) := by decide +kernel
theorem dL_law_2603 : decode cL_law 2603 = .ok (.aload_n 3, 1) := by decide +kernel
theorem dL_law_2604 : decode cL_law 2604 = .ok (.iconst 0, 1) := by decide +kernel
theorem dL_law_2605 : decode cL_law 2605 = .ok (.laload, 1) := by decide +kernel
theorem dL_law_2606 : decode cL_law 2606 = .ok (.iload 7, 2) := by decide +kernel
theorem dL_law_2608 : decode cL_law 2608 = .ok (.i2l, 1) := by decide +kernel
theorem dL_law_2609 : decode cL_law 2609 = .ok (.lcmp, 1) := by decide +kernel
theorem dL_law_2610 : decode cL_law 2610 = .ok (.ifCond .eq 5, 3) := by decide +kernel
theorem dL_law_2615 : decode cL_law 2615 = .ok (.goto 1008, 3) := by decide +kernel
set_option maxRecDepth 100000 in
set_option maxHeartbeats 4000000 in
theorem law_42 {p : Program} {l : Launch} {e : Env} {s : State} {m : MethodId} {below : List Frame} {meth : Method} {c : Code} {D : va_G} {ct : Nat → ClassId} {A : Nat → Prop} {b : Nat} {xs : Nat → Int32} {H : Heap} {locs : List Loc} {ls : Array Slot} (hfl : l.stackTraces = false) (C1 : cmL p s m meth c D ct A b 4 xs) (x : Nat) (w : Nat) (sp : Nat) (sv : Nat) (bu : Nat) (w_se : Nat) (w_cu : Nat) (w_pr : Nat) (w_ch : Nat) (w_re : Nat) (w_lo : Nat) (w_ra : Nat) (mo : Nat) (mw : Nat) (ma : Nat) (mf : Nat) (m0 : Nat) (m1 : Nat) (mu : Nat) (mv : Nat) (u0 : Nat) (u1 : Nat) (iz : Nat) (mb : Nat) (ov : Nat) (od : Nat) (hP : va_P D vwCl [(x, .inr (10, [.ref w, .ref sp, .ref sv, .ref bu, .int 0, .int 0])), (w, .inr (9, [.int 0, .ref w_se, .ref w_cu, .ref w_pr, .int 0, .ref w_ch, .ref w_re, .ref w_lo])), (w_re, .inr (8, [.int 30, .int 5, .ref w_ra, .int 0, .int 0])), (mo, .inr (11, [.ref mw, .ref ma, .ref mf, .ref m0, .ref m1, .ref mu, .ref mv, .ref u0, .ref u1, .ref iz, .int 0, .ref mb, .int 0, .int 0, .int 0, .int 0, .int 0, .int 0, .int 0])), (mw, .inl (ct 0, 958, .inl m_w0)), (ov, .inl (ct 1, 1, .inr (.inl (fun _ => 0))))] H) (hD : va_D A [(x, .inr (10, [.ref w, .ref sp, .ref sv, .ref bu, .int 0, .int 0])), (w, .inr (9, [.int 0, .ref w_se, .ref w_cu, .ref w_pr, .int 0, .ref w_ch, .ref w_re, .ref w_lo])), (w_re, .inr (8, [.int 30, .int 5, .ref w_ra, .int 0, .int 0])), (mo, .inr (11, [.ref mw, .ref ma, .ref mf, .ref m0, .ref m1, .ref mu, .ref mv, .ref u0, .ref u1, .ref iz, .int 0, .ref mb, .int 0, .int 0, .int 0, .int 0, .int 0, .int 0, .int 0])), (mw, .inl (ct 0, 958, .inl m_w0)), (ov, .inl (ct 1, 1, .inr (.inl (fun _ => 0))))]) (hS : va_S A s.heap H locs) (hl : lv_has ls 9 [(0, .ref b), (1, .ref x), (2, .ref mo), (3, .ref ov), (4, .ref od), (5, .int 0)]) : W p l e room_1 s m #[Value.ref b] below meth c H locs 157 8795 (lw_Z below #[Value.ref b] s) (F0 m 2550 ls []) := by
  obtain ⟨hx, hb, hr, hml, hown, hts, hK, hX, hXs, hbl, hbA, hA, hAr, hlocks⟩ := id C1
  refine lv_aload_n hx hb dL_law_2550 rfl (lv_at hl 1 rfl) ?_
  refine lv_aload_n hx hb dL_law_2551 rfl (lv_at hl 0 rfl) ?_
  refine lv_iload hx hb dL_law_2552 (lv_at hl 5 rfl) ?_
  refine lv_iconst (v := 1) hx hb dL_law_2554 (by decide) ?_
  refine lv_iadd hx hb dL_law_2555 ?_
  refine cm_cst (y := 1) (by decide) ?_
  refine va_sld hx hb hXs hbl hbA hS (cm_vin (by decide)) dL_law_2556 ?_
  refine lv_aload_n hx hb dL_law_2557 rfl (lv_at hl 0 rfl) ?_
  refine lv_iload hx hb dL_law_2558 (lv_at hl 5 rfl) ?_
  refine lv_iconst (v := 2) hx hb dL_law_2560 (by decide) ?_
  refine lv_iadd hx hb dL_law_2561 ?_
  refine cm_cst (y := 2) (by decide) ?_
  refine va_sld hx hb hXs hbl hbA hS (cm_vin (by decide)) dL_law_2562 ?_
  refine lv_aload_n hx hb dL_law_2563 rfl (lv_at hl 3 rfl) ?_
  refine cm_ki (wr := [(mo, .inr (11, [.ref mw, .ref ma, .ref mf, .ref m0, .ref m1, .ref mu, .ref mv, .ref u0, .ref u1, .ref iz, .int 0, .ref mb, .int 0, .int 0, .int 0, .int 0, .int 0, .int 0, .int 0])), (mw, .inl (ct 0, 958, .inl m_w0))]) (vx_runSW (As := [.ref x, .int (xs (1 : Int32).toNatClampNeg), .int (xs (2 : Int32).toNatClampNeg), .ref ov]) (rest := []) ⟨hx, hb, hml, hown, hts⟩ (l_record l hfl D ct x w sp sv bu w_se w_cu w_pr w_ch w_re w_lo w_ra ov (fun _ => 0) (xs (1 : Int32).toNatClampNeg) (xs (2 : Int32).toNatClampNeg) _) (cm_SW 4 hts kw_L_record ki_RL kl_RL_323 ks_L_record kd_L_record ⟨Nat.le_of_ble_eq_true rfl, Nat.le_of_ble_eq_true rfl⟩) (cm_preS hP hK hD hS hA hX [0, 1, 2, 5] rfl rfl rfl) rfl rfl hl.1 rfl (lv_room (Nat.le_of_ble_eq_true rfl)) dL_law_2564 ⟨Nat.le_of_ble_eq_true rfl, Nat.le_of_ble_eq_true rfl⟩) hP hD hS hA [0, 1, 2, 5] [3, 4] rfl rfl rfl (by decide) (fun r_1 u H locs hw_2 hP hD hS => ?_)
  obtain ⟨g_3, rfl⟩ : ∃ z, z = u := ⟨_, rfl⟩
  have hw_2 : (r_1 = 0 ∧ (0 ≤ (xs (2 : Int32).toNatClampNeg) ∧ (xs (2 : Int32).toNatClampNeg) ≤ 5) ∧ g_3 (0 : Int32).toNatClampNeg = (-1)) ∨ (r_1 = 1 ∧ ((xs (2 : Int32).toNatClampNeg) < 0 ∨ 5 < (xs (2 : Int32).toNatClampNeg))) := hw_2
  have hP : va_P D vwCl [(mo, .inr (11, [.ref mw, .ref ma, .ref mf, .ref m0, .ref m1, .ref mu, .ref mv, .ref u0, .ref u1, .ref iz, .int 0, .ref mb, .int 0, .int 0, .int 0, .int 0, .int 0, .int 0, .int 0])), (mw, .inl (ct 0, 958, .inl m_w0)), (ov, .inl (ct 1, 1, .inr (.inl g_3)))] H := hP
  have hD : va_D A [(mo, .inr (11, [.ref mw, .ref ma, .ref mf, .ref m0, .ref m1, .ref mu, .ref mv, .ref u0, .ref u1, .ref iz, .int 0, .ref mb, .int 0, .int 0, .int 0, .int 0, .int 0, .int 0, .int 0])), (mw, .inl (ct 0, 958, .inl m_w0)), (ov, .inl (ct 1, 1, .inr (.inl g_3)))] := hD
  refine W.widen (k := 158) (n := 8801) (Nat.le_of_ble_eq_true rfl) (Nat.le_of_ble_eq_true rfl) ?_
  refine lv_istore (lv' := [(6, .int r_1), (0, .ref b), (1, .ref x), (2, .ref mo), (3, .ref ov), (4, .ref od), (5, .int 0)]) hx hb dL_law_2567 hl (by decide) rfl (fun ls hl => ?_)
  refine lv_aload_n hx hb dL_law_2569 rfl (lv_at hl 3 rfl) ?_
  refine lv_aload_n hx hb dL_law_2570 rfl (lv_at hl 1 rfl) ?_
  refine lv_iload hx hb dL_law_2571 (lv_at hl 6 rfl) ?_
  refine lv_iconst (v := 1) hx hb dL_law_2573 (by decide) ?_
  refine lv_iadd hx hb dL_law_2574 ?_
  refine cm_cst (y := 1) (by decide) ?_
  refine va_sld hx hb hXs hbl hbA hS (cm_vin (by decide)) dL_law_2575 ?_
  refine lv_aload_n hx hb dL_law_2576 rfl (lv_at hl 1 rfl) ?_
  refine lv_iload hx hb dL_law_2577 (lv_at hl 6 rfl) ?_
  refine lv_iconst (v := 2) hx hb dL_law_2579 (by decide) ?_
  refine lv_iadd hx hb dL_law_2580 ?_
  refine cm_cst (y := 2) (by decide) ?_
  refine va_sld hx hb hXs hbl hbA hS (cm_vin (by decide)) dL_law_2581 ?_
  refine cm_ki (wr := [(ov, .inl (ct 1, 1, .inr (.inl g_3)))]) (va_runV (As := [.int (xs (1 : Int32).toNatClampNeg), .int (xs (2 : Int32).toNatClampNeg)]) (rest := []) ⟨hx, hb, hml, hown, hts⟩ (m_record_0 l D ct mo mw ma mf m0 m1 mu mv u0 u1 iz mb (xs (1 : Int32).toNatClampNeg) (xs (2 : Int32).toNatClampNeg) _) (cm_V 2 hts kc_X11_record ki_RX11 kl_RL_325 kv_X11_record kx_X11_record kd_X11_record ⟨Nat.le_of_ble_eq_true rfl, Nat.le_of_ble_eq_true rfl⟩) (cm_preV hP hK hD hS hA hX [0, 1] rfl rfl rfl (q0 := 0) (ci := 11) rfl rfl) rfl rfl hl.1 rfl (lv_room (Nat.le_of_ble_eq_true rfl)) dL_law_2582 ⟨Nat.le_of_ble_eq_true rfl, Nat.le_of_ble_eq_true rfl⟩) hP hD hS hA [0, 1] [2] rfl rfl rfl (by decide) (fun r_4 u H locs hw_5 hP hD hS => ?_)
  obtain ⟨th_6, rfl⟩ : ∃ z, z = u := ⟨_, rfl⟩
  have hw_5 : (th_6 = 0 ∧ (0 ≤ (xs (2 : Int32).toNatClampNeg) ∧ (xs (2 : Int32).toNatClampNeg) ≤ 5) ∧ r_4 = (-1)) ∨ (th_6 = 1 ∧ ((xs (2 : Int32).toNatClampNeg) < 0 ∨ 5 < (xs (2 : Int32).toNatClampNeg))) := hw_5
  have hP : va_P D vwCl [(ov, .inl (ct 1, 1, .inr (.inl g_3))), (mo, .inr (11, [.ref mw, .ref ma, .ref mf, .ref m0, .ref m1, .ref mu, .ref mv, .ref u0, .ref u1, .ref iz, .int th_6, .ref mb, .int 0, .int 0, .int 0, .int 0, .int 0, .int 0, .int 0]))] H := hP
  have hD : va_D A [(ov, .inl (ct 1, 1, .inr (.inl g_3))), (mo, .inr (11, [.ref mw, .ref ma, .ref mf, .ref m0, .ref m1, .ref mu, .ref mv, .ref u0, .ref u1, .ref iz, .int th_6, .ref mb, .int 0, .int 0, .int 0, .int 0, .int 0, .int 0, .int 0]))] := hD
  refine lv_istore (lv' := [(7, .int r_4), (6, .int r_1), (0, .ref b), (1, .ref x), (2, .ref mo), (3, .ref ov), (4, .ref od), (5, .int 0)]) hx hb dL_law_2585 hl (by decide) rfl (fun ls hl => ?_)
  rcases hw_2 with ⟨rfl, hq1, hg⟩ | ⟨rfl, hq1⟩
  · rcases hw_5 with ⟨rfl, hq2, rfl⟩ | ⟨rfl, hq2⟩
    · refine lv_aload_n hx hb dL_law_2587 rfl (lv_at hl 4 rfl) ?_
      refine cm_ki (wr := [(ov, .inl (ct 1, 1, .inr (.inl g_3)))]) (va_runV (As := []) (rest := []) ⟨hx, hb, hml, hown, hts⟩ (m_thrown l D ct mo mw ma mf m0 m1 mu mv u0 u1 iz mb 0 _) (cm_V 0 hts kc_X11_thrown ki_RX11 kl_RL_202 kv_X11_thrown kx_X11_thrown kd_X11_thrown ⟨Nat.le_of_ble_eq_true rfl, Nat.le_of_ble_eq_true rfl⟩) (cm_preV hP hK hD hS hA hX [1] rfl rfl rfl (q0 := 1) (ci := 11) rfl rfl) rfl rfl hl.1 rfl (lv_room (Nat.le_of_ble_eq_true rfl)) dL_law_2588 ⟨Nat.le_of_ble_eq_true rfl, Nat.le_of_ble_eq_true rfl⟩) hP hD hS hA [1] [0] rfl rfl rfl (by decide) (fun r_7 u H locs hw_8 hP hD hS => ?_)
      have hw_8 : r_7 = 0 := hw_8
      obtain rfl := hw_8
      have hP : va_P D vwCl [(ov, .inl (ct 1, 1, .inr (.inl g_3))), (mo, .inr (11, [.ref mw, .ref ma, .ref mf, .ref m0, .ref m1, .ref mu, .ref mv, .ref u0, .ref u1, .ref iz, .int 0, .ref mb, .int 0, .int 0, .int 0, .int 0, .int 0, .int 0, .int 0]))] H := hP
      have hD : va_D A [(ov, .inl (ct 1, 1, .inr (.inl g_3))), (mo, .inr (11, [.ref mw, .ref ma, .ref mf, .ref m0, .ref m1, .ref mu, .ref mv, .ref u0, .ref u1, .ref iz, .int 0, .ref mb, .int 0, .int 0, .int 0, .int 0, .int 0, .int 0, .int 0]))] := hD
      refine lv_iload hx hb dL_law_2591 (lv_at hl 1 rfl) ?_
      refine lv_icmp_eq (tgt := 2598) hx hb dL_law_2593 (by decide) (fun _ => ?_) (fun hc => absurd (by decide) hc)
      refine lv_iload hx hb dL_law_2598 (lv_at hl 1 rfl) ?_
      refine lv_if_ne (tgt := 2615) hx hb dL_law_2600 (by decide) (fun hc => absurd (by decide) hc) (fun _ => ?_)
      refine lv_aload_n hx hb dL_law_2603 rfl (lv_at hl 5 rfl) ?_
      refine lv_iconst (v := 0) hx hb dL_law_2604 (by decide) ?_
      refine va_lald hx hb hK hP 0 1 rfl rfl (cm_vin (by decide)) dL_law_2605 ?_
      refine cm_cstl (y := (-1)) hg ?_
      refine lv_iload hx hb dL_law_2606 (lv_at hl 0 rfl) ?_
      refine lv_i2l (v := (-1)) hx hb dL_law_2608 (by decide) ?_
      refine W.lcmp hx hb dL_law_2609 ?_
      refine cm_cst (y := 0) (by decide) ?_
      refine lv_if_eq (tgt := 2615) hx hb dL_law_2610 (by decide) (fun _ => ?_) (fun hc => absurd (by decide) hc)
      refine lv_goto (tgt := 3623) hx hb dL_law_2615 (by decide) ?_
      exact law_end C1 hS (lv_sub hl [2, 7] rfl) (Nat.le_of_ble_eq_true rfl) (Nat.le_of_ble_eq_true rfl)
    · exact (cm_no hq1 hq2).elim
  · rcases hw_5 with ⟨rfl, hq2, rfl⟩ | ⟨rfl, hq2⟩
    · exact (cm_no hq2 hq1).elim
    · refine lv_aload_n hx hb dL_law_2587 rfl (lv_at hl 4 rfl) ?_
      refine cm_ki (wr := [(ov, .inl (ct 1, 1, .inr (.inl g_3)))]) (va_runV (As := []) (rest := []) ⟨hx, hb, hml, hown, hts⟩ (m_thrown l D ct mo mw ma mf m0 m1 mu mv u0 u1 iz mb 1 _) (cm_V 0 hts kc_X11_thrown ki_RX11 kl_RL_202 kv_X11_thrown kx_X11_thrown kd_X11_thrown ⟨Nat.le_of_ble_eq_true rfl, Nat.le_of_ble_eq_true rfl⟩) (cm_preV hP hK hD hS hA hX [1] rfl rfl rfl (q0 := 1) (ci := 11) rfl rfl) rfl rfl hl.1 rfl (lv_room (Nat.le_of_ble_eq_true rfl)) dL_law_2588 ⟨Nat.le_of_ble_eq_true rfl, Nat.le_of_ble_eq_true rfl⟩) hP hD hS hA [1] [0] rfl rfl rfl (by decide) (fun r_9 u H locs hw_10 hP hD hS => ?_)
      have hw_10 : r_9 = 1 := hw_10
      obtain rfl := hw_10
      have hP : va_P D vwCl [(ov, .inl (ct 1, 1, .inr (.inl g_3))), (mo, .inr (11, [.ref mw, .ref ma, .ref mf, .ref m0, .ref m1, .ref mu, .ref mv, .ref u0, .ref u1, .ref iz, .int 1, .ref mb, .int 0, .int 0, .int 0, .int 0, .int 0, .int 0, .int 0]))] H := hP
      have hD : va_D A [(ov, .inl (ct 1, 1, .inr (.inl g_3))), (mo, .inr (11, [.ref mw, .ref ma, .ref mf, .ref m0, .ref m1, .ref mu, .ref mv, .ref u0, .ref u1, .ref iz, .int 1, .ref mb, .int 0, .int 0, .int 0, .int 0, .int 0, .int 0, .int 0]))] := hD
      refine lv_iload hx hb dL_law_2591 (lv_at hl 1 rfl) ?_
      refine lv_icmp_eq (tgt := 2598) hx hb dL_law_2593 (by decide) (fun _ => ?_) (fun hc => absurd (by decide) hc)
      refine lv_iload hx hb dL_law_2598 (lv_at hl 1 rfl) ?_
      refine lv_if_ne (tgt := 2615) hx hb dL_law_2600 (by decide) (fun _ => ?_) (fun hc => absurd hc (by decide))
      refine lv_goto (tgt := 3623) hx hb dL_law_2615 (by decide) ?_
      exact law_end C1 hS (lv_sub hl [2, 7] rfl) (Nat.le_of_ble_eq_true rfl) (Nat.le_of_ble_eq_true rfl)
theorem dL_law_2618 : decode cL_law 2618 = .ok (.aload_n 1, 1) := by decide +kernel
theorem dL_law_2619 : decode cL_law 2619 = .ok (.aload_n 0, 1) := by decide +kernel
theorem dL_law_2620 : decode cL_law 2620 = .ok (.iload 5, 2) := by decide +kernel
theorem dL_law_2622 : decode cL_law 2622 = .ok (.iconst 1, 1) := by decide +kernel
theorem dL_law_2623 : decode cL_law 2623 = .ok (.iadd, 1) := by decide +kernel
theorem dL_law_2624 : decode cL_law 2624 = .ok (.iaload, 1) := by decide +kernel
theorem dL_law_2625 : decode cL_law 2625 = .ok (.aload_n 3, 1) := by decide +kernel
theorem dL_law_2626 : decode cL_law 2626 = .ok (.invokestatic 326, 3) := by decide +kernel
theorem dL_law_2629 : decode cL_law 2629 = .ok (.istore 6, 2) := by decide +kernel
theorem dL_law_2631 : decode cL_law 2631 = .ok (.aload_n 2, 1) := by decide +kernel
theorem dL_law_2632 : decode cL_law 2632 = .ok (.aload_n 0, 1) := by decide +kernel
theorem dL_law_2633 : decode cL_law 2633 = .ok (.iload 5, 2) := by decide +kernel
theorem dL_law_2635 : decode cL_law 2635 = .ok (.iconst 1, 1) := by decide +kernel
theorem dL_law_2636 : decode cL_law 2636 = .ok (.iadd, 1) := by decide +kernel
theorem dL_law_2637 : decode cL_law 2637 = .ok (.iaload, 1) := by decide +kernel
theorem dL_law_2638 : decode cL_law 2638 = .ok (.invokevirtual 328, 3) := by decide +kernel
theorem dL_law_2641 : decode cL_law 2641 = .ok (.istore 7, 2) := by decide +kernel
theorem dL_law_2643 : decode cL_law 2643 = .ok (.aload_n 2, 1) := by decide +kernel
theorem dL_law_2644 : decode cL_law 2644 = .ok (.invokevirtual 202, 3) := by decide +kernel
theorem dL_law_2647 : decode cL_law 2647 = .ok (.iload 6, 2) := by decide +kernel
theorem dL_law_2649 : decode cL_law 2649 = .ok (.if_icmp .eq 5, 3) := by decide +kernel
theorem dL_law_2654 : decode cL_law 2654 = .ok (.iload 6, 2) := by decide +kernel
theorem dL_law_2656 : decode cL_law 2656 = .ok (.ifCond .ne 15, 3) := by decide +kernel
theorem dL_law_2671 : decode cL_law 2671 = .ok (.goto 952, 3) := by decide +kernel
set_option maxRecDepth 100000 in
set_option maxHeartbeats 4000000 in
theorem law_43 {p : Program} {l : Launch} {e : Env} {s : State} {m : MethodId} {below : List Frame} {meth : Method} {c : Code} {D : va_G} {ct : Nat → ClassId} {A : Nat → Prop} {b : Nat} {xs : Nat → Int32} {H : Heap} {locs : List Loc} {ls : Array Slot} (hfl : l.stackTraces = false) (C1 : cmL p s m meth c D ct A b 4 xs) (x : Nat) (w : Nat) (sp : Nat) (sv : Nat) (bu : Nat) (w_se : Nat) (w_cu : Nat) (w_pr : Nat) (w_ch : Nat) (w_re : Nat) (w_lo : Nat) (mo : Nat) (mw : Nat) (ma : Nat) (mf : Nat) (m0 : Nat) (m1 : Nat) (mu : Nat) (mv : Nat) (u0 : Nat) (u1 : Nat) (iz : Nat) (mb : Nat) (ov : Nat) (od : Nat) (hP : va_P D vwCl [(x, .inr (10, [.ref w, .ref sp, .ref sv, .ref bu, .int 0, .int 0])), (w, .inr (9, [.int 0, .ref w_se, .ref w_cu, .ref w_pr, .int 0, .ref w_ch, .ref w_re, .ref w_lo])), (mo, .inr (11, [.ref mw, .ref ma, .ref mf, .ref m0, .ref m1, .ref mu, .ref mv, .ref u0, .ref u1, .ref iz, .int 0, .ref mb, .int 0, .int 0, .int 0, .int 0, .int 0, .int 0, .int 0])), (mw, .inl (ct 0, 958, .inl m_w0)), (ov, .inl (ct 1, 1, .inr (.inl (fun _ => 0))))] H) (hD : va_D A [(x, .inr (10, [.ref w, .ref sp, .ref sv, .ref bu, .int 0, .int 0])), (w, .inr (9, [.int 0, .ref w_se, .ref w_cu, .ref w_pr, .int 0, .ref w_ch, .ref w_re, .ref w_lo])), (mo, .inr (11, [.ref mw, .ref ma, .ref mf, .ref m0, .ref m1, .ref mu, .ref mv, .ref u0, .ref u1, .ref iz, .int 0, .ref mb, .int 0, .int 0, .int 0, .int 0, .int 0, .int 0, .int 0])), (mw, .inl (ct 0, 958, .inl m_w0)), (ov, .inl (ct 1, 1, .inr (.inl (fun _ => 0))))]) (hS : va_S A s.heap H locs) (hl : lv_has ls 9 [(0, .ref b), (1, .ref x), (2, .ref mo), (3, .ref ov), (4, .ref od), (5, .int 0)]) : W p l e room_1 s m #[Value.ref b] below meth c H locs 157 8795 (lw_Z below #[Value.ref b] s) (F0 m 2618 ls []) := by
  obtain ⟨hx, hb, hr, hml, hown, hts, hK, hX, hXs, hbl, hbA, hA, hAr, hlocks⟩ := id C1
  refine lv_aload_n hx hb dL_law_2618 rfl (lv_at hl 1 rfl) ?_
  refine lv_aload_n hx hb dL_law_2619 rfl (lv_at hl 0 rfl) ?_
  refine lv_iload hx hb dL_law_2620 (lv_at hl 5 rfl) ?_
  refine lv_iconst (v := 1) hx hb dL_law_2622 (by decide) ?_
  refine lv_iadd hx hb dL_law_2623 ?_
  refine cm_cst (y := 1) (by decide) ?_
  refine va_sld hx hb hXs hbl hbA hS (cm_vin (by decide)) dL_law_2624 ?_
  refine lv_aload_n hx hb dL_law_2625 rfl (lv_at hl 3 rfl) ?_
  refine cm_ki (wr := [(mo, .inr (11, [.ref mw, .ref ma, .ref mf, .ref m0, .ref m1, .ref mu, .ref mv, .ref u0, .ref u1, .ref iz, .int 0, .ref mb, .int 0, .int 0, .int 0, .int 0, .int 0, .int 0, .int 0])), (mw, .inl (ct 0, 958, .inl m_w0))]) (vx_runSW (As := [.ref x, .int (xs (1 : Int32).toNatClampNeg), .ref ov]) (rest := []) ⟨hx, hb, hml, hown, hts⟩ (l_counting l hfl D ct x w sp sv bu w_se w_cu w_pr w_ch w_re w_lo ov (fun _ => 0) (xs (1 : Int32).toNatClampNeg) _) (cm_SW 3 hts kw_L_counting ki_RL kl_RL_326 ks_L_counting kd_L_counting ⟨Nat.le_of_ble_eq_true rfl, Nat.le_of_ble_eq_true rfl⟩) (cm_preS hP hK hD hS hA hX [0, 1, 4] rfl rfl rfl) rfl rfl hl.1 rfl (lv_room (Nat.le_of_ble_eq_true rfl)) dL_law_2626 ⟨Nat.le_of_ble_eq_true rfl, Nat.le_of_ble_eq_true rfl⟩) hP hD hS hA [0, 1, 4] [2, 3] rfl rfl rfl (by decide) (fun r_1 u H locs hw_2 hP hD hS => ?_)
  have hw_2 : r_1 = 1 := hw_2
  obtain rfl := hw_2
  have hP : va_P D vwCl [(mo, .inr (11, [.ref mw, .ref ma, .ref mf, .ref m0, .ref m1, .ref mu, .ref mv, .ref u0, .ref u1, .ref iz, .int 0, .ref mb, .int 0, .int 0, .int 0, .int 0, .int 0, .int 0, .int 0])), (mw, .inl (ct 0, 958, .inl m_w0))] H := hP
  have hD : va_D A [(mo, .inr (11, [.ref mw, .ref ma, .ref mf, .ref m0, .ref m1, .ref mu, .ref mv, .ref u0, .ref u1, .ref iz, .int 0, .ref mb, .int 0, .int 0, .int 0, .int 0, .int 0, .int 0, .int 0])), (mw, .inl (ct 0, 958, .inl m_w0))] := hD
  refine W.widen (k := 158) (n := 8801) (Nat.le_of_ble_eq_true rfl) (Nat.le_of_ble_eq_true rfl) ?_
  refine lv_istore (lv' := [(6, .int 1), (0, .ref b), (1, .ref x), (2, .ref mo), (3, .ref ov), (4, .ref od), (5, .int 0)]) hx hb dL_law_2629 hl (by decide) rfl (fun ls hl => ?_)
  refine lv_aload_n hx hb dL_law_2631 rfl (lv_at hl 3 rfl) ?_
  refine lv_aload_n hx hb dL_law_2632 rfl (lv_at hl 1 rfl) ?_
  refine lv_iload hx hb dL_law_2633 (lv_at hl 6 rfl) ?_
  refine lv_iconst (v := 1) hx hb dL_law_2635 (by decide) ?_
  refine lv_iadd hx hb dL_law_2636 ?_
  refine cm_cst (y := 1) (by decide) ?_
  refine va_sld hx hb hXs hbl hbA hS (cm_vin (by decide)) dL_law_2637 ?_
  refine cm_ki (wr := []) (va_runV (As := [.int (xs (1 : Int32).toNatClampNeg)]) (rest := []) ⟨hx, hb, hml, hown, hts⟩ (m_counting_0 l D ct mo mw ma mf m0 m1 mu mv u0 u1 iz mb (xs (1 : Int32).toNatClampNeg) _) (cm_V 1 hts kc_X11_counting ki_RX11 kl_RL_328 kv_X11_counting kx_X11_counting kd_X11_counting ⟨Nat.le_of_ble_eq_true rfl, Nat.le_of_ble_eq_true rfl⟩) (cm_preV hP hK hD hS hA hX [0, 1] rfl rfl rfl (q0 := 0) (ci := 11) rfl rfl) rfl rfl hl.1 rfl (lv_room (Nat.le_of_ble_eq_true rfl)) dL_law_2638 ⟨Nat.le_of_ble_eq_true rfl, Nat.le_of_ble_eq_true rfl⟩) hP hD hS hA [0, 1] [] rfl rfl rfl (by decide) (fun r_3 u H locs hw_4 hP hD hS => ?_)
  have hP : va_P D vwCl [(mo, .inr (11, [.ref mw, .ref ma, .ref mf, .ref m0, .ref m1, .ref mu, .ref mv, .ref u0, .ref u1, .ref iz, .int 1, .ref mb, .int 0, .int 0, .int 0, .int 0, .int 0, .int 0, .int 0])), (mw, .inl (ct 0, 958, .inl m_w0))] H := hP
  have hD : va_D A [(mo, .inr (11, [.ref mw, .ref ma, .ref mf, .ref m0, .ref m1, .ref mu, .ref mv, .ref u0, .ref u1, .ref iz, .int 1, .ref mb, .int 0, .int 0, .int 0, .int 0, .int 0, .int 0, .int 0])), (mw, .inl (ct 0, 958, .inl m_w0))] := hD
  refine lv_istore (lv' := [(7, .int r_3), (6, .int 1), (0, .ref b), (1, .ref x), (2, .ref mo), (3, .ref ov), (4, .ref od), (5, .int 0)]) hx hb dL_law_2641 hl (by decide) rfl (fun ls hl => ?_)
  refine lv_aload_n hx hb dL_law_2643 rfl (lv_at hl 4 rfl) ?_
  refine cm_ki (wr := [(mw, .inl (ct 0, 958, .inl m_w0))]) (va_runV (As := []) (rest := []) ⟨hx, hb, hml, hown, hts⟩ (m_thrown l D ct mo mw ma mf m0 m1 mu mv u0 u1 iz mb 1 _) (cm_V 0 hts kc_X11_thrown ki_RX11 kl_RL_202 kv_X11_thrown kx_X11_thrown kd_X11_thrown ⟨Nat.le_of_ble_eq_true rfl, Nat.le_of_ble_eq_true rfl⟩) (cm_preV hP hK hD hS hA hX [0] rfl rfl rfl (q0 := 0) (ci := 11) rfl rfl) rfl rfl hl.1 rfl (lv_room (Nat.le_of_ble_eq_true rfl)) dL_law_2644 ⟨Nat.le_of_ble_eq_true rfl, Nat.le_of_ble_eq_true rfl⟩) hP hD hS hA [0] [1] rfl rfl rfl (by decide) (fun r_5 u H locs hw_6 hP hD hS => ?_)
  have hw_6 : r_5 = 1 := hw_6
  obtain rfl := hw_6
  have hP : va_P D vwCl [(mw, .inl (ct 0, 958, .inl m_w0)), (mo, .inr (11, [.ref mw, .ref ma, .ref mf, .ref m0, .ref m1, .ref mu, .ref mv, .ref u0, .ref u1, .ref iz, .int 1, .ref mb, .int 0, .int 0, .int 0, .int 0, .int 0, .int 0, .int 0]))] H := hP
  have hD : va_D A [(mw, .inl (ct 0, 958, .inl m_w0)), (mo, .inr (11, [.ref mw, .ref ma, .ref mf, .ref m0, .ref m1, .ref mu, .ref mv, .ref u0, .ref u1, .ref iz, .int 1, .ref mb, .int 0, .int 0, .int 0, .int 0, .int 0, .int 0, .int 0]))] := hD
  refine lv_iload hx hb dL_law_2647 (lv_at hl 1 rfl) ?_
  refine lv_icmp_eq (tgt := 2654) hx hb dL_law_2649 (by decide) (fun _ => ?_) (fun hc => absurd (by decide) hc)
  refine lv_iload hx hb dL_law_2654 (lv_at hl 1 rfl) ?_
  refine lv_if_ne (tgt := 2671) hx hb dL_law_2656 (by decide) (fun _ => ?_) (fun hc => absurd hc (by decide))
  refine lv_goto (tgt := 3623) hx hb dL_law_2671 (by decide) ?_
  exact law_end C1 hS (lv_sub hl [2, 7] rfl) (Nat.le_of_ble_eq_true rfl) (Nat.le_of_ble_eq_true rfl)
theorem dL_law_2674 : decode cL_law 2674 = .ok (.aload_n 1, 1) := by decide +kernel
theorem dL_law_2675 : decode cL_law 2675 = .ok (.aload_n 0, 1) := by decide +kernel
theorem dL_law_2676 : decode cL_law 2676 = .ok (.iload 5, 2) := by decide +kernel
theorem dL_law_2678 : decode cL_law 2678 = .ok (.iconst 1, 1) := by decide +kernel
theorem dL_law_2679 : decode cL_law 2679 = .ok (.iadd, 1) := by decide +kernel
theorem dL_law_2680 : decode cL_law 2680 = .ok (.iaload, 1) := by decide +kernel
theorem dL_law_2681 : decode cL_law 2681 = .ok (.aload_n 3, 1) := by decide +kernel
theorem dL_law_2682 : decode cL_law 2682 = .ok (.invokestatic 329, 3) := by decide +kernel
theorem dL_law_2685 : decode cL_law 2685 = .ok (.istore 6, 2) := by decide +kernel
theorem dL_law_2687 : decode cL_law 2687 = .ok (.aload_n 2, 1) := by decide +kernel
theorem dL_law_2688 : decode cL_law 2688 = .ok (.aload_n 0, 1) := by decide +kernel
theorem dL_law_2689 : decode cL_law 2689 = .ok (.iload 5, 2) := by decide +kernel
theorem dL_law_2691 : decode cL_law 2691 = .ok (.iconst 1, 1) := by decide +kernel
theorem dL_law_2692 : decode cL_law 2692 = .ok (.iadd, 1) := by decide +kernel
theorem dL_law_2693 : decode cL_law 2693 = .ok (.iaload, 1) := by decide +kernel
theorem dL_law_2694 : decode cL_law 2694 = .ok (.invokevirtual 331, 3) := by decide +kernel
theorem dL_law_2697 : decode cL_law 2697 = .ok (.istore 7, 2) := by decide +kernel
theorem dL_law_2699 : decode cL_law 2699 = .ok (.aload_n 2, 1) := by decide +kernel
theorem dL_law_2700 : decode cL_law 2700 = .ok (.invokevirtual 202, 3) := by decide +kernel
theorem dL_law_2703 : decode cL_law 2703 = .ok (.iload 6, 2) := by decide +kernel
theorem dL_law_2705 : decode cL_law 2705 = .ok (.if_icmp .eq 5, 3) := by decide +kernel
theorem dL_law_2710 : decode cL_law 2710 = .ok (.iload 6, 2) := by decide +kernel
theorem dL_law_2712 : decode cL_law 2712 = .ok (.ifCond .ne 15, 3) := by decide +kernel
theorem dL_law_2727 : decode cL_law 2727 = .ok (.goto 896, 3) := by decide +kernel
set_option maxRecDepth 100000 in
set_option maxHeartbeats 4000000 in
theorem law_44 {p : Program} {l : Launch} {e : Env} {s : State} {m : MethodId} {below : List Frame} {meth : Method} {c : Code} {D : va_G} {ct : Nat → ClassId} {A : Nat → Prop} {b : Nat} {xs : Nat → Int32} {H : Heap} {locs : List Loc} {ls : Array Slot} (hfl : l.stackTraces = false) (C1 : cmL p s m meth c D ct A b 4 xs) (x : Nat) (w : Nat) (sp : Nat) (sv : Nat) (bu : Nat) (w_se : Nat) (w_cu : Nat) (w_pr : Nat) (w_ch : Nat) (w_re : Nat) (w_lo : Nat) (mo : Nat) (mw : Nat) (ma : Nat) (mf : Nat) (m0 : Nat) (m1 : Nat) (mu : Nat) (mv : Nat) (u0 : Nat) (u1 : Nat) (iz : Nat) (mb : Nat) (ov : Nat) (od : Nat) (hP : va_P D vwCl [(x, .inr (10, [.ref w, .ref sp, .ref sv, .ref bu, .int 0, .int 0])), (w, .inr (9, [.int 0, .ref w_se, .ref w_cu, .ref w_pr, .int 0, .ref w_ch, .ref w_re, .ref w_lo])), (mo, .inr (11, [.ref mw, .ref ma, .ref mf, .ref m0, .ref m1, .ref mu, .ref mv, .ref u0, .ref u1, .ref iz, .int 0, .ref mb, .int 0, .int 0, .int 0, .int 0, .int 0, .int 0, .int 0])), (mw, .inl (ct 0, 958, .inl m_w0)), (ov, .inl (ct 1, 1, .inr (.inl (fun _ => 0))))] H) (hD : va_D A [(x, .inr (10, [.ref w, .ref sp, .ref sv, .ref bu, .int 0, .int 0])), (w, .inr (9, [.int 0, .ref w_se, .ref w_cu, .ref w_pr, .int 0, .ref w_ch, .ref w_re, .ref w_lo])), (mo, .inr (11, [.ref mw, .ref ma, .ref mf, .ref m0, .ref m1, .ref mu, .ref mv, .ref u0, .ref u1, .ref iz, .int 0, .ref mb, .int 0, .int 0, .int 0, .int 0, .int 0, .int 0, .int 0])), (mw, .inl (ct 0, 958, .inl m_w0)), (ov, .inl (ct 1, 1, .inr (.inl (fun _ => 0))))]) (hS : va_S A s.heap H locs) (hl : lv_has ls 9 [(0, .ref b), (1, .ref x), (2, .ref mo), (3, .ref ov), (4, .ref od), (5, .int 0)]) : W p l e room_1 s m #[Value.ref b] below meth c H locs 157 8795 (lw_Z below #[Value.ref b] s) (F0 m 2674 ls []) := by
  obtain ⟨hx, hb, hr, hml, hown, hts, hK, hX, hXs, hbl, hbA, hA, hAr, hlocks⟩ := id C1
  refine lv_aload_n hx hb dL_law_2674 rfl (lv_at hl 1 rfl) ?_
  refine lv_aload_n hx hb dL_law_2675 rfl (lv_at hl 0 rfl) ?_
  refine lv_iload hx hb dL_law_2676 (lv_at hl 5 rfl) ?_
  refine lv_iconst (v := 1) hx hb dL_law_2678 (by decide) ?_
  refine lv_iadd hx hb dL_law_2679 ?_
  refine cm_cst (y := 1) (by decide) ?_
  refine va_sld hx hb hXs hbl hbA hS (cm_vin (by decide)) dL_law_2680 ?_
  refine lv_aload_n hx hb dL_law_2681 rfl (lv_at hl 3 rfl) ?_
  refine cm_ki (wr := [(mo, .inr (11, [.ref mw, .ref ma, .ref mf, .ref m0, .ref m1, .ref mu, .ref mv, .ref u0, .ref u1, .ref iz, .int 0, .ref mb, .int 0, .int 0, .int 0, .int 0, .int 0, .int 0, .int 0])), (mw, .inl (ct 0, 958, .inl m_w0))]) (vx_runSW (As := [.ref x, .int (xs (1 : Int32).toNatClampNeg), .ref ov]) (rest := []) ⟨hx, hb, hml, hown, hts⟩ (l_loss l hfl D ct x w sp sv bu w_se w_cu w_pr w_ch w_re w_lo ov (fun _ => 0) (xs (1 : Int32).toNatClampNeg) _) (cm_SW 3 hts kw_L_loss ki_RL kl_RL_329 ks_L_loss kd_L_loss ⟨Nat.le_of_ble_eq_true rfl, Nat.le_of_ble_eq_true rfl⟩) (cm_preS hP hK hD hS hA hX [0, 1, 4] rfl rfl rfl) rfl rfl hl.1 rfl (lv_room (Nat.le_of_ble_eq_true rfl)) dL_law_2682 ⟨Nat.le_of_ble_eq_true rfl, Nat.le_of_ble_eq_true rfl⟩) hP hD hS hA [0, 1, 4] [2, 3] rfl rfl rfl (by decide) (fun r_1 u H locs hw_2 hP hD hS => ?_)
  have hw_2 : r_1 = 1 := hw_2
  obtain rfl := hw_2
  have hP : va_P D vwCl [(mo, .inr (11, [.ref mw, .ref ma, .ref mf, .ref m0, .ref m1, .ref mu, .ref mv, .ref u0, .ref u1, .ref iz, .int 0, .ref mb, .int 0, .int 0, .int 0, .int 0, .int 0, .int 0, .int 0])), (mw, .inl (ct 0, 958, .inl m_w0))] H := hP
  have hD : va_D A [(mo, .inr (11, [.ref mw, .ref ma, .ref mf, .ref m0, .ref m1, .ref mu, .ref mv, .ref u0, .ref u1, .ref iz, .int 0, .ref mb, .int 0, .int 0, .int 0, .int 0, .int 0, .int 0, .int 0])), (mw, .inl (ct 0, 958, .inl m_w0))] := hD
  refine W.widen (k := 158) (n := 8801) (Nat.le_of_ble_eq_true rfl) (Nat.le_of_ble_eq_true rfl) ?_
  refine lv_istore (lv' := [(6, .int 1), (0, .ref b), (1, .ref x), (2, .ref mo), (3, .ref ov), (4, .ref od), (5, .int 0)]) hx hb dL_law_2685 hl (by decide) rfl (fun ls hl => ?_)
  refine lv_aload_n hx hb dL_law_2687 rfl (lv_at hl 3 rfl) ?_
  refine lv_aload_n hx hb dL_law_2688 rfl (lv_at hl 1 rfl) ?_
  refine lv_iload hx hb dL_law_2689 (lv_at hl 6 rfl) ?_
  refine lv_iconst (v := 1) hx hb dL_law_2691 (by decide) ?_
  refine lv_iadd hx hb dL_law_2692 ?_
  refine cm_cst (y := 1) (by decide) ?_
  refine va_sld hx hb hXs hbl hbA hS (cm_vin (by decide)) dL_law_2693 ?_
  refine cm_ki (wr := []) (va_runV (As := [.int (xs (1 : Int32).toNatClampNeg)]) (rest := []) ⟨hx, hb, hml, hown, hts⟩ (m_loss_0 l D ct mo mw ma mf m0 m1 mu mv u0 u1 iz mb (xs (1 : Int32).toNatClampNeg) _) (cm_V 1 hts kc_X11_loss ki_RX11 kl_RL_331 kv_X11_loss kx_X11_loss kd_X11_loss ⟨Nat.le_of_ble_eq_true rfl, Nat.le_of_ble_eq_true rfl⟩) (cm_preV hP hK hD hS hA hX [0, 1] rfl rfl rfl (q0 := 0) (ci := 11) rfl rfl) rfl rfl hl.1 rfl (lv_room (Nat.le_of_ble_eq_true rfl)) dL_law_2694 ⟨Nat.le_of_ble_eq_true rfl, Nat.le_of_ble_eq_true rfl⟩) hP hD hS hA [0, 1] [] rfl rfl rfl (by decide) (fun r_3 u H locs hw_4 hP hD hS => ?_)
  have hP : va_P D vwCl [(mo, .inr (11, [.ref mw, .ref ma, .ref mf, .ref m0, .ref m1, .ref mu, .ref mv, .ref u0, .ref u1, .ref iz, .int 1, .ref mb, .int 0, .int 0, .int 0, .int 0, .int 0, .int 0, .int 0])), (mw, .inl (ct 0, 958, .inl m_w0))] H := hP
  have hD : va_D A [(mo, .inr (11, [.ref mw, .ref ma, .ref mf, .ref m0, .ref m1, .ref mu, .ref mv, .ref u0, .ref u1, .ref iz, .int 1, .ref mb, .int 0, .int 0, .int 0, .int 0, .int 0, .int 0, .int 0])), (mw, .inl (ct 0, 958, .inl m_w0))] := hD
  refine lv_istore (lv' := [(7, .int r_3), (6, .int 1), (0, .ref b), (1, .ref x), (2, .ref mo), (3, .ref ov), (4, .ref od), (5, .int 0)]) hx hb dL_law_2697 hl (by decide) rfl (fun ls hl => ?_)
  refine lv_aload_n hx hb dL_law_2699 rfl (lv_at hl 4 rfl) ?_
  refine cm_ki (wr := [(mw, .inl (ct 0, 958, .inl m_w0))]) (va_runV (As := []) (rest := []) ⟨hx, hb, hml, hown, hts⟩ (m_thrown l D ct mo mw ma mf m0 m1 mu mv u0 u1 iz mb 1 _) (cm_V 0 hts kc_X11_thrown ki_RX11 kl_RL_202 kv_X11_thrown kx_X11_thrown kd_X11_thrown ⟨Nat.le_of_ble_eq_true rfl, Nat.le_of_ble_eq_true rfl⟩) (cm_preV hP hK hD hS hA hX [0] rfl rfl rfl (q0 := 0) (ci := 11) rfl rfl) rfl rfl hl.1 rfl (lv_room (Nat.le_of_ble_eq_true rfl)) dL_law_2700 ⟨Nat.le_of_ble_eq_true rfl, Nat.le_of_ble_eq_true rfl⟩) hP hD hS hA [0] [1] rfl rfl rfl (by decide) (fun r_5 u H locs hw_6 hP hD hS => ?_)
  have hw_6 : r_5 = 1 := hw_6
  obtain rfl := hw_6
  have hP : va_P D vwCl [(mw, .inl (ct 0, 958, .inl m_w0)), (mo, .inr (11, [.ref mw, .ref ma, .ref mf, .ref m0, .ref m1, .ref mu, .ref mv, .ref u0, .ref u1, .ref iz, .int 1, .ref mb, .int 0, .int 0, .int 0, .int 0, .int 0, .int 0, .int 0]))] H := hP
  have hD : va_D A [(mw, .inl (ct 0, 958, .inl m_w0)), (mo, .inr (11, [.ref mw, .ref ma, .ref mf, .ref m0, .ref m1, .ref mu, .ref mv, .ref u0, .ref u1, .ref iz, .int 1, .ref mb, .int 0, .int 0, .int 0, .int 0, .int 0, .int 0, .int 0]))] := hD
  refine lv_iload hx hb dL_law_2703 (lv_at hl 1 rfl) ?_
  refine lv_icmp_eq (tgt := 2710) hx hb dL_law_2705 (by decide) (fun _ => ?_) (fun hc => absurd (by decide) hc)
  refine lv_iload hx hb dL_law_2710 (lv_at hl 1 rfl) ?_
  refine lv_if_ne (tgt := 2727) hx hb dL_law_2712 (by decide) (fun _ => ?_) (fun hc => absurd hc (by decide))
  refine lv_goto (tgt := 3623) hx hb dL_law_2727 (by decide) ?_
  exact law_end C1 hS (lv_sub hl [2, 7] rfl) (Nat.le_of_ble_eq_true rfl) (Nat.le_of_ble_eq_true rfl)
theorem dL_law_2730 : decode cL_law 2730 = .ok (.aload_n 1, 1) := by decide +kernel
theorem dL_law_2731 : decode cL_law 2731 = .ok (.invokevirtual 332, 3) := by decide +kernel
theorem dL_law_2734 : decode cL_law 2734 = .ok (.aload_n 2, 1) := by decide +kernel
theorem dL_law_2735 : decode cL_law 2735 = .ok (.invokevirtual 335, 3) := by decide +kernel
theorem dL_law_2738 : decode cL_law 2738 = .ok (.if_icmp .eq 885, 3) := by decide +kernel
set_option maxRecDepth 100000 in
set_option maxHeartbeats 4000000 in
theorem law_45 {p : Program} {l : Launch} {e : Env} {s : State} {m : MethodId} {below : List Frame} {meth : Method} {c : Code} {D : va_G} {ct : Nat → ClassId} {A : Nat → Prop} {b : Nat} {xs : Nat → Int32} {H : Heap} {locs : List Loc} {ls : Array Slot} (hfl : l.stackTraces = false) (C1 : cmL p s m meth c D ct A b 4 xs) (x : Nat) (w : Nat) (sp : Nat) (sv : Nat) (bu : Nat) (w_se : Nat) (w_cu : Nat) (w_pr : Nat) (w_ch : Nat) (w_re : Nat) (w_lo : Nat) (w_la : Nat) (mo : Nat) (mw : Nat) (ma : Nat) (mf : Nat) (m0 : Nat) (m1 : Nat) (mu : Nat) (mv : Nat) (u0 : Nat) (u1 : Nat) (iz : Nat) (mb : Nat) (ov : Nat) (od : Nat) (hP : va_P D vwCl [(x, .inr (10, [.ref w, .ref sp, .ref sv, .ref bu, .int 0, .int 0])), (w, .inr (9, [.int 0, .ref w_se, .ref w_cu, .ref w_pr, .int 0, .ref w_ch, .ref w_re, .ref w_lo])), (w_lo, .inr (8, [.int 60, .int 4, .ref w_la, .int 0, .int 0])), (mo, .inr (11, [.ref mw, .ref ma, .ref mf, .ref m0, .ref m1, .ref mu, .ref mv, .ref u0, .ref u1, .ref iz, .int 0, .ref mb, .int 0, .int 0, .int 0, .int 0, .int 0, .int 0, .int 0])), (mw, .inl (ct 0, 958, .inl m_w0))] H) (hD : va_D A [(x, .inr (10, [.ref w, .ref sp, .ref sv, .ref bu, .int 0, .int 0])), (w, .inr (9, [.int 0, .ref w_se, .ref w_cu, .ref w_pr, .int 0, .ref w_ch, .ref w_re, .ref w_lo])), (w_lo, .inr (8, [.int 60, .int 4, .ref w_la, .int 0, .int 0])), (mo, .inr (11, [.ref mw, .ref ma, .ref mf, .ref m0, .ref m1, .ref mu, .ref mv, .ref u0, .ref u1, .ref iz, .int 0, .ref mb, .int 0, .int 0, .int 0, .int 0, .int 0, .int 0, .int 0])), (mw, .inl (ct 0, 958, .inl m_w0))]) (hS : va_S A s.heap H locs) (hl : lv_has ls 9 [(0, .ref b), (1, .ref x), (2, .ref mo), (3, .ref ov), (4, .ref od), (5, .int 0)]) : W p l e room_1 s m #[Value.ref b] below meth c H locs 157 8795 (lw_Z below #[Value.ref b] s) (F0 m 2730 ls []) := by
  obtain ⟨hx, hb, hr, hml, hown, hts, hK, hX, hXs, hbl, hbA, hA, hAr, hlocks⟩ := id C1
  refine lv_aload_n hx hb dL_law_2730 rfl (lv_at hl 1 rfl) ?_
  refine cm_ki (wr := [(mo, .inr (11, [.ref mw, .ref ma, .ref mf, .ref m0, .ref m1, .ref mu, .ref mv, .ref u0, .ref u1, .ref iz, .int 0, .ref mb, .int 0, .int 0, .int 0, .int 0, .int 0, .int 0, .int 0])), (mw, .inl (ct 0, 958, .inl m_w0))]) (va_runV (As := []) (rest := []) ⟨hx, hb, hml, hown, hts⟩ (c_logSize_0 l D ct x w sp sv bu w_se w_cu w_pr w_ch w_re w_lo w_la _) (cm_V 0 hts kc_X10_logSize ki_RX10 kl_RL_332 kv_X10_logSize kx_X10_logSize kd_X10_logSize ⟨Nat.le_of_ble_eq_true rfl, Nat.le_of_ble_eq_true rfl⟩) (cm_preV hP hK hD hS hA hX [0, 1, 2] rfl rfl rfl (q0 := 0) (ci := 10) rfl rfl) rfl rfl hl.1 rfl (lv_room (Nat.le_of_ble_eq_true rfl)) dL_law_2731 ⟨Nat.le_of_ble_eq_true rfl, Nat.le_of_ble_eq_true rfl⟩) hP hD hS hA [0, 1, 2] [3, 4] rfl rfl rfl (by decide) (fun r_1 u H locs hw_2 hP hD hS => ?_)
  have hw_2 : r_1 = 0 := hw_2
  obtain rfl := hw_2
  have hP : va_P D vwCl [(mo, .inr (11, [.ref mw, .ref ma, .ref mf, .ref m0, .ref m1, .ref mu, .ref mv, .ref u0, .ref u1, .ref iz, .int 0, .ref mb, .int 0, .int 0, .int 0, .int 0, .int 0, .int 0, .int 0])), (mw, .inl (ct 0, 958, .inl m_w0)), (x, .inr (10, [.ref w, .ref sp, .ref sv, .ref bu, .int 0, .int 0])), (w, .inr (9, [.int 0, .ref w_se, .ref w_cu, .ref w_pr, .int 0, .ref w_ch, .ref w_re, .ref w_lo])), (w_lo, .inr (8, [.int 60, .int 4, .ref w_la, .int 0, .int 0]))] H := hP
  have hD : va_D A [(mo, .inr (11, [.ref mw, .ref ma, .ref mf, .ref m0, .ref m1, .ref mu, .ref mv, .ref u0, .ref u1, .ref iz, .int 0, .ref mb, .int 0, .int 0, .int 0, .int 0, .int 0, .int 0, .int 0])), (mw, .inl (ct 0, 958, .inl m_w0)), (x, .inr (10, [.ref w, .ref sp, .ref sv, .ref bu, .int 0, .int 0])), (w, .inr (9, [.int 0, .ref w_se, .ref w_cu, .ref w_pr, .int 0, .ref w_ch, .ref w_re, .ref w_lo])), (w_lo, .inr (8, [.int 60, .int 4, .ref w_la, .int 0, .int 0]))] := hD
  refine lv_aload_n hx hb dL_law_2734 rfl (lv_at hl 2 rfl) ?_
  refine cm_ki (wr := [(x, .inr (10, [.ref w, .ref sp, .ref sv, .ref bu, .int 0, .int 0])), (w, .inr (9, [.int 0, .ref w_se, .ref w_cu, .ref w_pr, .int 0, .ref w_ch, .ref w_re, .ref w_lo])), (w_lo, .inr (8, [.int 60, .int 4, .ref w_la, .int 0, .int 0]))]) (va_runV (As := []) (rest := [.int 0]) ⟨hx, hb, hml, hown, hts⟩ (m_logSize_0 l D ct mo mw ma mf m0 m1 mu mv u0 u1 iz mb _) (cm_V 0 hts kc_X11_logSize ki_RX11 kl_RL_335 kv_X11_logSize kx_X11_logSize kd_X11_logSize ⟨Nat.le_of_ble_eq_true rfl, Nat.le_of_ble_eq_true rfl⟩) (cm_preV hP hK hD hS hA hX [0, 1] rfl rfl rfl (q0 := 0) (ci := 11) rfl rfl) rfl rfl hl.1 rfl (lv_room (Nat.le_of_ble_eq_true rfl)) dL_law_2735 ⟨Nat.le_of_ble_eq_true rfl, Nat.le_of_ble_eq_true rfl⟩) hP hD hS hA [0, 1] [2, 3, 4] rfl rfl rfl (by decide) (fun r_3 u H locs hw_4 hP hD hS => ?_)
  have hw_4 : r_3 = 0 := hw_4
  obtain rfl := hw_4
  have hP : va_P D vwCl [(x, .inr (10, [.ref w, .ref sp, .ref sv, .ref bu, .int 0, .int 0])), (w, .inr (9, [.int 0, .ref w_se, .ref w_cu, .ref w_pr, .int 0, .ref w_ch, .ref w_re, .ref w_lo])), (w_lo, .inr (8, [.int 60, .int 4, .ref w_la, .int 0, .int 0])), (mo, .inr (11, [.ref mw, .ref ma, .ref mf, .ref m0, .ref m1, .ref mu, .ref mv, .ref u0, .ref u1, .ref iz, .int 0, .ref mb, .int 0, .int 0, .int 0, .int 0, .int 0, .int 0, .int 0])), (mw, .inl (ct 0, 958, .inl m_w0))] H := hP
  have hD : va_D A [(x, .inr (10, [.ref w, .ref sp, .ref sv, .ref bu, .int 0, .int 0])), (w, .inr (9, [.int 0, .ref w_se, .ref w_cu, .ref w_pr, .int 0, .ref w_ch, .ref w_re, .ref w_lo])), (w_lo, .inr (8, [.int 60, .int 4, .ref w_la, .int 0, .int 0])), (mo, .inr (11, [.ref mw, .ref ma, .ref mf, .ref m0, .ref m1, .ref mu, .ref mv, .ref u0, .ref u1, .ref iz, .int 0, .ref mb, .int 0, .int 0, .int 0, .int 0, .int 0, .int 0, .int 0])), (mw, .inl (ct 0, 958, .inl m_w0))] := hD
  refine lv_icmp_eq (tgt := 3623) hx hb dL_law_2738 (by decide) (fun _ => ?_) (fun hc => absurd (by decide) hc)
  exact law_end C1 hS (lv_sub hl [0, 5] rfl) (Nat.le_of_ble_eq_true rfl) (Nat.le_of_ble_eq_true rfl)
theorem dL_law_2743 : decode cL_law 2743 = .ok (.aload_n 1, 1) := by decide +kernel
theorem dL_law_2744 : decode cL_law 2744 = .ok (.aload_n 0, 1) := by decide +kernel
theorem dL_law_2745 : decode cL_law 2745 = .ok (.iload 5, 2) := by decide +kernel
theorem dL_law_2747 : decode cL_law 2747 = .ok (.iconst 1, 1) := by decide +kernel
theorem dL_law_2748 : decode cL_law 2748 = .ok (.iadd, 1) := by decide +kernel
theorem dL_law_2749 : decode cL_law 2749 = .ok (.iaload, 1) := by decide +kernel
theorem dL_law_2750 : decode cL_law 2750 = .ok (.aload_n 0, 1) := by decide +kernel
theorem dL_law_2751 : decode cL_law 2751 = .ok (.iload 5, 2) := by decide +kernel
theorem dL_law_2753 : decode cL_law 2753 = .ok (.iconst 2, 1) := by decide +kernel
theorem dL_law_2754 : decode cL_law 2754 = .ok (.iadd, 1) := by decide +kernel
theorem dL_law_2755 : decode cL_law 2755 = .ok (.iaload, 1) := by decide +kernel
theorem dL_law_2756 : decode cL_law 2756 = .ok (.aload_n 3, 1) := by decide +kernel
theorem dL_law_2757 : decode cL_law 2757 = .ok (.invokestatic 336, 3) := by decide +kernel
theorem dL_law_2760 : decode cL_law 2760 = .ok (.istore 6, 2) := by decide +kernel
theorem dL_law_2762 : decode cL_law 2762 = .ok (.aload_n 2, 1) := by decide +kernel
theorem dL_law_2763 : decode cL_law 2763 = .ok (.aload_n 0, 1) := by decide +kernel
theorem dL_law_2764 : decode cL_law 2764 = .ok (.iload 5, 2) := by decide +kernel
theorem dL_law_2766 : decode cL_law 2766 = .ok (.iconst 1, 1) := by decide +kernel
theorem dL_law_2767 : decode cL_law 2767 = .ok (.iadd, 1) := by decide +kernel
theorem dL_law_2768 : decode cL_law 2768 = .ok (.iaload, 1) := by decide +kernel
theorem dL_law_2769 : decode cL_law 2769 = .ok (.aload_n 0, 1) := by decide +kernel
theorem dL_law_2770 : decode cL_law 2770 = .ok (.iload 5, 2) := by decide +kernel
theorem dL_law_2772 : decode cL_law 2772 = .ok (.iconst 2, 1) := by decide +kernel
theorem dL_law_2773 : decode cL_law 2773 = .ok (.iadd, 1) := by decide +kernel
theorem dL_law_2774 : decode cL_law 2774 = .ok (.iaload, 1) := by decide +kernel
theorem dL_law_2775 : decode cL_law 2775 = .ok (.invokevirtual 338, 3) := by decide +kernel
theorem dL_law_2778 : decode cL_law 2778 = .ok (.istore 7, 2) := by decide +kernel
theorem dL_law_2780 : decode cL_law 2780 = .ok (.aload_n 2, 1) := by decide +kernel
theorem dL_law_2781 : decode cL_law 2781 = .ok (.invokevirtual 202, 3) := by decide +kernel
theorem dL_law_2784 : decode cL_law 2784 = .ok (.iload 6, 2) := by decide +kernel
theorem dL_law_2786 : decode cL_law 2786 = .ok (.if_icmp .eq 5, 3) := by decide +kernel
theorem dL_law_2791 : decode cL_law 2791 = .ok (.iload 6, 2) := by decide +kernel
theorem dL_law_2793 : decode cL_law 2793 = .ok (.ifCond .ne 15, 3) := by decide +kernel
theorem dL_law_2796 : decode cL_law 2796 = .ok (.aload_n 3, 1) := by decide +kernel
theorem dL_law_2797 : decode cL_law 2797 = .ok (.iconst 0, 1) := by decide +kernel
theorem dL_law_2798 : decode cL_law 2798 = .ok (.laload, 1) := by decide +kernel
theorem dL_law_2799 : decode cL_law 2799 = .ok (.iload 7, 2) := by decide +kernel
theorem dL_law_2801 : decode cL_law 2801 = .ok (.i2l, 1) := by decide +kernel
theorem dL_law_2802 : decode cL_law 2802 = .ok (.lcmp, 1) := by decide +kernel
theorem dL_law_2803 : decode cL_law 2803 = .ok (.ifCond .eq 5, 3) := by decide +kernel
theorem dL_law_2808 : decode cL_law 2808 = .ok (.goto 815, 3) := by decide +kernel
set_option maxRecDepth 100000 in
set_option maxHeartbeats 4000000 in
theorem law_46 {p : Program} {l : Launch} {e : Env} {s : State} {m : MethodId} {below : List Frame} {meth : Method} {c : Code} {D : va_G} {ct : Nat → ClassId} {A : Nat → Prop} {b : Nat} {xs : Nat → Int32} {H : Heap} {locs : List Loc} {ls : Array Slot} (hfl : l.stackTraces = false) (C1 : cmL p s m meth c D ct A b 4 xs) (x : Nat) (w : Nat) (sp : Nat) (sv : Nat) (bu : Nat) (w_se : Nat) (w_cu : Nat) (w_pr : Nat) (w_ch : Nat) (w_re : Nat) (w_lo : Nat) (w_la : Nat) (mo : Nat) (mw : Nat) (ma : Nat) (mf : Nat) (m0 : Nat) (m1 : Nat) (mu : Nat) (mv : Nat) (u0 : Nat) (u1 : Nat) (iz : Nat) (mb : Nat) (ov : Nat) (od : Nat) (hP : va_P D vwCl [(x, .inr (10, [.ref w, .ref sp, .ref sv, .ref bu, .int 0, .int 0])), (w, .inr (9, [.int 0, .ref w_se, .ref w_cu, .ref w_pr, .int 0, .ref w_ch, .ref w_re, .ref w_lo])), (w_lo, .inr (8, [.int 60, .int 4, .ref w_la, .int 0, .int 0])), (mo, .inr (11, [.ref mw, .ref ma, .ref mf, .ref m0, .ref m1, .ref mu, .ref mv, .ref u0, .ref u1, .ref iz, .int 0, .ref mb, .int 0, .int 0, .int 0, .int 0, .int 0, .int 0, .int 0])), (mw, .inl (ct 0, 958, .inl m_w0)), (ov, .inl (ct 1, 1, .inr (.inl (fun _ => 0))))] H) (hD : va_D A [(x, .inr (10, [.ref w, .ref sp, .ref sv, .ref bu, .int 0, .int 0])), (w, .inr (9, [.int 0, .ref w_se, .ref w_cu, .ref w_pr, .int 0, .ref w_ch, .ref w_re, .ref w_lo])), (w_lo, .inr (8, [.int 60, .int 4, .ref w_la, .int 0, .int 0])), (mo, .inr (11, [.ref mw, .ref ma, .ref mf, .ref m0, .ref m1, .ref mu, .ref mv, .ref u0, .ref u1, .ref iz, .int 0, .ref mb, .int 0, .int 0, .int 0, .int 0, .int 0, .int 0, .int 0])), (mw, .inl (ct 0, 958, .inl m_w0)), (ov, .inl (ct 1, 1, .inr (.inl (fun _ => 0))))]) (hS : va_S A s.heap H locs) (hl : lv_has ls 9 [(0, .ref b), (1, .ref x), (2, .ref mo), (3, .ref ov), (4, .ref od), (5, .int 0)]) : W p l e room_1 s m #[Value.ref b] below meth c H locs 157 8795 (lw_Z below #[Value.ref b] s) (F0 m 2743 ls []) := by
  obtain ⟨hx, hb, hr, hml, hown, hts, hK, hX, hXs, hbl, hbA, hA, hAr, hlocks⟩ := id C1
  refine lv_aload_n hx hb dL_law_2743 rfl (lv_at hl 1 rfl) ?_
  refine lv_aload_n hx hb dL_law_2744 rfl (lv_at hl 0 rfl) ?_
  refine lv_iload hx hb dL_law_2745 (lv_at hl 5 rfl) ?_
  refine lv_iconst (v := 1) hx hb dL_law_2747 (by decide) ?_
  refine lv_iadd hx hb dL_law_2748 ?_
  refine cm_cst (y := 1) (by decide) ?_
  refine va_sld hx hb hXs hbl hbA hS (cm_vin (by decide)) dL_law_2749 ?_
  refine lv_aload_n hx hb dL_law_2750 rfl (lv_at hl 0 rfl) ?_
  refine lv_iload hx hb dL_law_2751 (lv_at hl 5 rfl) ?_
  refine lv_iconst (v := 2) hx hb dL_law_2753 (by decide) ?_
  refine lv_iadd hx hb dL_law_2754 ?_
  refine cm_cst (y := 2) (by decide) ?_
  refine va_sld hx hb hXs hbl hbA hS (cm_vin (by decide)) dL_law_2755 ?_
  refine lv_aload_n hx hb dL_law_2756 rfl (lv_at hl 3 rfl) ?_
  refine cm_ki (wr := [(mo, .inr (11, [.ref mw, .ref ma, .ref mf, .ref m0, .ref m1, .ref mu, .ref mv, .ref u0, .ref u1, .ref iz, .int 0, .ref mb, .int 0, .int 0, .int 0, .int 0, .int 0, .int 0, .int 0])), (mw, .inl (ct 0, 958, .inl m_w0))]) (vx_runSW (As := [.ref x, .int (xs (1 : Int32).toNatClampNeg), .int (xs (2 : Int32).toNatClampNeg), .ref ov]) (rest := []) ⟨hx, hb, hml, hown, hts⟩ (l_logEntry l hfl D ct x w sp sv bu w_se w_cu w_pr w_ch w_re w_lo w_la ov (fun _ => 0) (xs (1 : Int32).toNatClampNeg) (xs (2 : Int32).toNatClampNeg) _) (cm_SW 4 hts kw_L_logEntry ki_RL kl_RL_336 ks_L_logEntry kd_L_logEntry ⟨Nat.le_of_ble_eq_true rfl, Nat.le_of_ble_eq_true rfl⟩) (cm_preS hP hK hD hS hA hX [0, 1, 2, 5] rfl rfl rfl) rfl rfl hl.1 rfl (lv_room (Nat.le_of_ble_eq_true rfl)) dL_law_2757 ⟨Nat.le_of_ble_eq_true rfl, Nat.le_of_ble_eq_true rfl⟩) hP hD hS hA [0, 1, 2, 5] [3, 4] rfl rfl rfl (by decide) (fun r_1 u H locs hw_2 hP hD hS => ?_)
  obtain ⟨g_3, rfl⟩ : ∃ z, z = u := ⟨_, rfl⟩
  have hw_2 : (r_1 = 0 ∧ (0 ≤ (xs (2 : Int32).toNatClampNeg) ∧ (xs (2 : Int32).toNatClampNeg) ≤ 3) ∧ g_3 (0 : Int32).toNatClampNeg = (-1)) ∨ (r_1 = 1 ∧ ((xs (2 : Int32).toNatClampNeg) < 0 ∨ 3 < (xs (2 : Int32).toNatClampNeg))) := hw_2
  have hP : va_P D vwCl [(mo, .inr (11, [.ref mw, .ref ma, .ref mf, .ref m0, .ref m1, .ref mu, .ref mv, .ref u0, .ref u1, .ref iz, .int 0, .ref mb, .int 0, .int 0, .int 0, .int 0, .int 0, .int 0, .int 0])), (mw, .inl (ct 0, 958, .inl m_w0)), (ov, .inl (ct 1, 1, .inr (.inl g_3)))] H := hP
  have hD : va_D A [(mo, .inr (11, [.ref mw, .ref ma, .ref mf, .ref m0, .ref m1, .ref mu, .ref mv, .ref u0, .ref u1, .ref iz, .int 0, .ref mb, .int 0, .int 0, .int 0, .int 0, .int 0, .int 0, .int 0])), (mw, .inl (ct 0, 958, .inl m_w0)), (ov, .inl (ct 1, 1, .inr (.inl g_3)))] := hD
  refine W.widen (k := 158) (n := 8801) (Nat.le_of_ble_eq_true rfl) (Nat.le_of_ble_eq_true rfl) ?_
  refine lv_istore (lv' := [(6, .int r_1), (0, .ref b), (1, .ref x), (2, .ref mo), (3, .ref ov), (4, .ref od), (5, .int 0)]) hx hb dL_law_2760 hl (by decide) rfl (fun ls hl => ?_)
  refine lv_aload_n hx hb dL_law_2762 rfl (lv_at hl 3 rfl) ?_
  refine lv_aload_n hx hb dL_law_2763 rfl (lv_at hl 1 rfl) ?_
  refine lv_iload hx hb dL_law_2764 (lv_at hl 6 rfl) ?_
  refine lv_iconst (v := 1) hx hb dL_law_2766 (by decide) ?_
  refine lv_iadd hx hb dL_law_2767 ?_
  refine cm_cst (y := 1) (by decide) ?_
  refine va_sld hx hb hXs hbl hbA hS (cm_vin (by decide)) dL_law_2768 ?_
  refine lv_aload_n hx hb dL_law_2769 rfl (lv_at hl 1 rfl) ?_
  refine lv_iload hx hb dL_law_2770 (lv_at hl 6 rfl) ?_
  refine lv_iconst (v := 2) hx hb dL_law_2772 (by decide) ?_
  refine lv_iadd hx hb dL_law_2773 ?_
  refine cm_cst (y := 2) (by decide) ?_
  refine va_sld hx hb hXs hbl hbA hS (cm_vin (by decide)) dL_law_2774 ?_
  refine cm_ki (wr := [(ov, .inl (ct 1, 1, .inr (.inl g_3)))]) (va_runV (As := [.int (xs (1 : Int32).toNatClampNeg), .int (xs (2 : Int32).toNatClampNeg)]) (rest := []) ⟨hx, hb, hml, hown, hts⟩ (m_logEntry_0 l D ct mo mw ma mf m0 m1 mu mv u0 u1 iz mb (xs (1 : Int32).toNatClampNeg) (xs (2 : Int32).toNatClampNeg) _) (cm_V 2 hts kc_X11_logEntry ki_RX11 kl_RL_338 kv_X11_logEntry kx_X11_logEntry kd_X11_logEntry ⟨Nat.le_of_ble_eq_true rfl, Nat.le_of_ble_eq_true rfl⟩) (cm_preV hP hK hD hS hA hX [0, 1] rfl rfl rfl (q0 := 0) (ci := 11) rfl rfl) rfl rfl hl.1 rfl (lv_room (Nat.le_of_ble_eq_true rfl)) dL_law_2775 ⟨Nat.le_of_ble_eq_true rfl, Nat.le_of_ble_eq_true rfl⟩) hP hD hS hA [0, 1] [2] rfl rfl rfl (by decide) (fun r_4 u H locs hw_5 hP hD hS => ?_)
  obtain ⟨th_6, rfl⟩ : ∃ z, z = u := ⟨_, rfl⟩
  have hw_5 : (th_6 = 0 ∧ (0 ≤ (xs (2 : Int32).toNatClampNeg) ∧ (xs (2 : Int32).toNatClampNeg) ≤ 3) ∧ r_4 = (-1)) ∨ (th_6 = 1 ∧ ((xs (2 : Int32).toNatClampNeg) < 0 ∨ 3 < (xs (2 : Int32).toNatClampNeg))) := hw_5
  have hP : va_P D vwCl [(ov, .inl (ct 1, 1, .inr (.inl g_3))), (mo, .inr (11, [.ref mw, .ref ma, .ref mf, .ref m0, .ref m1, .ref mu, .ref mv, .ref u0, .ref u1, .ref iz, .int th_6, .ref mb, .int 0, .int 0, .int 0, .int 0, .int 0, .int 0, .int 0]))] H := hP
  have hD : va_D A [(ov, .inl (ct 1, 1, .inr (.inl g_3))), (mo, .inr (11, [.ref mw, .ref ma, .ref mf, .ref m0, .ref m1, .ref mu, .ref mv, .ref u0, .ref u1, .ref iz, .int th_6, .ref mb, .int 0, .int 0, .int 0, .int 0, .int 0, .int 0, .int 0]))] := hD
  refine lv_istore (lv' := [(7, .int r_4), (6, .int r_1), (0, .ref b), (1, .ref x), (2, .ref mo), (3, .ref ov), (4, .ref od), (5, .int 0)]) hx hb dL_law_2778 hl (by decide) rfl (fun ls hl => ?_)
  rcases hw_2 with ⟨rfl, hq1, hg⟩ | ⟨rfl, hq1⟩
  · rcases hw_5 with ⟨rfl, hq2, rfl⟩ | ⟨rfl, hq2⟩
    · refine lv_aload_n hx hb dL_law_2780 rfl (lv_at hl 4 rfl) ?_
      refine cm_ki (wr := [(ov, .inl (ct 1, 1, .inr (.inl g_3)))]) (va_runV (As := []) (rest := []) ⟨hx, hb, hml, hown, hts⟩ (m_thrown l D ct mo mw ma mf m0 m1 mu mv u0 u1 iz mb 0 _) (cm_V 0 hts kc_X11_thrown ki_RX11 kl_RL_202 kv_X11_thrown kx_X11_thrown kd_X11_thrown ⟨Nat.le_of_ble_eq_true rfl, Nat.le_of_ble_eq_true rfl⟩) (cm_preV hP hK hD hS hA hX [1] rfl rfl rfl (q0 := 1) (ci := 11) rfl rfl) rfl rfl hl.1 rfl (lv_room (Nat.le_of_ble_eq_true rfl)) dL_law_2781 ⟨Nat.le_of_ble_eq_true rfl, Nat.le_of_ble_eq_true rfl⟩) hP hD hS hA [1] [0] rfl rfl rfl (by decide) (fun r_7 u H locs hw_8 hP hD hS => ?_)
      have hw_8 : r_7 = 0 := hw_8
      obtain rfl := hw_8
      have hP : va_P D vwCl [(ov, .inl (ct 1, 1, .inr (.inl g_3))), (mo, .inr (11, [.ref mw, .ref ma, .ref mf, .ref m0, .ref m1, .ref mu, .ref mv, .ref u0, .ref u1, .ref iz, .int 0, .ref mb, .int 0, .int 0, .int 0, .int 0, .int 0, .int 0, .int 0]))] H := hP
      have hD : va_D A [(ov, .inl (ct 1, 1, .inr (.inl g_3))), (mo, .inr (11, [.ref mw, .ref ma, .ref mf, .ref m0, .ref m1, .ref mu, .ref mv, .ref u0, .ref u1, .ref iz, .int 0, .ref mb, .int 0, .int 0, .int 0, .int 0, .int 0, .int 0, .int 0]))] := hD
      refine lv_iload hx hb dL_law_2784 (lv_at hl 1 rfl) ?_
      refine lv_icmp_eq (tgt := 2791) hx hb dL_law_2786 (by decide) (fun _ => ?_) (fun hc => absurd (by decide) hc)
      refine lv_iload hx hb dL_law_2791 (lv_at hl 1 rfl) ?_
      refine lv_if_ne (tgt := 2808) hx hb dL_law_2793 (by decide) (fun hc => absurd (by decide) hc) (fun _ => ?_)
      refine lv_aload_n hx hb dL_law_2796 rfl (lv_at hl 5 rfl) ?_
      refine lv_iconst (v := 0) hx hb dL_law_2797 (by decide) ?_
      refine va_lald hx hb hK hP 0 1 rfl rfl (cm_vin (by decide)) dL_law_2798 ?_
      refine cm_cstl (y := (-1)) hg ?_
      refine lv_iload hx hb dL_law_2799 (lv_at hl 0 rfl) ?_
      refine lv_i2l (v := (-1)) hx hb dL_law_2801 (by decide) ?_
      refine W.lcmp hx hb dL_law_2802 ?_
      refine cm_cst (y := 0) (by decide) ?_
      refine lv_if_eq (tgt := 2808) hx hb dL_law_2803 (by decide) (fun _ => ?_) (fun hc => absurd (by decide) hc)
      refine lv_goto (tgt := 3623) hx hb dL_law_2808 (by decide) ?_
      exact law_end C1 hS (lv_sub hl [2, 7] rfl) (Nat.le_of_ble_eq_true rfl) (Nat.le_of_ble_eq_true rfl)
    · exact (cm_no hq1 hq2).elim
  · rcases hw_5 with ⟨rfl, hq2, rfl⟩ | ⟨rfl, hq2⟩
    · exact (cm_no hq2 hq1).elim
    · refine lv_aload_n hx hb dL_law_2780 rfl (lv_at hl 4 rfl) ?_
      refine cm_ki (wr := [(ov, .inl (ct 1, 1, .inr (.inl g_3)))]) (va_runV (As := []) (rest := []) ⟨hx, hb, hml, hown, hts⟩ (m_thrown l D ct mo mw ma mf m0 m1 mu mv u0 u1 iz mb 1 _) (cm_V 0 hts kc_X11_thrown ki_RX11 kl_RL_202 kv_X11_thrown kx_X11_thrown kd_X11_thrown ⟨Nat.le_of_ble_eq_true rfl, Nat.le_of_ble_eq_true rfl⟩) (cm_preV hP hK hD hS hA hX [1] rfl rfl rfl (q0 := 1) (ci := 11) rfl rfl) rfl rfl hl.1 rfl (lv_room (Nat.le_of_ble_eq_true rfl)) dL_law_2781 ⟨Nat.le_of_ble_eq_true rfl, Nat.le_of_ble_eq_true rfl⟩) hP hD hS hA [1] [0] rfl rfl rfl (by decide) (fun r_9 u H locs hw_10 hP hD hS => ?_)
      have hw_10 : r_9 = 1 := hw_10
      obtain rfl := hw_10
      have hP : va_P D vwCl [(ov, .inl (ct 1, 1, .inr (.inl g_3))), (mo, .inr (11, [.ref mw, .ref ma, .ref mf, .ref m0, .ref m1, .ref mu, .ref mv, .ref u0, .ref u1, .ref iz, .int 1, .ref mb, .int 0, .int 0, .int 0, .int 0, .int 0, .int 0, .int 0]))] H := hP
      have hD : va_D A [(ov, .inl (ct 1, 1, .inr (.inl g_3))), (mo, .inr (11, [.ref mw, .ref ma, .ref mf, .ref m0, .ref m1, .ref mu, .ref mv, .ref u0, .ref u1, .ref iz, .int 1, .ref mb, .int 0, .int 0, .int 0, .int 0, .int 0, .int 0, .int 0]))] := hD
      refine lv_iload hx hb dL_law_2784 (lv_at hl 1 rfl) ?_
      refine lv_icmp_eq (tgt := 2791) hx hb dL_law_2786 (by decide) (fun _ => ?_) (fun hc => absurd (by decide) hc)
      refine lv_iload hx hb dL_law_2791 (lv_at hl 1 rfl) ?_
      refine lv_if_ne (tgt := 2808) hx hb dL_law_2793 (by decide) (fun _ => ?_) (fun hc => absurd hc (by decide))
      refine lv_goto (tgt := 3623) hx hb dL_law_2808 (by decide) ?_
      exact law_end C1 hS (lv_sub hl [2, 7] rfl) (Nat.le_of_ble_eq_true rfl) (Nat.le_of_ble_eq_true rfl)
theorem dL_law_2811 : decode cL_law 2811 = .ok (.aload_n 1, 1) := by decide +kernel
theorem dL_law_2812 : decode cL_law 2812 = .ok (.aload_n 0, 1) := by decide +kernel
theorem dL_law_2813 : decode cL_law 2813 = .ok (.iload 5, 2) := by decide +kernel
theorem dL_law_2815 : decode cL_law 2815 = .ok (.iconst 1, 1) := by decide +kernel
theorem dL_law_2816 : decode cL_law 2816 = .ok (.iadd, 1) := by decide +kernel
theorem dL_law_2817 : decode cL_law 2817 = .ok (.iaload, 1) := by decide +kernel
theorem dL_law_2818 : decode cL_law 2818 = .ok (.aload_n 0, 1) := by decide +kernel
theorem dL_law_2819 : decode cL_law 2819 = .ok (.iload 5, 2) := by decide +kernel
theorem dL_law_2821 : decode cL_law 2821 = .ok (.iconst 2, 1) := by decide +kernel
theorem dL_law_2822 : decode cL_law 2822 = .ok (.iadd, 1) := by decide +kernel
theorem dL_law_2823 : decode cL_law 2823 = .ok (.iaload, 1) := by decide +kernel
theorem dL_law_2824 : decode cL_law 2824 = .ok (.aload_n 3, 1) := by decide +kernel
theorem dL_law_2825 : decode cL_law 2825 = .ok (.invokestatic 339, 3) := by decide +kernel
theorem dL_law_2828 : decode cL_law 2828 = .ok (.istore 6, 2) := by decide +kernel
theorem dL_law_2830 : decode cL_law 2830 = .ok (.aload_n 2, 1) := by decide +kernel
theorem dL_law_2831 : decode cL_law 2831 = .ok (.aload_n 0, 1) := by decide +kernel
theorem dL_law_2832 : decode cL_law 2832 = .ok (.iload 5, 2) := by decide +kernel
theorem dL_law_2834 : decode cL_law 2834 = .ok (.iconst 1, 1) := by decide +kernel
theorem dL_law_2835 : decode cL_law 2835 = .ok (.iadd, 1) := by decide +kernel
theorem dL_law_2836 : decode cL_law 2836 = .ok (.iaload, 1) := by decide +kernel
theorem dL_law_2837 : decode cL_law 2837 = .ok (.aload_n 0, 1) := by decide +kernel
theorem dL_law_2838 : decode cL_law 2838 = .ok (.iload 5, 2) := by decide +kernel
theorem dL_law_2840 : decode cL_law 2840 = .ok (.iconst 2, 1) := by decide +kernel
theorem dL_law_2841 : decode cL_law 2841 = .ok (.iadd, 1) := by decide +kernel
theorem dL_law_2842 : decode cL_law 2842 = .ok (.iaload, 1) := by decide +kernel
theorem dL_law_2843 : decode cL_law 2843 = .ok (.invokevirtual 341, 3) := by decide +kernel
theorem dL_law_2846 : decode cL_law 2846 = .ok (.istore 7, 2) := by decide +kernel
theorem dL_law_2848 : decode cL_law 2848 = .ok (.aload_n 2, 1) := by decide +kernel
theorem dL_law_2849 : decode cL_law 2849 = .ok (.invokevirtual 202, 3) := by decide +kernel
theorem dL_law_2852 : decode cL_law 2852 = .ok (.iload 6, 2) := by decide +kernel
theorem dL_law_2854 : decode cL_law 2854 = .ok (.if_icmp .eq 5, 3) := by decide +kernel
theorem dL_law_2859 : decode cL_law 2859 = .ok (.iload 6, 2) := by decide +kernel
theorem dL_law_2861 : decode cL_law 2861 = .ok (.ifCond .ne 15, 3) := by decide +kernel
theorem dL_law_2876 : decode cL_law 2876 = .ok (.goto 747, 3) := by decide +kernel
set_option maxRecDepth 100000 in
set_option maxHeartbeats 4000000 in
theorem law_47 {p : Program} {l : Launch} {e : Env} {s : State} {m : MethodId} {below : List Frame} {meth : Method} {c : Code} {D : va_G} {ct : Nat → ClassId} {A : Nat → Prop} {b : Nat} {xs : Nat → Int32} {H : Heap} {locs : List Loc} {ls : Array Slot} (hfl : l.stackTraces = false) (C1 : cmL p s m meth c D ct A b 4 xs) (x : Nat) (w : Nat) (sp : Nat) (sv : Nat) (bu : Nat) (w_se : Nat) (w_cu : Nat) (w_pr : Nat) (w_ch : Nat) (w_re : Nat) (w_lo : Nat) (mo : Nat) (mw : Nat) (ma : Nat) (mf : Nat) (m0 : Nat) (m1 : Nat) (mu : Nat) (mv : Nat) (u0 : Nat) (u1 : Nat) (iz : Nat) (mb : Nat) (ov : Nat) (od : Nat) (hP : va_P D vwCl [(x, .inr (10, [.ref w, .ref sp, .ref sv, .ref bu, .int 0, .int 0])), (w, .inr (9, [.int 0, .ref w_se, .ref w_cu, .ref w_pr, .int 0, .ref w_ch, .ref w_re, .ref w_lo])), (mo, .inr (11, [.ref mw, .ref ma, .ref mf, .ref m0, .ref m1, .ref mu, .ref mv, .ref u0, .ref u1, .ref iz, .int 0, .ref mb, .int 0, .int 0, .int 0, .int 0, .int 0, .int 0, .int 0])), (mw, .inl (ct 0, 958, .inl m_w0)), (ov, .inl (ct 1, 1, .inr (.inl (fun _ => 0))))] H) (hD : va_D A [(x, .inr (10, [.ref w, .ref sp, .ref sv, .ref bu, .int 0, .int 0])), (w, .inr (9, [.int 0, .ref w_se, .ref w_cu, .ref w_pr, .int 0, .ref w_ch, .ref w_re, .ref w_lo])), (mo, .inr (11, [.ref mw, .ref ma, .ref mf, .ref m0, .ref m1, .ref mu, .ref mv, .ref u0, .ref u1, .ref iz, .int 0, .ref mb, .int 0, .int 0, .int 0, .int 0, .int 0, .int 0, .int 0])), (mw, .inl (ct 0, 958, .inl m_w0)), (ov, .inl (ct 1, 1, .inr (.inl (fun _ => 0))))]) (hS : va_S A s.heap H locs) (hl : lv_has ls 9 [(0, .ref b), (1, .ref x), (2, .ref mo), (3, .ref ov), (4, .ref od), (5, .int 0)]) : W p l e room_1 s m #[Value.ref b] below meth c H locs 157 8795 (lw_Z below #[Value.ref b] s) (F0 m 2811 ls []) := by
  obtain ⟨hx, hb, hr, hml, hown, hts, hK, hX, hXs, hbl, hbA, hA, hAr, hlocks⟩ := id C1
  refine lv_aload_n hx hb dL_law_2811 rfl (lv_at hl 1 rfl) ?_
  refine lv_aload_n hx hb dL_law_2812 rfl (lv_at hl 0 rfl) ?_
  refine lv_iload hx hb dL_law_2813 (lv_at hl 5 rfl) ?_
  refine lv_iconst (v := 1) hx hb dL_law_2815 (by decide) ?_
  refine lv_iadd hx hb dL_law_2816 ?_
  refine cm_cst (y := 1) (by decide) ?_
  refine va_sld hx hb hXs hbl hbA hS (cm_vin (by decide)) dL_law_2817 ?_
  refine lv_aload_n hx hb dL_law_2818 rfl (lv_at hl 0 rfl) ?_
  refine lv_iload hx hb dL_law_2819 (lv_at hl 5 rfl) ?_
  refine lv_iconst (v := 2) hx hb dL_law_2821 (by decide) ?_
  refine lv_iadd hx hb dL_law_2822 ?_
  refine cm_cst (y := 2) (by decide) ?_
  refine va_sld hx hb hXs hbl hbA hS (cm_vin (by decide)) dL_law_2823 ?_
  refine lv_aload_n hx hb dL_law_2824 rfl (lv_at hl 3 rfl) ?_
  refine cm_ki (wr := [(mo, .inr (11, [.ref mw, .ref ma, .ref mf, .ref m0, .ref m1, .ref mu, .ref mv, .ref u0, .ref u1, .ref iz, .int 0, .ref mb, .int 0, .int 0, .int 0, .int 0, .int 0, .int 0, .int 0])), (mw, .inl (ct 0, 958, .inl m_w0))]) (vx_runSW (As := [.ref x, .int (xs (1 : Int32).toNatClampNeg), .int (xs (2 : Int32).toNatClampNeg), .ref ov]) (rest := []) ⟨hx, hb, hml, hown, hts⟩ (l_eventsOf l hfl D ct x w sp sv bu w_se w_cu w_pr w_ch w_re w_lo ov (fun _ => 0) (xs (1 : Int32).toNatClampNeg) (xs (2 : Int32).toNatClampNeg) _) (cm_SW 4 hts kw_L_eventsOf ki_RL kl_RL_339 ks_L_eventsOf kd_L_eventsOf ⟨Nat.le_of_ble_eq_true rfl, Nat.le_of_ble_eq_true rfl⟩) (cm_preS hP hK hD hS hA hX [0, 1, 4] rfl rfl rfl) rfl rfl hl.1 rfl (lv_room (Nat.le_of_ble_eq_true rfl)) dL_law_2825 ⟨Nat.le_of_ble_eq_true rfl, Nat.le_of_ble_eq_true rfl⟩) hP hD hS hA [0, 1, 4] [2, 3] rfl rfl rfl (by decide) (fun r_1 u H locs hw_2 hP hD hS => ?_)
  have hw_2 : r_1 = 1 := hw_2
  obtain rfl := hw_2
  have hP : va_P D vwCl [(mo, .inr (11, [.ref mw, .ref ma, .ref mf, .ref m0, .ref m1, .ref mu, .ref mv, .ref u0, .ref u1, .ref iz, .int 0, .ref mb, .int 0, .int 0, .int 0, .int 0, .int 0, .int 0, .int 0])), (mw, .inl (ct 0, 958, .inl m_w0))] H := hP
  have hD : va_D A [(mo, .inr (11, [.ref mw, .ref ma, .ref mf, .ref m0, .ref m1, .ref mu, .ref mv, .ref u0, .ref u1, .ref iz, .int 0, .ref mb, .int 0, .int 0, .int 0, .int 0, .int 0, .int 0, .int 0])), (mw, .inl (ct 0, 958, .inl m_w0))] := hD
  refine W.widen (k := 158) (n := 8801) (Nat.le_of_ble_eq_true rfl) (Nat.le_of_ble_eq_true rfl) ?_
  refine lv_istore (lv' := [(6, .int 1), (0, .ref b), (1, .ref x), (2, .ref mo), (3, .ref ov), (4, .ref od), (5, .int 0)]) hx hb dL_law_2828 hl (by decide) rfl (fun ls hl => ?_)
  refine lv_aload_n hx hb dL_law_2830 rfl (lv_at hl 3 rfl) ?_
  refine lv_aload_n hx hb dL_law_2831 rfl (lv_at hl 1 rfl) ?_
  refine lv_iload hx hb dL_law_2832 (lv_at hl 6 rfl) ?_
  refine lv_iconst (v := 1) hx hb dL_law_2834 (by decide) ?_
  refine lv_iadd hx hb dL_law_2835 ?_
  refine cm_cst (y := 1) (by decide) ?_
  refine va_sld hx hb hXs hbl hbA hS (cm_vin (by decide)) dL_law_2836 ?_
  refine lv_aload_n hx hb dL_law_2837 rfl (lv_at hl 1 rfl) ?_
  refine lv_iload hx hb dL_law_2838 (lv_at hl 6 rfl) ?_
  refine lv_iconst (v := 2) hx hb dL_law_2840 (by decide) ?_
  refine lv_iadd hx hb dL_law_2841 ?_
  refine cm_cst (y := 2) (by decide) ?_
  refine va_sld hx hb hXs hbl hbA hS (cm_vin (by decide)) dL_law_2842 ?_
  refine cm_ki (wr := []) (va_runV (As := [.int (xs (1 : Int32).toNatClampNeg), .int (xs (2 : Int32).toNatClampNeg)]) (rest := []) ⟨hx, hb, hml, hown, hts⟩ (m_eventsOf_0 l D ct mo mw ma mf m0 m1 mu mv u0 u1 iz mb (xs (1 : Int32).toNatClampNeg) (xs (2 : Int32).toNatClampNeg) _) (cm_V 2 hts kc_X11_eventsOf ki_RX11 kl_RL_341 kv_X11_eventsOf kx_X11_eventsOf kd_X11_eventsOf ⟨Nat.le_of_ble_eq_true rfl, Nat.le_of_ble_eq_true rfl⟩) (cm_preV hP hK hD hS hA hX [0, 1] rfl rfl rfl (q0 := 0) (ci := 11) rfl rfl) rfl rfl hl.1 rfl (lv_room (Nat.le_of_ble_eq_true rfl)) dL_law_2843 ⟨Nat.le_of_ble_eq_true rfl, Nat.le_of_ble_eq_true rfl⟩) hP hD hS hA [0, 1] [] rfl rfl rfl (by decide) (fun r_3 u H locs hw_4 hP hD hS => ?_)
  have hP : va_P D vwCl [(mo, .inr (11, [.ref mw, .ref ma, .ref mf, .ref m0, .ref m1, .ref mu, .ref mv, .ref u0, .ref u1, .ref iz, .int 1, .ref mb, .int 0, .int 0, .int 0, .int 0, .int 0, .int 0, .int 0])), (mw, .inl (ct 0, 958, .inl m_w0))] H := hP
  have hD : va_D A [(mo, .inr (11, [.ref mw, .ref ma, .ref mf, .ref m0, .ref m1, .ref mu, .ref mv, .ref u0, .ref u1, .ref iz, .int 1, .ref mb, .int 0, .int 0, .int 0, .int 0, .int 0, .int 0, .int 0])), (mw, .inl (ct 0, 958, .inl m_w0))] := hD
  refine lv_istore (lv' := [(7, .int r_3), (6, .int 1), (0, .ref b), (1, .ref x), (2, .ref mo), (3, .ref ov), (4, .ref od), (5, .int 0)]) hx hb dL_law_2846 hl (by decide) rfl (fun ls hl => ?_)
  refine lv_aload_n hx hb dL_law_2848 rfl (lv_at hl 4 rfl) ?_
  refine cm_ki (wr := [(mw, .inl (ct 0, 958, .inl m_w0))]) (va_runV (As := []) (rest := []) ⟨hx, hb, hml, hown, hts⟩ (m_thrown l D ct mo mw ma mf m0 m1 mu mv u0 u1 iz mb 1 _) (cm_V 0 hts kc_X11_thrown ki_RX11 kl_RL_202 kv_X11_thrown kx_X11_thrown kd_X11_thrown ⟨Nat.le_of_ble_eq_true rfl, Nat.le_of_ble_eq_true rfl⟩) (cm_preV hP hK hD hS hA hX [0] rfl rfl rfl (q0 := 0) (ci := 11) rfl rfl) rfl rfl hl.1 rfl (lv_room (Nat.le_of_ble_eq_true rfl)) dL_law_2849 ⟨Nat.le_of_ble_eq_true rfl, Nat.le_of_ble_eq_true rfl⟩) hP hD hS hA [0] [1] rfl rfl rfl (by decide) (fun r_5 u H locs hw_6 hP hD hS => ?_)
  have hw_6 : r_5 = 1 := hw_6
  obtain rfl := hw_6
  have hP : va_P D vwCl [(mw, .inl (ct 0, 958, .inl m_w0)), (mo, .inr (11, [.ref mw, .ref ma, .ref mf, .ref m0, .ref m1, .ref mu, .ref mv, .ref u0, .ref u1, .ref iz, .int 1, .ref mb, .int 0, .int 0, .int 0, .int 0, .int 0, .int 0, .int 0]))] H := hP
  have hD : va_D A [(mw, .inl (ct 0, 958, .inl m_w0)), (mo, .inr (11, [.ref mw, .ref ma, .ref mf, .ref m0, .ref m1, .ref mu, .ref mv, .ref u0, .ref u1, .ref iz, .int 1, .ref mb, .int 0, .int 0, .int 0, .int 0, .int 0, .int 0, .int 0]))] := hD
  refine lv_iload hx hb dL_law_2852 (lv_at hl 1 rfl) ?_
  refine lv_icmp_eq (tgt := 2859) hx hb dL_law_2854 (by decide) (fun _ => ?_) (fun hc => absurd (by decide) hc)
  refine lv_iload hx hb dL_law_2859 (lv_at hl 1 rfl) ?_
  refine lv_if_ne (tgt := 2876) hx hb dL_law_2861 (by decide) (fun _ => ?_) (fun hc => absurd hc (by decide))
  refine lv_goto (tgt := 3623) hx hb dL_law_2876 (by decide) ?_
  exact law_end C1 hS (lv_sub hl [2, 7] rfl) (Nat.le_of_ble_eq_true rfl) (Nat.le_of_ble_eq_true rfl)
theorem dL_law_2879 : decode cL_law 2879 = .ok (.aload_n 1, 1) := by decide +kernel
theorem dL_law_2880 : decode cL_law 2880 = .ok (.aload_n 0, 1) := by decide +kernel
theorem dL_law_2881 : decode cL_law 2881 = .ok (.iload 5, 2) := by decide +kernel
theorem dL_law_2883 : decode cL_law 2883 = .ok (.iconst 1, 1) := by decide +kernel
theorem dL_law_2884 : decode cL_law 2884 = .ok (.iadd, 1) := by decide +kernel
theorem dL_law_2885 : decode cL_law 2885 = .ok (.iaload, 1) := by decide +kernel
theorem dL_law_2886 : decode cL_law 2886 = .ok (.aload_n 3, 1) := by decide +kernel
theorem dL_law_2887 : decode cL_law 2887 = .ok (.invokestatic 342, 3) := by decide +kernel
theorem dL_law_2890 : decode cL_law 2890 = .ok (.istore 6, 2) := by decide +kernel
theorem dL_law_2892 : decode cL_law 2892 = .ok (.aload_n 2, 1) := by decide +kernel
theorem dL_law_2893 : decode cL_law 2893 = .ok (.aload_n 0, 1) := by decide +kernel
theorem dL_law_2894 : decode cL_law 2894 = .ok (.iload 5, 2) := by decide +kernel
theorem dL_law_2896 : decode cL_law 2896 = .ok (.iconst 1, 1) := by decide +kernel
theorem dL_law_2897 : decode cL_law 2897 = .ok (.iadd, 1) := by decide +kernel
theorem dL_law_2898 : decode cL_law 2898 = .ok (.iaload, 1) := by decide +kernel
theorem dL_law_2899 : decode cL_law 2899 = .ok (.invokevirtual 344, 3) := by decide +kernel
theorem dL_law_2902 : decode cL_law 2902 = .ok (.istore 7, 2) := by decide +kernel
theorem dL_law_2904 : decode cL_law 2904 = .ok (.aload_n 2, 1) := by decide +kernel
theorem dL_law_2905 : decode cL_law 2905 = .ok (.invokevirtual 202, 3) := by decide +kernel
theorem dL_law_2908 : decode cL_law 2908 = .ok (.iload 6, 2) := by decide +kernel
theorem dL_law_2910 : decode cL_law 2910 = .ok (.if_icmp .eq 5, 3) := by decide +kernel
theorem dL_law_2915 : decode cL_law 2915 = .ok (.iload 6, 2) := by decide +kernel
theorem dL_law_2917 : decode cL_law 2917 = .ok (.ifCond .ne 15, 3) := by decide +kernel
theorem dL_law_2932 : decode cL_law 2932 = .ok (.goto 691, 3) := by decide +kernel
set_option maxRecDepth 100000 in
set_option maxHeartbeats 4000000 in
theorem law_48 {p : Program} {l : Launch} {e : Env} {s : State} {m : MethodId} {below : List Frame} {meth : Method} {c : Code} {D : va_G} {ct : Nat → ClassId} {A : Nat → Prop} {b : Nat} {xs : Nat → Int32} {H : Heap} {locs : List Loc} {ls : Array Slot} (hfl : l.stackTraces = false) (C1 : cmL p s m meth c D ct A b 4 xs) (x : Nat) (w : Nat) (sp : Nat) (sv : Nat) (bu : Nat) (w_se : Nat) (w_cu : Nat) (w_pr : Nat) (w_ch : Nat) (w_re : Nat) (w_lo : Nat) (w_c1 : Nat) (w_c2 : Nat) (w_c3 : Nat) (w_p1 : Nat) (w_p2 : Nat) (w_p3 : Nat) (w_p4 : Nat) (w_ra : Nat) (w_la : Nat) (s_se : Nat) (s_cu : Nat) (s_pr : Nat) (s_ch : Nat) (s_re : Nat) (s_lo : Nat) (s_c1 : Nat) (s_c2 : Nat) (s_c3 : Nat) (s_p1 : Nat) (s_p2 : Nat) (s_p3 : Nat) (s_p4 : Nat) (s_ra : Nat) (s_la : Nat) (mo : Nat) (mw : Nat) (ma : Nat) (mf : Nat) (m0 : Nat) (m1 : Nat) (mu : Nat) (mv : Nat) (u0 : Nat) (u1 : Nat) (iz : Nat) (mb : Nat) (ov : Nat) (od : Nat) (hP : va_P D vwCl [(x, .inr (10, [.ref w, .ref sp, .ref sv, .ref bu, .int 0, .int 0])), (w, .inr (9, [.int 0, .ref w_se, .ref w_cu, .ref w_pr, .int 0, .ref w_ch, .ref w_re, .ref w_lo])), (w_se, .inr (7, [.int 990, .int 100000, .int 100, .int 5, .int 0, .int 5000, .int 600, .int 250, .int 0, .int 5000, .int 1000, .int 0])), (w_cu, .inr (2, [.int 0, .ref w_c1, .ref w_c2, .ref w_c3])), (w_c1, .inl (ct 1, 4, .inr (.inl (fun _ => 0)))), (w_c2, .inl (ct 0, 4, .inl (fun _ => 0))), (w_c3, .inl (ct 0, 44, .inl (fun _ => 0))), (w_pr, .inr (5, [.int 0, .ref w_p1, .ref w_p2, .ref w_p3, .ref w_p4])), (w_p1, .inl (ct 0, 4, .inl (fun _ => 0))), (w_p2, .inl (ct 0, 48, .inl (fun _ => 0))), (w_p3, .inl (ct 0, 48, .inl (fun _ => 0))), (w_p4, .inl (ct 0, 48, .inl (fun _ => 0))), (w_re, .inr (8, [.int 30, .int 5, .ref w_ra, .int 0, .int 0])), (w_ra, .inl (ct 0, 150, .inl (fun _ => 0))), (w_lo, .inr (8, [.int 60, .int 4, .ref w_la, .int 0, .int 0])), (w_la, .inl (ct 0, 240, .inl (fun _ => 0))), (sp, .inr (9, [.int 0, .ref s_se, .ref s_cu, .ref s_pr, .int 0, .ref s_ch, .ref s_re, .ref s_lo])), (s_se, .inr (7, [.int 990, .int 100000, .int 100, .int 5, .int 0, .int 5000, .int 600, .int 250, .int 0, .int 5000, .int 1000, .int 0])), (s_cu, .inr (2, [.int 0, .ref s_c1, .ref s_c2, .ref s_c3])), (s_c1, .inl (ct 1, 4, .inr (.inl (fun _ => 0)))), (s_c2, .inl (ct 0, 4, .inl (fun _ => 0))), (s_c3, .inl (ct 0, 44, .inl (fun _ => 0))), (s_pr, .inr (5, [.int 0, .ref s_p1, .ref s_p2, .ref s_p3, .ref s_p4])), (s_p1, .inl (ct 0, 4, .inl (fun _ => 0))), (s_p2, .inl (ct 0, 48, .inl (fun _ => 0))), (s_p3, .inl (ct 0, 48, .inl (fun _ => 0))), (s_p4, .inl (ct 0, 48, .inl (fun _ => 0))), (s_re, .inr (8, [.int 30, .int 5, .ref s_ra, .int 0, .int 0])), (s_ra, .inl (ct 0, 150, .inl (fun _ => 0))), (s_lo, .inr (8, [.int 60, .int 4, .ref s_la, .int 0, .int 0])), (s_la, .inl (ct 0, 240, .inl (fun _ => 0))), (mo, .inr (11, [.ref mw, .ref ma, .ref mf, .ref m0, .ref m1, .ref mu, .ref mv, .ref u0, .ref u1, .ref iz, .int 0, .ref mb, .int 0, .int 0, .int 0, .int 0, .int 0, .int 0, .int 0])), (mw, .inl (ct 0, 958, .inl m_w0)), (ov, .inl (ct 1, 1, .inr (.inl (fun _ => 0))))] H) (hD : va_D A [(x, .inr (10, [.ref w, .ref sp, .ref sv, .ref bu, .int 0, .int 0])), (w, .inr (9, [.int 0, .ref w_se, .ref w_cu, .ref w_pr, .int 0, .ref w_ch, .ref w_re, .ref w_lo])), (w_se, .inr (7, [.int 990, .int 100000, .int 100, .int 5, .int 0, .int 5000, .int 600, .int 250, .int 0, .int 5000, .int 1000, .int 0])), (w_cu, .inr (2, [.int 0, .ref w_c1, .ref w_c2, .ref w_c3])), (w_c1, .inl (ct 1, 4, .inr (.inl (fun _ => 0)))), (w_c2, .inl (ct 0, 4, .inl (fun _ => 0))), (w_c3, .inl (ct 0, 44, .inl (fun _ => 0))), (w_pr, .inr (5, [.int 0, .ref w_p1, .ref w_p2, .ref w_p3, .ref w_p4])), (w_p1, .inl (ct 0, 4, .inl (fun _ => 0))), (w_p2, .inl (ct 0, 48, .inl (fun _ => 0))), (w_p3, .inl (ct 0, 48, .inl (fun _ => 0))), (w_p4, .inl (ct 0, 48, .inl (fun _ => 0))), (w_re, .inr (8, [.int 30, .int 5, .ref w_ra, .int 0, .int 0])), (w_ra, .inl (ct 0, 150, .inl (fun _ => 0))), (w_lo, .inr (8, [.int 60, .int 4, .ref w_la, .int 0, .int 0])), (w_la, .inl (ct 0, 240, .inl (fun _ => 0))), (sp, .inr (9, [.int 0, .ref s_se, .ref s_cu, .ref s_pr, .int 0, .ref s_ch, .ref s_re, .ref s_lo])), (s_se, .inr (7, [.int 990, .int 100000, .int 100, .int 5, .int 0, .int 5000, .int 600, .int 250, .int 0, .int 5000, .int 1000, .int 0])), (s_cu, .inr (2, [.int 0, .ref s_c1, .ref s_c2, .ref s_c3])), (s_c1, .inl (ct 1, 4, .inr (.inl (fun _ => 0)))), (s_c2, .inl (ct 0, 4, .inl (fun _ => 0))), (s_c3, .inl (ct 0, 44, .inl (fun _ => 0))), (s_pr, .inr (5, [.int 0, .ref s_p1, .ref s_p2, .ref s_p3, .ref s_p4])), (s_p1, .inl (ct 0, 4, .inl (fun _ => 0))), (s_p2, .inl (ct 0, 48, .inl (fun _ => 0))), (s_p3, .inl (ct 0, 48, .inl (fun _ => 0))), (s_p4, .inl (ct 0, 48, .inl (fun _ => 0))), (s_re, .inr (8, [.int 30, .int 5, .ref s_ra, .int 0, .int 0])), (s_ra, .inl (ct 0, 150, .inl (fun _ => 0))), (s_lo, .inr (8, [.int 60, .int 4, .ref s_la, .int 0, .int 0])), (s_la, .inl (ct 0, 240, .inl (fun _ => 0))), (mo, .inr (11, [.ref mw, .ref ma, .ref mf, .ref m0, .ref m1, .ref mu, .ref mv, .ref u0, .ref u1, .ref iz, .int 0, .ref mb, .int 0, .int 0, .int 0, .int 0, .int 0, .int 0, .int 0])), (mw, .inl (ct 0, 958, .inl m_w0)), (ov, .inl (ct 1, 1, .inr (.inl (fun _ => 0))))]) (hS : va_S A s.heap H locs) (hl : lv_has ls 9 [(0, .ref b), (1, .ref x), (2, .ref mo), (3, .ref ov), (4, .ref od), (5, .int 0)]) : W p l e room_1 s m #[Value.ref b] below meth c H locs 157 8795 (lw_Z below #[Value.ref b] s) (F0 m 2879 ls []) := by
  obtain ⟨hx, hb, hr, hml, hown, hts, hK, hX, hXs, hbl, hbA, hA, hAr, hlocks⟩ := id C1
  refine lv_aload_n hx hb dL_law_2879 rfl (lv_at hl 1 rfl) ?_
  refine lv_aload_n hx hb dL_law_2880 rfl (lv_at hl 0 rfl) ?_
  refine lv_iload hx hb dL_law_2881 (lv_at hl 5 rfl) ?_
  refine lv_iconst (v := 1) hx hb dL_law_2883 (by decide) ?_
  refine lv_iadd hx hb dL_law_2884 ?_
  refine cm_cst (y := 1) (by decide) ?_
  refine va_sld hx hb hXs hbl hbA hS (cm_vin (by decide)) dL_law_2885 ?_
  refine lv_aload_n hx hb dL_law_2886 rfl (lv_at hl 3 rfl) ?_
  refine cm_ki (wr := [(mo, .inr (11, [.ref mw, .ref ma, .ref mf, .ref m0, .ref m1, .ref mu, .ref mv, .ref u0, .ref u1, .ref iz, .int 0, .ref mb, .int 0, .int 0, .int 0, .int 0, .int 0, .int 0, .int 0])), (mw, .inl (ct 0, 958, .inl m_w0))]) (vx_runSW (As := [.ref x, .int (xs (1 : Int32).toNatClampNeg), .ref ov]) (rest := []) ⟨hx, hb, hml, hown, hts⟩ (l_stepEndsIn l hfl D ct x w sp sv bu s_se s_cu s_pr s_ch s_re s_lo s_c1 s_c2 s_c3 s_p1 s_p2 s_p3 s_p4 s_ra s_la w_se w_cu w_pr w_ch w_re w_lo w_c1 w_c2 w_c3 w_p1 w_p2 w_p3 w_p4 w_ra w_la ov (fun _ => 0) (xs (1 : Int32).toNatClampNeg) _) (cm_SW 3 hts kw_L_stepEndsIn ki_RL kl_RL_342 ks_L_stepEndsIn kd_L_stepEndsIn ⟨Nat.le_of_ble_eq_true rfl, Nat.le_of_ble_eq_true rfl⟩) (cm_preS hP hK hD hS hA hX [0, 16, 17, 18, 19, 20, 21, 22, 23, 24, 25, 26, 27, 28, 29, 30, 1, 2, 3, 4, 5, 6, 7, 8, 9, 10, 11, 12, 13, 14, 15, 33] rfl rfl rfl) rfl rfl hl.1 rfl (lv_room (Nat.le_of_ble_eq_true rfl)) dL_law_2887 ⟨Nat.le_of_ble_eq_true rfl, Nat.le_of_ble_eq_true rfl⟩) hP hD hS hA [0, 16, 17, 18, 19, 20, 21, 22, 23, 24, 25, 26, 27, 28, 29, 30, 1, 2, 3, 4, 5, 6, 7, 8, 9, 10, 11, 12, 13, 14, 15, 33] [31, 32] rfl rfl rfl (by decide) (fun r_1 u H locs hw_2 hP hD hS => ?_)
  have hw_2 : r_1 = 1 := hw_2
  obtain rfl := hw_2
  have hP : va_P D vwCl [(mo, .inr (11, [.ref mw, .ref ma, .ref mf, .ref m0, .ref m1, .ref mu, .ref mv, .ref u0, .ref u1, .ref iz, .int 0, .ref mb, .int 0, .int 0, .int 0, .int 0, .int 0, .int 0, .int 0])), (mw, .inl (ct 0, 958, .inl m_w0))] H := hP
  have hD : va_D A [(mo, .inr (11, [.ref mw, .ref ma, .ref mf, .ref m0, .ref m1, .ref mu, .ref mv, .ref u0, .ref u1, .ref iz, .int 0, .ref mb, .int 0, .int 0, .int 0, .int 0, .int 0, .int 0, .int 0])), (mw, .inl (ct 0, 958, .inl m_w0))] := hD
  refine W.widen (k := 158) (n := 8801) (Nat.le_of_ble_eq_true rfl) (Nat.le_of_ble_eq_true rfl) ?_
  refine lv_istore (lv' := [(6, .int 1), (0, .ref b), (1, .ref x), (2, .ref mo), (3, .ref ov), (4, .ref od), (5, .int 0)]) hx hb dL_law_2890 hl (by decide) rfl (fun ls hl => ?_)
  refine lv_aload_n hx hb dL_law_2892 rfl (lv_at hl 3 rfl) ?_
  refine lv_aload_n hx hb dL_law_2893 rfl (lv_at hl 1 rfl) ?_
  refine lv_iload hx hb dL_law_2894 (lv_at hl 6 rfl) ?_
  refine lv_iconst (v := 1) hx hb dL_law_2896 (by decide) ?_
  refine lv_iadd hx hb dL_law_2897 ?_
  refine cm_cst (y := 1) (by decide) ?_
  refine va_sld hx hb hXs hbl hbA hS (cm_vin (by decide)) dL_law_2898 ?_
  refine cm_ki (wr := []) (va_runV (As := [.int (xs (1 : Int32).toNatClampNeg)]) (rest := []) ⟨hx, hb, hml, hown, hts⟩ (m_stepEndsIn_0 l D ct mo mw ma mf m0 m1 mu mv u0 u1 iz mb (xs (1 : Int32).toNatClampNeg) _) (cm_V 1 hts kc_X11_stepEndsIn ki_RX11 kl_RL_344 kv_X11_stepEndsIn kx_X11_stepEndsIn kd_X11_stepEndsIn ⟨Nat.le_of_ble_eq_true rfl, Nat.le_of_ble_eq_true rfl⟩) (cm_preV hP hK hD hS hA hX [0, 1] rfl rfl rfl (q0 := 0) (ci := 11) rfl rfl) rfl rfl hl.1 rfl (lv_room (Nat.le_of_ble_eq_true rfl)) dL_law_2899 ⟨Nat.le_of_ble_eq_true rfl, Nat.le_of_ble_eq_true rfl⟩) hP hD hS hA [0, 1] [] rfl rfl rfl (by decide) (fun r_3 u H locs hw_4 hP hD hS => ?_)
  have hP : va_P D vwCl [(mo, .inr (11, [.ref mw, .ref ma, .ref mf, .ref m0, .ref m1, .ref mu, .ref mv, .ref u0, .ref u1, .ref iz, .int 1, .ref mb, .int 0, .int 0, .int 0, .int 0, .int 0, .int 0, .int 0])), (mw, .inl (ct 0, 958, .inl m_w0))] H := hP
  have hD : va_D A [(mo, .inr (11, [.ref mw, .ref ma, .ref mf, .ref m0, .ref m1, .ref mu, .ref mv, .ref u0, .ref u1, .ref iz, .int 1, .ref mb, .int 0, .int 0, .int 0, .int 0, .int 0, .int 0, .int 0])), (mw, .inl (ct 0, 958, .inl m_w0))] := hD
  refine lv_istore (lv' := [(7, .int r_3), (6, .int 1), (0, .ref b), (1, .ref x), (2, .ref mo), (3, .ref ov), (4, .ref od), (5, .int 0)]) hx hb dL_law_2902 hl (by decide) rfl (fun ls hl => ?_)
  refine lv_aload_n hx hb dL_law_2904 rfl (lv_at hl 4 rfl) ?_
  refine cm_ki (wr := [(mw, .inl (ct 0, 958, .inl m_w0))]) (va_runV (As := []) (rest := []) ⟨hx, hb, hml, hown, hts⟩ (m_thrown l D ct mo mw ma mf m0 m1 mu mv u0 u1 iz mb 1 _) (cm_V 0 hts kc_X11_thrown ki_RX11 kl_RL_202 kv_X11_thrown kx_X11_thrown kd_X11_thrown ⟨Nat.le_of_ble_eq_true rfl, Nat.le_of_ble_eq_true rfl⟩) (cm_preV hP hK hD hS hA hX [0] rfl rfl rfl (q0 := 0) (ci := 11) rfl rfl) rfl rfl hl.1 rfl (lv_room (Nat.le_of_ble_eq_true rfl)) dL_law_2905 ⟨Nat.le_of_ble_eq_true rfl, Nat.le_of_ble_eq_true rfl⟩) hP hD hS hA [0] [1] rfl rfl rfl (by decide) (fun r_5 u H locs hw_6 hP hD hS => ?_)
  have hw_6 : r_5 = 1 := hw_6
  obtain rfl := hw_6
  have hP : va_P D vwCl [(mw, .inl (ct 0, 958, .inl m_w0)), (mo, .inr (11, [.ref mw, .ref ma, .ref mf, .ref m0, .ref m1, .ref mu, .ref mv, .ref u0, .ref u1, .ref iz, .int 1, .ref mb, .int 0, .int 0, .int 0, .int 0, .int 0, .int 0, .int 0]))] H := hP
  have hD : va_D A [(mw, .inl (ct 0, 958, .inl m_w0)), (mo, .inr (11, [.ref mw, .ref ma, .ref mf, .ref m0, .ref m1, .ref mu, .ref mv, .ref u0, .ref u1, .ref iz, .int 1, .ref mb, .int 0, .int 0, .int 0, .int 0, .int 0, .int 0, .int 0]))] := hD
  refine lv_iload hx hb dL_law_2908 (lv_at hl 1 rfl) ?_
  refine lv_icmp_eq (tgt := 2915) hx hb dL_law_2910 (by decide) (fun _ => ?_) (fun hc => absurd (by decide) hc)
  refine lv_iload hx hb dL_law_2915 (lv_at hl 1 rfl) ?_
  refine lv_if_ne (tgt := 2932) hx hb dL_law_2917 (by decide) (fun _ => ?_) (fun hc => absurd hc (by decide))
  refine lv_goto (tgt := 3623) hx hb dL_law_2932 (by decide) ?_
  exact law_end C1 hS (lv_sub hl [2, 7] rfl) (Nat.le_of_ble_eq_true rfl) (Nat.le_of_ble_eq_true rfl)
theorem dL_law_2935 : decode cL_law 2935 = .ok (.aload_n 1, 1) := by decide +kernel
theorem dL_law_2936 : decode cL_law 2936 = .ok (.aload_n 0, 1) := by decide +kernel
theorem dL_law_2937 : decode cL_law 2937 = .ok (.iload 5, 2) := by decide +kernel
theorem dL_law_2939 : decode cL_law 2939 = .ok (.iconst 1, 1) := by decide +kernel
theorem dL_law_2940 : decode cL_law 2940 = .ok (.iadd, 1) := by decide +kernel
theorem dL_law_2941 : decode cL_law 2941 = .ok (.iaload, 1) := by decide +kernel
theorem dL_law_2942 : decode cL_law 2942 = .ok (.aload_n 3, 1) := by decide +kernel
theorem dL_law_2943 : decode cL_law 2943 = .ok (.invokestatic 345, 3) := by decide +kernel
theorem dL_law_2946 : decode cL_law 2946 = .ok (.istore 6, 2) := by decide +kernel
theorem dL_law_2948 : decode cL_law 2948 = .ok (.aload_n 2, 1) := by decide +kernel
theorem dL_law_2949 : decode cL_law 2949 = .ok (.aload_n 0, 1) := by decide +kernel
theorem dL_law_2950 : decode cL_law 2950 = .ok (.iload 5, 2) := by decide +kernel
theorem dL_law_2952 : decode cL_law 2952 = .ok (.iconst 1, 1) := by decide +kernel
theorem dL_law_2953 : decode cL_law 2953 = .ok (.iadd, 1) := by decide +kernel
theorem dL_law_2954 : decode cL_law 2954 = .ok (.iaload, 1) := by decide +kernel
theorem dL_law_2955 : decode cL_law 2955 = .ok (.invokevirtual 347, 3) := by decide +kernel
theorem dL_law_2958 : decode cL_law 2958 = .ok (.istore 7, 2) := by decide +kernel
theorem dL_law_2960 : decode cL_law 2960 = .ok (.aload_n 2, 1) := by decide +kernel
theorem dL_law_2961 : decode cL_law 2961 = .ok (.invokevirtual 202, 3) := by decide +kernel
theorem dL_law_2964 : decode cL_law 2964 = .ok (.iload 6, 2) := by decide +kernel
theorem dL_law_2966 : decode cL_law 2966 = .ok (.if_icmp .eq 5, 3) := by decide +kernel
theorem dL_law_2971 : decode cL_law 2971 = .ok (.iload 6, 2) := by decide +kernel
theorem dL_law_2973 : decode cL_law 2973 = .ok (.ifCond .ne 15, 3) := by decide +kernel
theorem dL_law_2988 : decode cL_law 2988 = .ok (.goto 635, 3) := by decide +kernel
set_option maxRecDepth 100000 in
set_option maxHeartbeats 4000000 in
theorem law_49 {p : Program} {l : Launch} {e : Env} {s : State} {m : MethodId} {below : List Frame} {meth : Method} {c : Code} {D : va_G} {ct : Nat → ClassId} {A : Nat → Prop} {b : Nat} {xs : Nat → Int32} {H : Heap} {locs : List Loc} {ls : Array Slot} (hfl : l.stackTraces = false) (C1 : cmL p s m meth c D ct A b 4 xs) (x : Nat) (w : Nat) (sp : Nat) (sv : Nat) (bu : Nat) (w_se : Nat) (w_cu : Nat) (w_pr : Nat) (w_ch : Nat) (w_re : Nat) (w_lo : Nat) (w_c1 : Nat) (w_c2 : Nat) (w_c3 : Nat) (w_p1 : Nat) (w_p2 : Nat) (w_p3 : Nat) (w_p4 : Nat) (w_ra : Nat) (w_la : Nat) (s_se : Nat) (s_cu : Nat) (s_pr : Nat) (s_ch : Nat) (s_re : Nat) (s_lo : Nat) (s_c1 : Nat) (s_c2 : Nat) (s_c3 : Nat) (s_p1 : Nat) (s_p2 : Nat) (s_p3 : Nat) (s_p4 : Nat) (s_ra : Nat) (s_la : Nat) (mo : Nat) (mw : Nat) (ma : Nat) (mf : Nat) (m0 : Nat) (m1 : Nat) (mu : Nat) (mv : Nat) (u0 : Nat) (u1 : Nat) (iz : Nat) (mb : Nat) (ov : Nat) (od : Nat) (hP : va_P D vwCl [(x, .inr (10, [.ref w, .ref sp, .ref sv, .ref bu, .int 0, .int 0])), (w, .inr (9, [.int 0, .ref w_se, .ref w_cu, .ref w_pr, .int 0, .ref w_ch, .ref w_re, .ref w_lo])), (w_se, .inr (7, [.int 990, .int 100000, .int 100, .int 5, .int 0, .int 5000, .int 600, .int 250, .int 0, .int 5000, .int 1000, .int 0])), (w_cu, .inr (2, [.int 0, .ref w_c1, .ref w_c2, .ref w_c3])), (w_c1, .inl (ct 1, 4, .inr (.inl (fun _ => 0)))), (w_c2, .inl (ct 0, 4, .inl (fun _ => 0))), (w_c3, .inl (ct 0, 44, .inl (fun _ => 0))), (w_pr, .inr (5, [.int 0, .ref w_p1, .ref w_p2, .ref w_p3, .ref w_p4])), (w_p1, .inl (ct 0, 4, .inl (fun _ => 0))), (w_p2, .inl (ct 0, 48, .inl (fun _ => 0))), (w_p3, .inl (ct 0, 48, .inl (fun _ => 0))), (w_p4, .inl (ct 0, 48, .inl (fun _ => 0))), (w_re, .inr (8, [.int 30, .int 5, .ref w_ra, .int 0, .int 0])), (w_ra, .inl (ct 0, 150, .inl (fun _ => 0))), (w_lo, .inr (8, [.int 60, .int 4, .ref w_la, .int 0, .int 0])), (w_la, .inl (ct 0, 240, .inl (fun _ => 0))), (sp, .inr (9, [.int 0, .ref s_se, .ref s_cu, .ref s_pr, .int 0, .ref s_ch, .ref s_re, .ref s_lo])), (s_se, .inr (7, [.int 990, .int 100000, .int 100, .int 5, .int 0, .int 5000, .int 600, .int 250, .int 0, .int 5000, .int 1000, .int 0])), (s_cu, .inr (2, [.int 0, .ref s_c1, .ref s_c2, .ref s_c3])), (s_c1, .inl (ct 1, 4, .inr (.inl (fun _ => 0)))), (s_c2, .inl (ct 0, 4, .inl (fun _ => 0))), (s_c3, .inl (ct 0, 44, .inl (fun _ => 0))), (s_pr, .inr (5, [.int 0, .ref s_p1, .ref s_p2, .ref s_p3, .ref s_p4])), (s_p1, .inl (ct 0, 4, .inl (fun _ => 0))), (s_p2, .inl (ct 0, 48, .inl (fun _ => 0))), (s_p3, .inl (ct 0, 48, .inl (fun _ => 0))), (s_p4, .inl (ct 0, 48, .inl (fun _ => 0))), (s_re, .inr (8, [.int 30, .int 5, .ref s_ra, .int 0, .int 0])), (s_ra, .inl (ct 0, 150, .inl (fun _ => 0))), (s_lo, .inr (8, [.int 60, .int 4, .ref s_la, .int 0, .int 0])), (s_la, .inl (ct 0, 240, .inl (fun _ => 0))), (mo, .inr (11, [.ref mw, .ref ma, .ref mf, .ref m0, .ref m1, .ref mu, .ref mv, .ref u0, .ref u1, .ref iz, .int 0, .ref mb, .int 0, .int 0, .int 0, .int 0, .int 0, .int 0, .int 0])), (mw, .inl (ct 0, 958, .inl m_w0)), (ov, .inl (ct 1, 1, .inr (.inl (fun _ => 0))))] H) (hD : va_D A [(x, .inr (10, [.ref w, .ref sp, .ref sv, .ref bu, .int 0, .int 0])), (w, .inr (9, [.int 0, .ref w_se, .ref w_cu, .ref w_pr, .int 0, .ref w_ch, .ref w_re, .ref w_lo])), (w_se, .inr (7, [.int 990, .int 100000, .int 100, .int 5, .int 0, .int 5000, .int 600, .int 250, .int 0, .int 5000, .int 1000, .int 0])), (w_cu, .inr (2, [.int 0, .ref w_c1, .ref w_c2, .ref w_c3])), (w_c1, .inl (ct 1, 4, .inr (.inl (fun _ => 0)))), (w_c2, .inl (ct 0, 4, .inl (fun _ => 0))), (w_c3, .inl (ct 0, 44, .inl (fun _ => 0))), (w_pr, .inr (5, [.int 0, .ref w_p1, .ref w_p2, .ref w_p3, .ref w_p4])), (w_p1, .inl (ct 0, 4, .inl (fun _ => 0))), (w_p2, .inl (ct 0, 48, .inl (fun _ => 0))), (w_p3, .inl (ct 0, 48, .inl (fun _ => 0))), (w_p4, .inl (ct 0, 48, .inl (fun _ => 0))), (w_re, .inr (8, [.int 30, .int 5, .ref w_ra, .int 0, .int 0])), (w_ra, .inl (ct 0, 150, .inl (fun _ => 0))), (w_lo, .inr (8, [.int 60, .int 4, .ref w_la, .int 0, .int 0])), (w_la, .inl (ct 0, 240, .inl (fun _ => 0))), (sp, .inr (9, [.int 0, .ref s_se, .ref s_cu, .ref s_pr, .int 0, .ref s_ch, .ref s_re, .ref s_lo])), (s_se, .inr (7, [.int 990, .int 100000, .int 100, .int 5, .int 0, .int 5000, .int 600, .int 250, .int 0, .int 5000, .int 1000, .int 0])), (s_cu, .inr (2, [.int 0, .ref s_c1, .ref s_c2, .ref s_c3])), (s_c1, .inl (ct 1, 4, .inr (.inl (fun _ => 0)))), (s_c2, .inl (ct 0, 4, .inl (fun _ => 0))), (s_c3, .inl (ct 0, 44, .inl (fun _ => 0))), (s_pr, .inr (5, [.int 0, .ref s_p1, .ref s_p2, .ref s_p3, .ref s_p4])), (s_p1, .inl (ct 0, 4, .inl (fun _ => 0))), (s_p2, .inl (ct 0, 48, .inl (fun _ => 0))), (s_p3, .inl (ct 0, 48, .inl (fun _ => 0))), (s_p4, .inl (ct 0, 48, .inl (fun _ => 0))), (s_re, .inr (8, [.int 30, .int 5, .ref s_ra, .int 0, .int 0])), (s_ra, .inl (ct 0, 150, .inl (fun _ => 0))), (s_lo, .inr (8, [.int 60, .int 4, .ref s_la, .int 0, .int 0])), (s_la, .inl (ct 0, 240, .inl (fun _ => 0))), (mo, .inr (11, [.ref mw, .ref ma, .ref mf, .ref m0, .ref m1, .ref mu, .ref mv, .ref u0, .ref u1, .ref iz, .int 0, .ref mb, .int 0, .int 0, .int 0, .int 0, .int 0, .int 0, .int 0])), (mw, .inl (ct 0, 958, .inl m_w0)), (ov, .inl (ct 1, 1, .inr (.inl (fun _ => 0))))]) (hS : va_S A s.heap H locs) (hl : lv_has ls 9 [(0, .ref b), (1, .ref x), (2, .ref mo), (3, .ref ov), (4, .ref od), (5, .int 0)]) : W p l e room_1 s m #[Value.ref b] below meth c H locs 157 8795 (lw_Z below #[Value.ref b] s) (F0 m 2935 ls []) := by
  obtain ⟨hx, hb, hr, hml, hown, hts, hK, hX, hXs, hbl, hbA, hA, hAr, hlocks⟩ := id C1
  refine lv_aload_n hx hb dL_law_2935 rfl (lv_at hl 1 rfl) ?_
  refine lv_aload_n hx hb dL_law_2936 rfl (lv_at hl 0 rfl) ?_
  refine lv_iload hx hb dL_law_2937 (lv_at hl 5 rfl) ?_
  refine lv_iconst (v := 1) hx hb dL_law_2939 (by decide) ?_
  refine lv_iadd hx hb dL_law_2940 ?_
  refine cm_cst (y := 1) (by decide) ?_
  refine va_sld hx hb hXs hbl hbA hS (cm_vin (by decide)) dL_law_2941 ?_
  refine lv_aload_n hx hb dL_law_2942 rfl (lv_at hl 3 rfl) ?_
  refine cm_ki (wr := [(mo, .inr (11, [.ref mw, .ref ma, .ref mf, .ref m0, .ref m1, .ref mu, .ref mv, .ref u0, .ref u1, .ref iz, .int 0, .ref mb, .int 0, .int 0, .int 0, .int 0, .int 0, .int 0, .int 0])), (mw, .inl (ct 0, 958, .inl m_w0))]) (vx_runSW (As := [.ref x, .int (xs (1 : Int32).toNatClampNeg), .ref ov]) (rest := []) ⟨hx, hb, hml, hown, hts⟩ (l_doneIn l hfl D ct x w sp sv bu s_se s_cu s_pr s_ch s_re s_lo s_c1 s_c2 s_c3 s_p1 s_p2 s_p3 s_p4 s_ra s_la w_se w_cu w_pr w_ch w_re w_lo w_c1 w_c2 w_c3 w_p1 w_p2 w_p3 w_p4 w_ra w_la ov (fun _ => 0) (xs (1 : Int32).toNatClampNeg) _) (cm_SW 3 hts kw_L_doneIn ki_RL kl_RL_345 ks_L_doneIn kd_L_doneIn ⟨Nat.le_of_ble_eq_true rfl, Nat.le_of_ble_eq_true rfl⟩) (cm_preS hP hK hD hS hA hX [0, 16, 17, 18, 19, 20, 21, 22, 23, 24, 25, 26, 27, 28, 29, 30, 1, 2, 3, 4, 5, 6, 7, 8, 9, 10, 11, 12, 13, 14, 15, 33] rfl rfl rfl) rfl rfl hl.1 rfl (lv_room (Nat.le_of_ble_eq_true rfl)) dL_law_2943 ⟨Nat.le_of_ble_eq_true rfl, Nat.le_of_ble_eq_true rfl⟩) hP hD hS hA [0, 16, 17, 18, 19, 20, 21, 22, 23, 24, 25, 26, 27, 28, 29, 30, 1, 2, 3, 4, 5, 6, 7, 8, 9, 10, 11, 12, 13, 14, 15, 33] [31, 32] rfl rfl rfl (by decide) (fun r_1 u H locs hw_2 hP hD hS => ?_)
  have hw_2 : r_1 = 1 := hw_2
  obtain rfl := hw_2
  have hP : va_P D vwCl [(mo, .inr (11, [.ref mw, .ref ma, .ref mf, .ref m0, .ref m1, .ref mu, .ref mv, .ref u0, .ref u1, .ref iz, .int 0, .ref mb, .int 0, .int 0, .int 0, .int 0, .int 0, .int 0, .int 0])), (mw, .inl (ct 0, 958, .inl m_w0))] H := hP
  have hD : va_D A [(mo, .inr (11, [.ref mw, .ref ma, .ref mf, .ref m0, .ref m1, .ref mu, .ref mv, .ref u0, .ref u1, .ref iz, .int 0, .ref mb, .int 0, .int 0, .int 0, .int 0, .int 0, .int 0, .int 0])), (mw, .inl (ct 0, 958, .inl m_w0))] := hD
  refine W.widen (k := 158) (n := 8801) (Nat.le_of_ble_eq_true rfl) (Nat.le_of_ble_eq_true rfl) ?_
  refine lv_istore (lv' := [(6, .int 1), (0, .ref b), (1, .ref x), (2, .ref mo), (3, .ref ov), (4, .ref od), (5, .int 0)]) hx hb dL_law_2946 hl (by decide) rfl (fun ls hl => ?_)
  refine lv_aload_n hx hb dL_law_2948 rfl (lv_at hl 3 rfl) ?_
  refine lv_aload_n hx hb dL_law_2949 rfl (lv_at hl 1 rfl) ?_
  refine lv_iload hx hb dL_law_2950 (lv_at hl 6 rfl) ?_
  refine lv_iconst (v := 1) hx hb dL_law_2952 (by decide) ?_
  refine lv_iadd hx hb dL_law_2953 ?_
  refine cm_cst (y := 1) (by decide) ?_
  refine va_sld hx hb hXs hbl hbA hS (cm_vin (by decide)) dL_law_2954 ?_
  refine cm_ki (wr := []) (va_runV (As := [.int (xs (1 : Int32).toNatClampNeg)]) (rest := []) ⟨hx, hb, hml, hown, hts⟩ (m_doneIn_0 l D ct mo mw ma mf m0 m1 mu mv u0 u1 iz mb (xs (1 : Int32).toNatClampNeg) _) (cm_V 1 hts kc_X11_doneIn ki_RX11 kl_RL_347 kv_X11_doneIn kx_X11_doneIn kd_X11_doneIn ⟨Nat.le_of_ble_eq_true rfl, Nat.le_of_ble_eq_true rfl⟩) (cm_preV hP hK hD hS hA hX [0, 1] rfl rfl rfl (q0 := 0) (ci := 11) rfl rfl) rfl rfl hl.1 rfl (lv_room (Nat.le_of_ble_eq_true rfl)) dL_law_2955 ⟨Nat.le_of_ble_eq_true rfl, Nat.le_of_ble_eq_true rfl⟩) hP hD hS hA [0, 1] [] rfl rfl rfl (by decide) (fun r_3 u H locs hw_4 hP hD hS => ?_)
  have hP : va_P D vwCl [(mo, .inr (11, [.ref mw, .ref ma, .ref mf, .ref m0, .ref m1, .ref mu, .ref mv, .ref u0, .ref u1, .ref iz, .int 1, .ref mb, .int 0, .int 0, .int 0, .int 0, .int 0, .int 0, .int 0])), (mw, .inl (ct 0, 958, .inl m_w0))] H := hP
  have hD : va_D A [(mo, .inr (11, [.ref mw, .ref ma, .ref mf, .ref m0, .ref m1, .ref mu, .ref mv, .ref u0, .ref u1, .ref iz, .int 1, .ref mb, .int 0, .int 0, .int 0, .int 0, .int 0, .int 0, .int 0])), (mw, .inl (ct 0, 958, .inl m_w0))] := hD
  refine lv_istore (lv' := [(7, .int r_3), (6, .int 1), (0, .ref b), (1, .ref x), (2, .ref mo), (3, .ref ov), (4, .ref od), (5, .int 0)]) hx hb dL_law_2958 hl (by decide) rfl (fun ls hl => ?_)
  refine lv_aload_n hx hb dL_law_2960 rfl (lv_at hl 4 rfl) ?_
  refine cm_ki (wr := [(mw, .inl (ct 0, 958, .inl m_w0))]) (va_runV (As := []) (rest := []) ⟨hx, hb, hml, hown, hts⟩ (m_thrown l D ct mo mw ma mf m0 m1 mu mv u0 u1 iz mb 1 _) (cm_V 0 hts kc_X11_thrown ki_RX11 kl_RL_202 kv_X11_thrown kx_X11_thrown kd_X11_thrown ⟨Nat.le_of_ble_eq_true rfl, Nat.le_of_ble_eq_true rfl⟩) (cm_preV hP hK hD hS hA hX [0] rfl rfl rfl (q0 := 0) (ci := 11) rfl rfl) rfl rfl hl.1 rfl (lv_room (Nat.le_of_ble_eq_true rfl)) dL_law_2961 ⟨Nat.le_of_ble_eq_true rfl, Nat.le_of_ble_eq_true rfl⟩) hP hD hS hA [0] [1] rfl rfl rfl (by decide) (fun r_5 u H locs hw_6 hP hD hS => ?_)
  have hw_6 : r_5 = 1 := hw_6
  obtain rfl := hw_6
  have hP : va_P D vwCl [(mw, .inl (ct 0, 958, .inl m_w0)), (mo, .inr (11, [.ref mw, .ref ma, .ref mf, .ref m0, .ref m1, .ref mu, .ref mv, .ref u0, .ref u1, .ref iz, .int 1, .ref mb, .int 0, .int 0, .int 0, .int 0, .int 0, .int 0, .int 0]))] H := hP
  have hD : va_D A [(mw, .inl (ct 0, 958, .inl m_w0)), (mo, .inr (11, [.ref mw, .ref ma, .ref mf, .ref m0, .ref m1, .ref mu, .ref mv, .ref u0, .ref u1, .ref iz, .int 1, .ref mb, .int 0, .int 0, .int 0, .int 0, .int 0, .int 0, .int 0]))] := hD
  refine lv_iload hx hb dL_law_2964 (lv_at hl 1 rfl) ?_
  refine lv_icmp_eq (tgt := 2971) hx hb dL_law_2966 (by decide) (fun _ => ?_) (fun hc => absurd (by decide) hc)
  refine lv_iload hx hb dL_law_2971 (lv_at hl 1 rfl) ?_
  refine lv_if_ne (tgt := 2988) hx hb dL_law_2973 (by decide) (fun _ => ?_) (fun hc => absurd hc (by decide))
  refine lv_goto (tgt := 3623) hx hb dL_law_2988 (by decide) ?_
  exact law_end C1 hS (lv_sub hl [2, 7] rfl) (Nat.le_of_ble_eq_true rfl) (Nat.le_of_ble_eq_true rfl)
theorem dL_law_2991 : decode cL_law 2991 = .ok (.aload_n 1, 1) := by decide +kernel
theorem dL_law_2992 : decode cL_law 2992 = .ok (.aload_n 0, 1) := by decide +kernel
theorem dL_law_2993 : decode cL_law 2993 = .ok (.iload 5, 2) := by decide +kernel
theorem dL_law_2995 : decode cL_law 2995 = .ok (.iconst 1, 1) := by decide +kernel
theorem dL_law_2996 : decode cL_law 2996 = .ok (.iadd, 1) := by decide +kernel
theorem dL_law_2997 : decode cL_law 2997 = .ok (.iaload, 1) := by decide +kernel
theorem dL_law_2998 : decode cL_law 2998 = .ok (.aload_n 3, 1) := by decide +kernel
theorem dL_law_2999 : decode cL_law 2999 = .ok (.invokestatic 348, 3) := by decide +kernel
theorem dL_law_3002 : decode cL_law 3002 = .ok (.istore 6, 2) := by decide +kernel
theorem dL_law_3004 : decode cL_law 3004 = .ok (.aload_n 2, 1) := by decide +kernel
theorem dL_law_3005 : decode cL_law 3005 = .ok (.aload_n 0, 1) := by decide +kernel
theorem dL_law_3006 : decode cL_law 3006 = .ok (.iload 5, 2) := by decide +kernel
theorem dL_law_3008 : decode cL_law 3008 = .ok (.iconst 1, 1) := by decide +kernel
theorem dL_law_3009 : decode cL_law 3009 = .ok (.iadd, 1) := by decide +kernel
theorem dL_law_3010 : decode cL_law 3010 = .ok (.iaload, 1) := by decide +kernel
theorem dL_law_3011 : decode cL_law 3011 = .ok (.invokevirtual 350, 3) := by decide +kernel
theorem dL_law_3014 : decode cL_law 3014 = .ok (.istore 7, 2) := by decide +kernel
theorem dL_law_3016 : decode cL_law 3016 = .ok (.aload_n 2, 1) := by decide +kernel
theorem dL_law_3017 : decode cL_law 3017 = .ok (.invokevirtual 202, 3) := by decide +kernel
theorem dL_law_3020 : decode cL_law 3020 = .ok (.iload 6, 2) := by decide +kernel
theorem dL_law_3022 : decode cL_law 3022 = .ok (.if_icmp .eq 5, 3) := by decide +kernel
theorem dL_law_3027 : decode cL_law 3027 = .ok (.iload 6, 2) := by decide +kernel
theorem dL_law_3029 : decode cL_law 3029 = .ok (.ifCond .ne 15, 3) := by decide +kernel
theorem dL_law_3044 : decode cL_law 3044 = .ok (.goto 579, 3) := by decide +kernel
set_option maxRecDepth 100000 in
set_option maxHeartbeats 4000000 in
theorem law_50 {p : Program} {l : Launch} {e : Env} {s : State} {m : MethodId} {below : List Frame} {meth : Method} {c : Code} {D : va_G} {ct : Nat → ClassId} {A : Nat → Prop} {b : Nat} {xs : Nat → Int32} {H : Heap} {locs : List Loc} {ls : Array Slot} (hfl : l.stackTraces = false) (C1 : cmL p s m meth c D ct A b 4 xs) (x : Nat) (w : Nat) (sp : Nat) (sv : Nat) (bu : Nat) (w_se : Nat) (w_cu : Nat) (w_pr : Nat) (w_ch : Nat) (w_re : Nat) (w_lo : Nat) (w_c1 : Nat) (w_c2 : Nat) (w_c3 : Nat) (w_p1 : Nat) (w_p2 : Nat) (w_p3 : Nat) (w_p4 : Nat) (w_ra : Nat) (w_la : Nat) (s_se : Nat) (s_cu : Nat) (s_pr : Nat) (s_ch : Nat) (s_re : Nat) (s_lo : Nat) (s_c1 : Nat) (s_c2 : Nat) (s_c3 : Nat) (s_p1 : Nat) (s_p2 : Nat) (s_p3 : Nat) (s_p4 : Nat) (s_ra : Nat) (s_la : Nat) (mo : Nat) (mw : Nat) (ma : Nat) (mf : Nat) (m0 : Nat) (m1 : Nat) (mu : Nat) (mv : Nat) (u0 : Nat) (u1 : Nat) (iz : Nat) (mb : Nat) (ov : Nat) (od : Nat) (hP : va_P D vwCl [(x, .inr (10, [.ref w, .ref sp, .ref sv, .ref bu, .int 0, .int 0])), (w, .inr (9, [.int 0, .ref w_se, .ref w_cu, .ref w_pr, .int 0, .ref w_ch, .ref w_re, .ref w_lo])), (w_se, .inr (7, [.int 990, .int 100000, .int 100, .int 5, .int 0, .int 5000, .int 600, .int 250, .int 0, .int 5000, .int 1000, .int 0])), (w_cu, .inr (2, [.int 0, .ref w_c1, .ref w_c2, .ref w_c3])), (w_c1, .inl (ct 1, 4, .inr (.inl (fun _ => 0)))), (w_c2, .inl (ct 0, 4, .inl (fun _ => 0))), (w_c3, .inl (ct 0, 44, .inl (fun _ => 0))), (w_pr, .inr (5, [.int 0, .ref w_p1, .ref w_p2, .ref w_p3, .ref w_p4])), (w_p1, .inl (ct 0, 4, .inl (fun _ => 0))), (w_p2, .inl (ct 0, 48, .inl (fun _ => 0))), (w_p3, .inl (ct 0, 48, .inl (fun _ => 0))), (w_p4, .inl (ct 0, 48, .inl (fun _ => 0))), (w_re, .inr (8, [.int 30, .int 5, .ref w_ra, .int 0, .int 0])), (w_ra, .inl (ct 0, 150, .inl (fun _ => 0))), (w_lo, .inr (8, [.int 60, .int 4, .ref w_la, .int 0, .int 0])), (w_la, .inl (ct 0, 240, .inl (fun _ => 0))), (sp, .inr (9, [.int 0, .ref s_se, .ref s_cu, .ref s_pr, .int 0, .ref s_ch, .ref s_re, .ref s_lo])), (s_se, .inr (7, [.int 990, .int 100000, .int 100, .int 5, .int 0, .int 5000, .int 600, .int 250, .int 0, .int 5000, .int 1000, .int 0])), (s_cu, .inr (2, [.int 0, .ref s_c1, .ref s_c2, .ref s_c3])), (s_c1, .inl (ct 1, 4, .inr (.inl (fun _ => 0)))), (s_c2, .inl (ct 0, 4, .inl (fun _ => 0))), (s_c3, .inl (ct 0, 44, .inl (fun _ => 0))), (s_pr, .inr (5, [.int 0, .ref s_p1, .ref s_p2, .ref s_p3, .ref s_p4])), (s_p1, .inl (ct 0, 4, .inl (fun _ => 0))), (s_p2, .inl (ct 0, 48, .inl (fun _ => 0))), (s_p3, .inl (ct 0, 48, .inl (fun _ => 0))), (s_p4, .inl (ct 0, 48, .inl (fun _ => 0))), (s_re, .inr (8, [.int 30, .int 5, .ref s_ra, .int 0, .int 0])), (s_ra, .inl (ct 0, 150, .inl (fun _ => 0))), (s_lo, .inr (8, [.int 60, .int 4, .ref s_la, .int 0, .int 0])), (s_la, .inl (ct 0, 240, .inl (fun _ => 0))), (mo, .inr (11, [.ref mw, .ref ma, .ref mf, .ref m0, .ref m1, .ref mu, .ref mv, .ref u0, .ref u1, .ref iz, .int 0, .ref mb, .int 0, .int 0, .int 0, .int 0, .int 0, .int 0, .int 0])), (mw, .inl (ct 0, 958, .inl m_w0)), (ov, .inl (ct 1, 1, .inr (.inl (fun _ => 0))))] H) (hD : va_D A [(x, .inr (10, [.ref w, .ref sp, .ref sv, .ref bu, .int 0, .int 0])), (w, .inr (9, [.int 0, .ref w_se, .ref w_cu, .ref w_pr, .int 0, .ref w_ch, .ref w_re, .ref w_lo])), (w_se, .inr (7, [.int 990, .int 100000, .int 100, .int 5, .int 0, .int 5000, .int 600, .int 250, .int 0, .int 5000, .int 1000, .int 0])), (w_cu, .inr (2, [.int 0, .ref w_c1, .ref w_c2, .ref w_c3])), (w_c1, .inl (ct 1, 4, .inr (.inl (fun _ => 0)))), (w_c2, .inl (ct 0, 4, .inl (fun _ => 0))), (w_c3, .inl (ct 0, 44, .inl (fun _ => 0))), (w_pr, .inr (5, [.int 0, .ref w_p1, .ref w_p2, .ref w_p3, .ref w_p4])), (w_p1, .inl (ct 0, 4, .inl (fun _ => 0))), (w_p2, .inl (ct 0, 48, .inl (fun _ => 0))), (w_p3, .inl (ct 0, 48, .inl (fun _ => 0))), (w_p4, .inl (ct 0, 48, .inl (fun _ => 0))), (w_re, .inr (8, [.int 30, .int 5, .ref w_ra, .int 0, .int 0])), (w_ra, .inl (ct 0, 150, .inl (fun _ => 0))), (w_lo, .inr (8, [.int 60, .int 4, .ref w_la, .int 0, .int 0])), (w_la, .inl (ct 0, 240, .inl (fun _ => 0))), (sp, .inr (9, [.int 0, .ref s_se, .ref s_cu, .ref s_pr, .int 0, .ref s_ch, .ref s_re, .ref s_lo])), (s_se, .inr (7, [.int 990, .int 100000, .int 100, .int 5, .int 0, .int 5000, .int 600, .int 250, .int 0, .int 5000, .int 1000, .int 0])), (s_cu, .inr (2, [.int 0, .ref s_c1, .ref s_c2, .ref s_c3])), (s_c1, .inl (ct 1, 4, .inr (.inl (fun _ => 0)))), (s_c2, .inl (ct 0, 4, .inl (fun _ => 0))), (s_c3, .inl (ct 0, 44, .inl (fun _ => 0))), (s_pr, .inr (5, [.int 0, .ref s_p1, .ref s_p2, .ref s_p3, .ref s_p4])), (s_p1, .inl (ct 0, 4, .inl (fun _ => 0))), (s_p2, .inl (ct 0, 48, .inl (fun _ => 0))), (s_p3, .inl (ct 0, 48, .inl (fun _ => 0))), (s_p4, .inl (ct 0, 48, .inl (fun _ => 0))), (s_re, .inr (8, [.int 30, .int 5, .ref s_ra, .int 0, .int 0])), (s_ra, .inl (ct 0, 150, .inl (fun _ => 0))), (s_lo, .inr (8, [.int 60, .int 4, .ref s_la, .int 0, .int 0])), (s_la, .inl (ct 0, 240, .inl (fun _ => 0))), (mo, .inr (11, [.ref mw, .ref ma, .ref mf, .ref m0, .ref m1, .ref mu, .ref mv, .ref u0, .ref u1, .ref iz, .int 0, .ref mb, .int 0, .int 0, .int 0, .int 0, .int 0, .int 0, .int 0])), (mw, .inl (ct 0, 958, .inl m_w0)), (ov, .inl (ct 1, 1, .inr (.inl (fun _ => 0))))]) (hS : va_S A s.heap H locs) (hl : lv_has ls 9 [(0, .ref b), (1, .ref x), (2, .ref mo), (3, .ref ov), (4, .ref od), (5, .int 0)]) : W p l e room_1 s m #[Value.ref b] below meth c H locs 157 8795 (lw_Z below #[Value.ref b] s) (F0 m 2991 ls []) := by
  obtain ⟨hx, hb, hr, hml, hown, hts, hK, hX, hXs, hbl, hbA, hA, hAr, hlocks⟩ := id C1
  refine lv_aload_n hx hb dL_law_2991 rfl (lv_at hl 1 rfl) ?_
  refine lv_aload_n hx hb dL_law_2992 rfl (lv_at hl 0 rfl) ?_
  refine lv_iload hx hb dL_law_2993 (lv_at hl 5 rfl) ?_
  refine lv_iconst (v := 1) hx hb dL_law_2995 (by decide) ?_
  refine lv_iadd hx hb dL_law_2996 ?_
  refine cm_cst (y := 1) (by decide) ?_
  refine va_sld hx hb hXs hbl hbA hS (cm_vin (by decide)) dL_law_2997 ?_
  refine lv_aload_n hx hb dL_law_2998 rfl (lv_at hl 3 rfl) ?_
  refine cm_ki (wr := [(mo, .inr (11, [.ref mw, .ref ma, .ref mf, .ref m0, .ref m1, .ref mu, .ref mv, .ref u0, .ref u1, .ref iz, .int 0, .ref mb, .int 0, .int 0, .int 0, .int 0, .int 0, .int 0, .int 0])), (mw, .inl (ct 0, 958, .inl m_w0))]) (vx_runSW (As := [.ref x, .int (xs (1 : Int32).toNatClampNeg), .ref ov]) (rest := []) ⟨hx, hb, hml, hown, hts⟩ (l_tripsIn l hfl D ct x w sp sv bu s_se s_cu s_pr s_ch s_re s_lo s_c1 s_c2 s_c3 s_p1 s_p2 s_p3 s_p4 s_ra s_la w_se w_cu w_pr w_ch w_re w_lo w_c1 w_c2 w_c3 w_p1 w_p2 w_p3 w_p4 w_ra w_la ov (fun _ => 0) (xs (1 : Int32).toNatClampNeg) _) (cm_SW 3 hts kw_L_tripsIn ki_RL kl_RL_348 ks_L_tripsIn kd_L_tripsIn ⟨Nat.le_of_ble_eq_true rfl, Nat.le_of_ble_eq_true rfl⟩) (cm_preS hP hK hD hS hA hX [0, 16, 17, 18, 19, 20, 21, 22, 23, 24, 25, 26, 27, 28, 29, 30, 1, 2, 3, 4, 5, 6, 7, 8, 9, 10, 11, 12, 13, 14, 15, 33] rfl rfl rfl) rfl rfl hl.1 rfl (lv_room (Nat.le_of_ble_eq_true rfl)) dL_law_2999 ⟨Nat.le_of_ble_eq_true rfl, Nat.le_of_ble_eq_true rfl⟩) hP hD hS hA [0, 16, 17, 18, 19, 20, 21, 22, 23, 24, 25, 26, 27, 28, 29, 30, 1, 2, 3, 4, 5, 6, 7, 8, 9, 10, 11, 12, 13, 14, 15, 33] [31, 32] rfl rfl rfl (by decide) (fun r_1 u H locs hw_2 hP hD hS => ?_)
  have hw_2 : r_1 = 1 := hw_2
  obtain rfl := hw_2
  have hP : va_P D vwCl [(mo, .inr (11, [.ref mw, .ref ma, .ref mf, .ref m0, .ref m1, .ref mu, .ref mv, .ref u0, .ref u1, .ref iz, .int 0, .ref mb, .int 0, .int 0, .int 0, .int 0, .int 0, .int 0, .int 0])), (mw, .inl (ct 0, 958, .inl m_w0))] H := hP
  have hD : va_D A [(mo, .inr (11, [.ref mw, .ref ma, .ref mf, .ref m0, .ref m1, .ref mu, .ref mv, .ref u0, .ref u1, .ref iz, .int 0, .ref mb, .int 0, .int 0, .int 0, .int 0, .int 0, .int 0, .int 0])), (mw, .inl (ct 0, 958, .inl m_w0))] := hD
  refine W.widen (k := 158) (n := 8801) (Nat.le_of_ble_eq_true rfl) (Nat.le_of_ble_eq_true rfl) ?_
  refine lv_istore (lv' := [(6, .int 1), (0, .ref b), (1, .ref x), (2, .ref mo), (3, .ref ov), (4, .ref od), (5, .int 0)]) hx hb dL_law_3002 hl (by decide) rfl (fun ls hl => ?_)
  refine lv_aload_n hx hb dL_law_3004 rfl (lv_at hl 3 rfl) ?_
  refine lv_aload_n hx hb dL_law_3005 rfl (lv_at hl 1 rfl) ?_
  refine lv_iload hx hb dL_law_3006 (lv_at hl 6 rfl) ?_
  refine lv_iconst (v := 1) hx hb dL_law_3008 (by decide) ?_
  refine lv_iadd hx hb dL_law_3009 ?_
  refine cm_cst (y := 1) (by decide) ?_
  refine va_sld hx hb hXs hbl hbA hS (cm_vin (by decide)) dL_law_3010 ?_
  refine cm_ki (wr := []) (va_runV (As := [.int (xs (1 : Int32).toNatClampNeg)]) (rest := []) ⟨hx, hb, hml, hown, hts⟩ (m_tripsIn_0 l D ct mo mw ma mf m0 m1 mu mv u0 u1 iz mb (xs (1 : Int32).toNatClampNeg) _) (cm_V 1 hts kc_X11_tripsIn ki_RX11 kl_RL_350 kv_X11_tripsIn kx_X11_tripsIn kd_X11_tripsIn ⟨Nat.le_of_ble_eq_true rfl, Nat.le_of_ble_eq_true rfl⟩) (cm_preV hP hK hD hS hA hX [0, 1] rfl rfl rfl (q0 := 0) (ci := 11) rfl rfl) rfl rfl hl.1 rfl (lv_room (Nat.le_of_ble_eq_true rfl)) dL_law_3011 ⟨Nat.le_of_ble_eq_true rfl, Nat.le_of_ble_eq_true rfl⟩) hP hD hS hA [0, 1] [] rfl rfl rfl (by decide) (fun r_3 u H locs hw_4 hP hD hS => ?_)
  have hP : va_P D vwCl [(mo, .inr (11, [.ref mw, .ref ma, .ref mf, .ref m0, .ref m1, .ref mu, .ref mv, .ref u0, .ref u1, .ref iz, .int 1, .ref mb, .int 0, .int 0, .int 0, .int 0, .int 0, .int 0, .int 0])), (mw, .inl (ct 0, 958, .inl m_w0))] H := hP
  have hD : va_D A [(mo, .inr (11, [.ref mw, .ref ma, .ref mf, .ref m0, .ref m1, .ref mu, .ref mv, .ref u0, .ref u1, .ref iz, .int 1, .ref mb, .int 0, .int 0, .int 0, .int 0, .int 0, .int 0, .int 0])), (mw, .inl (ct 0, 958, .inl m_w0))] := hD
  refine lv_istore (lv' := [(7, .int r_3), (6, .int 1), (0, .ref b), (1, .ref x), (2, .ref mo), (3, .ref ov), (4, .ref od), (5, .int 0)]) hx hb dL_law_3014 hl (by decide) rfl (fun ls hl => ?_)
  refine lv_aload_n hx hb dL_law_3016 rfl (lv_at hl 4 rfl) ?_
  refine cm_ki (wr := [(mw, .inl (ct 0, 958, .inl m_w0))]) (va_runV (As := []) (rest := []) ⟨hx, hb, hml, hown, hts⟩ (m_thrown l D ct mo mw ma mf m0 m1 mu mv u0 u1 iz mb 1 _) (cm_V 0 hts kc_X11_thrown ki_RX11 kl_RL_202 kv_X11_thrown kx_X11_thrown kd_X11_thrown ⟨Nat.le_of_ble_eq_true rfl, Nat.le_of_ble_eq_true rfl⟩) (cm_preV hP hK hD hS hA hX [0] rfl rfl rfl (q0 := 0) (ci := 11) rfl rfl) rfl rfl hl.1 rfl (lv_room (Nat.le_of_ble_eq_true rfl)) dL_law_3017 ⟨Nat.le_of_ble_eq_true rfl, Nat.le_of_ble_eq_true rfl⟩) hP hD hS hA [0] [1] rfl rfl rfl (by decide) (fun r_5 u H locs hw_6 hP hD hS => ?_)
  have hw_6 : r_5 = 1 := hw_6
  obtain rfl := hw_6
  have hP : va_P D vwCl [(mw, .inl (ct 0, 958, .inl m_w0)), (mo, .inr (11, [.ref mw, .ref ma, .ref mf, .ref m0, .ref m1, .ref mu, .ref mv, .ref u0, .ref u1, .ref iz, .int 1, .ref mb, .int 0, .int 0, .int 0, .int 0, .int 0, .int 0, .int 0]))] H := hP
  have hD : va_D A [(mw, .inl (ct 0, 958, .inl m_w0)), (mo, .inr (11, [.ref mw, .ref ma, .ref mf, .ref m0, .ref m1, .ref mu, .ref mv, .ref u0, .ref u1, .ref iz, .int 1, .ref mb, .int 0, .int 0, .int 0, .int 0, .int 0, .int 0, .int 0]))] := hD
  refine lv_iload hx hb dL_law_3020 (lv_at hl 1 rfl) ?_
  refine lv_icmp_eq (tgt := 3027) hx hb dL_law_3022 (by decide) (fun _ => ?_) (fun hc => absurd (by decide) hc)
  refine lv_iload hx hb dL_law_3027 (lv_at hl 1 rfl) ?_
  refine lv_if_ne (tgt := 3044) hx hb dL_law_3029 (by decide) (fun _ => ?_) (fun hc => absurd hc (by decide))
  refine lv_goto (tgt := 3623) hx hb dL_law_3044 (by decide) ?_
  exact law_end C1 hS (lv_sub hl [2, 7] rfl) (Nat.le_of_ble_eq_true rfl) (Nat.le_of_ble_eq_true rfl)
theorem dL_law_3047 : decode cL_law 3047 = .ok (.aload_n 1, 1) := by decide +kernel
theorem dL_law_3048 : decode cL_law 3048 = .ok (.aload_n 0, 1) := by decide +kernel
theorem dL_law_3049 : decode cL_law 3049 = .ok (.iload 5, 2) := by decide +kernel
theorem dL_law_3051 : decode cL_law 3051 = .ok (.iconst 1, 1) := by decide +kernel
theorem dL_law_3052 : decode cL_law 3052 = .ok (.iadd, 1) := by decide +kernel
theorem dL_law_3053 : decode cL_law 3053 = .ok (.iaload, 1) := by decide +kernel
theorem dL_law_3054 : decode cL_law 3054 = .ok (.aload_n 0, 1) := by decide +kernel
theorem dL_law_3055 : decode cL_law 3055 = .ok (.iload 5, 2) := by decide +kernel
theorem dL_law_3057 : decode cL_law 3057 = .ok (.iconst 2, 1) := by decide +kernel
theorem dL_law_3058 : decode cL_law 3058 = .ok (.iadd, 1) := by decide +kernel
theorem dL_law_3059 : decode cL_law 3059 = .ok (.iaload, 1) := by decide +kernel
theorem dL_law_3060 : decode cL_law 3060 = .ok (.aload_n 0, 1) := by decide +kernel
theorem dL_law_3061 : decode cL_law 3061 = .ok (.iload 5, 2) := by decide +kernel
theorem dL_law_3063 : decode cL_law 3063 = .ok (.iconst 3, 1) := by decide +kernel
theorem dL_law_3064 : decode cL_law 3064 = .ok (.iadd, 1) := by decide +kernel
theorem dL_law_3065 : decode cL_law 3065 = .ok (.iaload, 1) := by decide +kernel
theorem dL_law_3066 : decode cL_law 3066 = .ok (.aload_n 3, 1) := by decide +kernel
theorem dL_law_3067 : decode cL_law 3067 = .ok (.invokestatic 351, 3) := by decide +kernel
theorem dL_law_3070 : decode cL_law 3070 = .ok (.istore 6, 2) := by decide +kernel
theorem dL_law_3072 : decode cL_law 3072 = .ok (.aload_n 2, 1) := by decide +kernel
theorem dL_law_3073 : decode cL_law 3073 = .ok (.aload_n 0, 1) := by decide +kernel
theorem dL_law_3074 : decode cL_law 3074 = .ok (.iload 5, 2) := by decide +kernel
theorem dL_law_3076 : decode cL_law 3076 = .ok (.iconst 1, 1) := by decide +kernel
theorem dL_law_3077 : decode cL_law 3077 = .ok (.iadd, 1) := by decide +kernel
theorem dL_law_3078 : decode cL_law 3078 = .ok (.iaload, 1) := by decide +kernel
theorem dL_law_3079 : decode cL_law 3079 = .ok (.aload_n 0, 1) := by decide +kernel
theorem dL_law_3080 : decode cL_law 3080 = .ok (.iload 5, 2) := by decide +kernel
theorem dL_law_3082 : decode cL_law 3082 = .ok (.iconst 2, 1) := by decide +kernel
theorem dL_law_3083 : decode cL_law 3083 = .ok (.iadd, 1) := by decide +kernel
theorem dL_law_3084 : decode cL_law 3084 = .ok (.iaload, 1) := by decide +kernel
theorem dL_law_3085 : decode cL_law 3085 = .ok (.aload_n 0, 1) := by decide +kernel
theorem dL_law_3086 : decode cL_law 3086 = .ok (.iload 5, 2) := by decide +kernel
theorem dL_law_3088 : decode cL_law 3088 = .ok (.iconst 3, 1) := by decide +kernel
theorem dL_law_3089 : decode cL_law 3089 = .ok (.iadd, 1) := by decide +kernel
theorem dL_law_3090 : decode cL_law 3090 = .ok (.iaload, 1) := by decide +kernel
theorem dL_law_3091 : decode cL_law 3091 = .ok (.invokevirtual 353, 3) := by decide +kernel
theorem dL_law_3094 : decode cL_law 3094 = .ok (.istore 7, 2) := by decide +kernel
theorem dL_law_3096 : decode cL_law 3096 = .ok (.aload_n 2, 1) := by decide +kernel
theorem dL_law_3097 : decode cL_law 3097 = .ok (.invokevirtual 202, 3) := by decide +kernel
theorem dL_law_3100 : decode cL_law 3100 = .ok (.iload 6, 2) := by decide +kernel
theorem dL_law_3102 : decode cL_law 3102 = .ok (.if_icmp .eq 5, 3) := by decide +kernel
theorem dL_law_3107 : decode cL_law 3107 = .ok (.iload 6, 2) := by decide +kernel
theorem dL_law_3109 : decode cL_law 3109 = .ok (.ifCond .ne 15, 3) := by decide +kernel
theorem dL_law_3124 : decode cL_law 3124 = .ok (.goto 499, 3) := by decide +kernel
set_option maxRecDepth 100000 in
set_option maxHeartbeats 4000000 in
theorem law_51 {p : Program} {l : Launch} {e : Env} {s : State} {m : MethodId} {below : List Frame} {meth : Method} {c : Code} {D : va_G} {ct : Nat → ClassId} {A : Nat → Prop} {b : Nat} {xs : Nat → Int32} {H : Heap} {locs : List Loc} {ls : Array Slot} (hfl : l.stackTraces = false) (C1 : cmL p s m meth c D ct A b 4 xs) (x : Nat) (w : Nat) (sp : Nat) (sv : Nat) (bu : Nat) (w_se : Nat) (w_cu : Nat) (w_pr : Nat) (w_ch : Nat) (w_re : Nat) (w_lo : Nat) (w_c1 : Nat) (w_c2 : Nat) (w_c3 : Nat) (w_p1 : Nat) (w_p2 : Nat) (w_p3 : Nat) (w_p4 : Nat) (w_ra : Nat) (w_la : Nat) (s_se : Nat) (s_cu : Nat) (s_pr : Nat) (s_ch : Nat) (s_re : Nat) (s_lo : Nat) (s_c1 : Nat) (s_c2 : Nat) (s_c3 : Nat) (s_p1 : Nat) (s_p2 : Nat) (s_p3 : Nat) (s_p4 : Nat) (s_ra : Nat) (s_la : Nat) (mo : Nat) (mw : Nat) (ma : Nat) (mf : Nat) (m0 : Nat) (m1 : Nat) (mu : Nat) (mv : Nat) (u0 : Nat) (u1 : Nat) (iz : Nat) (mb : Nat) (ov : Nat) (od : Nat) (hP : va_P D vwCl [(x, .inr (10, [.ref w, .ref sp, .ref sv, .ref bu, .int 0, .int 0])), (w, .inr (9, [.int 0, .ref w_se, .ref w_cu, .ref w_pr, .int 0, .ref w_ch, .ref w_re, .ref w_lo])), (w_se, .inr (7, [.int 990, .int 100000, .int 100, .int 5, .int 0, .int 5000, .int 600, .int 250, .int 0, .int 5000, .int 1000, .int 0])), (w_cu, .inr (2, [.int 0, .ref w_c1, .ref w_c2, .ref w_c3])), (w_c1, .inl (ct 1, 4, .inr (.inl (fun _ => 0)))), (w_c2, .inl (ct 0, 4, .inl (fun _ => 0))), (w_c3, .inl (ct 0, 44, .inl (fun _ => 0))), (w_pr, .inr (5, [.int 0, .ref w_p1, .ref w_p2, .ref w_p3, .ref w_p4])), (w_p1, .inl (ct 0, 4, .inl (fun _ => 0))), (w_p2, .inl (ct 0, 48, .inl (fun _ => 0))), (w_p3, .inl (ct 0, 48, .inl (fun _ => 0))), (w_p4, .inl (ct 0, 48, .inl (fun _ => 0))), (w_re, .inr (8, [.int 30, .int 5, .ref w_ra, .int 0, .int 0])), (w_ra, .inl (ct 0, 150, .inl (fun _ => 0))), (w_lo, .inr (8, [.int 60, .int 4, .ref w_la, .int 0, .int 0])), (w_la, .inl (ct 0, 240, .inl (fun _ => 0))), (sp, .inr (9, [.int 0, .ref s_se, .ref s_cu, .ref s_pr, .int 0, .ref s_ch, .ref s_re, .ref s_lo])), (s_se, .inr (7, [.int 990, .int 100000, .int 100, .int 5, .int 0, .int 5000, .int 600, .int 250, .int 0, .int 5000, .int 1000, .int 0])), (s_cu, .inr (2, [.int 0, .ref s_c1, .ref s_c2, .ref s_c3])), (s_c1, .inl (ct 1, 4, .inr (.inl (fun _ => 0)))), (s_c2, .inl (ct 0, 4, .inl (fun _ => 0))), (s_c3, .inl (ct 0, 44, .inl (fun _ => 0))), (s_pr, .inr (5, [.int 0, .ref s_p1, .ref s_p2, .ref s_p3, .ref s_p4])), (s_p1, .inl (ct 0, 4, .inl (fun _ => 0))), (s_p2, .inl (ct 0, 48, .inl (fun _ => 0))), (s_p3, .inl (ct 0, 48, .inl (fun _ => 0))), (s_p4, .inl (ct 0, 48, .inl (fun _ => 0))), (s_re, .inr (8, [.int 30, .int 5, .ref s_ra, .int 0, .int 0])), (s_ra, .inl (ct 0, 150, .inl (fun _ => 0))), (s_lo, .inr (8, [.int 60, .int 4, .ref s_la, .int 0, .int 0])), (s_la, .inl (ct 0, 240, .inl (fun _ => 0))), (mo, .inr (11, [.ref mw, .ref ma, .ref mf, .ref m0, .ref m1, .ref mu, .ref mv, .ref u0, .ref u1, .ref iz, .int 0, .ref mb, .int 0, .int 0, .int 0, .int 0, .int 0, .int 0, .int 0])), (mw, .inl (ct 0, 958, .inl m_w0)), (ov, .inl (ct 1, 1, .inr (.inl (fun _ => 0))))] H) (hD : va_D A [(x, .inr (10, [.ref w, .ref sp, .ref sv, .ref bu, .int 0, .int 0])), (w, .inr (9, [.int 0, .ref w_se, .ref w_cu, .ref w_pr, .int 0, .ref w_ch, .ref w_re, .ref w_lo])), (w_se, .inr (7, [.int 990, .int 100000, .int 100, .int 5, .int 0, .int 5000, .int 600, .int 250, .int 0, .int 5000, .int 1000, .int 0])), (w_cu, .inr (2, [.int 0, .ref w_c1, .ref w_c2, .ref w_c3])), (w_c1, .inl (ct 1, 4, .inr (.inl (fun _ => 0)))), (w_c2, .inl (ct 0, 4, .inl (fun _ => 0))), (w_c3, .inl (ct 0, 44, .inl (fun _ => 0))), (w_pr, .inr (5, [.int 0, .ref w_p1, .ref w_p2, .ref w_p3, .ref w_p4])), (w_p1, .inl (ct 0, 4, .inl (fun _ => 0))), (w_p2, .inl (ct 0, 48, .inl (fun _ => 0))), (w_p3, .inl (ct 0, 48, .inl (fun _ => 0))), (w_p4, .inl (ct 0, 48, .inl (fun _ => 0))), (w_re, .inr (8, [.int 30, .int 5, .ref w_ra, .int 0, .int 0])), (w_ra, .inl (ct 0, 150, .inl (fun _ => 0))), (w_lo, .inr (8, [.int 60, .int 4, .ref w_la, .int 0, .int 0])), (w_la, .inl (ct 0, 240, .inl (fun _ => 0))), (sp, .inr (9, [.int 0, .ref s_se, .ref s_cu, .ref s_pr, .int 0, .ref s_ch, .ref s_re, .ref s_lo])), (s_se, .inr (7, [.int 990, .int 100000, .int 100, .int 5, .int 0, .int 5000, .int 600, .int 250, .int 0, .int 5000, .int 1000, .int 0])), (s_cu, .inr (2, [.int 0, .ref s_c1, .ref s_c2, .ref s_c3])), (s_c1, .inl (ct 1, 4, .inr (.inl (fun _ => 0)))), (s_c2, .inl (ct 0, 4, .inl (fun _ => 0))), (s_c3, .inl (ct 0, 44, .inl (fun _ => 0))), (s_pr, .inr (5, [.int 0, .ref s_p1, .ref s_p2, .ref s_p3, .ref s_p4])), (s_p1, .inl (ct 0, 4, .inl (fun _ => 0))), (s_p2, .inl (ct 0, 48, .inl (fun _ => 0))), (s_p3, .inl (ct 0, 48, .inl (fun _ => 0))), (s_p4, .inl (ct 0, 48, .inl (fun _ => 0))), (s_re, .inr (8, [.int 30, .int 5, .ref s_ra, .int 0, .int 0])), (s_ra, .inl (ct 0, 150, .inl (fun _ => 0))), (s_lo, .inr (8, [.int 60, .int 4, .ref s_la, .int 0, .int 0])), (s_la, .inl (ct 0, 240, .inl (fun _ => 0))), (mo, .inr (11, [.ref mw, .ref ma, .ref mf, .ref m0, .ref m1, .ref mu, .ref mv, .ref u0, .ref u1, .ref iz, .int 0, .ref mb, .int 0, .int 0, .int 0, .int 0, .int 0, .int 0, .int 0])), (mw, .inl (ct 0, 958, .inl m_w0)), (ov, .inl (ct 1, 1, .inr (.inl (fun _ => 0))))]) (hS : va_S A s.heap H locs) (hl : lv_has ls 9 [(0, .ref b), (1, .ref x), (2, .ref mo), (3, .ref ov), (4, .ref od), (5, .int 0)]) : W p l e room_1 s m #[Value.ref b] below meth c H locs 157 8795 (lw_Z below #[Value.ref b] s) (F0 m 3047 ls []) := by
  obtain ⟨hx, hb, hr, hml, hown, hts, hK, hX, hXs, hbl, hbA, hA, hAr, hlocks⟩ := id C1
  refine lv_aload_n hx hb dL_law_3047 rfl (lv_at hl 1 rfl) ?_
  refine lv_aload_n hx hb dL_law_3048 rfl (lv_at hl 0 rfl) ?_
  refine lv_iload hx hb dL_law_3049 (lv_at hl 5 rfl) ?_
  refine lv_iconst (v := 1) hx hb dL_law_3051 (by decide) ?_
  refine lv_iadd hx hb dL_law_3052 ?_
  refine cm_cst (y := 1) (by decide) ?_
  refine va_sld hx hb hXs hbl hbA hS (cm_vin (by decide)) dL_law_3053 ?_
  refine lv_aload_n hx hb dL_law_3054 rfl (lv_at hl 0 rfl) ?_
  refine lv_iload hx hb dL_law_3055 (lv_at hl 5 rfl) ?_
  refine lv_iconst (v := 2) hx hb dL_law_3057 (by decide) ?_
  refine lv_iadd hx hb dL_law_3058 ?_
  refine cm_cst (y := 2) (by decide) ?_
  refine va_sld hx hb hXs hbl hbA hS (cm_vin (by decide)) dL_law_3059 ?_
  refine lv_aload_n hx hb dL_law_3060 rfl (lv_at hl 0 rfl) ?_
  refine lv_iload hx hb dL_law_3061 (lv_at hl 5 rfl) ?_
  refine lv_iconst (v := 3) hx hb dL_law_3063 (by decide) ?_
  refine lv_iadd hx hb dL_law_3064 ?_
  refine cm_cst (y := 3) (by decide) ?_
  refine va_sld hx hb hXs hbl hbA hS (cm_vin (by decide)) dL_law_3065 ?_
  refine lv_aload_n hx hb dL_law_3066 rfl (lv_at hl 3 rfl) ?_
  refine cm_ki (wr := [(mo, .inr (11, [.ref mw, .ref ma, .ref mf, .ref m0, .ref m1, .ref mu, .ref mv, .ref u0, .ref u1, .ref iz, .int 0, .ref mb, .int 0, .int 0, .int 0, .int 0, .int 0, .int 0, .int 0])), (mw, .inl (ct 0, 958, .inl m_w0))]) (vx_runSW (As := [.ref x, .int (xs (1 : Int32).toNatClampNeg), .int (xs (2 : Int32).toNatClampNeg), .int (xs (3 : Int32).toNatClampNeg), .ref ov]) (rest := []) ⟨hx, hb, hml, hown, hts⟩ (l_valueAfter l hfl D ct x w sp sv bu s_se s_cu s_pr s_ch s_re s_lo s_c1 s_c2 s_c3 s_p1 s_p2 s_p3 s_p4 s_ra s_la w_se w_cu w_pr w_ch w_re w_lo w_c1 w_c2 w_c3 w_p1 w_p2 w_p3 w_p4 w_ra w_la ov (fun _ => 0) (xs (1 : Int32).toNatClampNeg) (xs (2 : Int32).toNatClampNeg) (xs (3 : Int32).toNatClampNeg) _) (cm_SW 5 hts kw_L_valueAfter ki_RL kl_RL_351 ks_L_valueAfter kd_L_valueAfter ⟨Nat.le_of_ble_eq_true rfl, Nat.le_of_ble_eq_true rfl⟩) (cm_preS hP hK hD hS hA hX [0, 16, 17, 18, 19, 20, 21, 22, 23, 24, 25, 26, 27, 28, 29, 30, 1, 2, 3, 4, 5, 6, 7, 8, 9, 10, 11, 12, 13, 14, 15, 33] rfl rfl rfl) rfl rfl hl.1 rfl (lv_room (Nat.le_of_ble_eq_true rfl)) dL_law_3067 ⟨Nat.le_of_ble_eq_true rfl, Nat.le_of_ble_eq_true rfl⟩) hP hD hS hA [0, 16, 17, 18, 19, 20, 21, 22, 23, 24, 25, 26, 27, 28, 29, 30, 1, 2, 3, 4, 5, 6, 7, 8, 9, 10, 11, 12, 13, 14, 15, 33] [31, 32] rfl rfl rfl (by decide) (fun r_1 u H locs hw_2 hP hD hS => ?_)
  have hw_2 : r_1 = 1 := hw_2
  obtain rfl := hw_2
  have hP : va_P D vwCl [(mo, .inr (11, [.ref mw, .ref ma, .ref mf, .ref m0, .ref m1, .ref mu, .ref mv, .ref u0, .ref u1, .ref iz, .int 0, .ref mb, .int 0, .int 0, .int 0, .int 0, .int 0, .int 0, .int 0])), (mw, .inl (ct 0, 958, .inl m_w0))] H := hP
  have hD : va_D A [(mo, .inr (11, [.ref mw, .ref ma, .ref mf, .ref m0, .ref m1, .ref mu, .ref mv, .ref u0, .ref u1, .ref iz, .int 0, .ref mb, .int 0, .int 0, .int 0, .int 0, .int 0, .int 0, .int 0])), (mw, .inl (ct 0, 958, .inl m_w0))] := hD
  refine W.widen (k := 158) (n := 8801) (Nat.le_of_ble_eq_true rfl) (Nat.le_of_ble_eq_true rfl) ?_
  refine lv_istore (lv' := [(6, .int 1), (0, .ref b), (1, .ref x), (2, .ref mo), (3, .ref ov), (4, .ref od), (5, .int 0)]) hx hb dL_law_3070 hl (by decide) rfl (fun ls hl => ?_)
  refine lv_aload_n hx hb dL_law_3072 rfl (lv_at hl 3 rfl) ?_
  refine lv_aload_n hx hb dL_law_3073 rfl (lv_at hl 1 rfl) ?_
  refine lv_iload hx hb dL_law_3074 (lv_at hl 6 rfl) ?_
  refine lv_iconst (v := 1) hx hb dL_law_3076 (by decide) ?_
  refine lv_iadd hx hb dL_law_3077 ?_
  refine cm_cst (y := 1) (by decide) ?_
  refine va_sld hx hb hXs hbl hbA hS (cm_vin (by decide)) dL_law_3078 ?_
  refine lv_aload_n hx hb dL_law_3079 rfl (lv_at hl 1 rfl) ?_
  refine lv_iload hx hb dL_law_3080 (lv_at hl 6 rfl) ?_
  refine lv_iconst (v := 2) hx hb dL_law_3082 (by decide) ?_
  refine lv_iadd hx hb dL_law_3083 ?_
  refine cm_cst (y := 2) (by decide) ?_
  refine va_sld hx hb hXs hbl hbA hS (cm_vin (by decide)) dL_law_3084 ?_
  refine lv_aload_n hx hb dL_law_3085 rfl (lv_at hl 1 rfl) ?_
  refine lv_iload hx hb dL_law_3086 (lv_at hl 6 rfl) ?_
  refine lv_iconst (v := 3) hx hb dL_law_3088 (by decide) ?_
  refine lv_iadd hx hb dL_law_3089 ?_
  refine cm_cst (y := 3) (by decide) ?_
  refine va_sld hx hb hXs hbl hbA hS (cm_vin (by decide)) dL_law_3090 ?_
  refine cm_ki (wr := []) (va_runV (As := [.int (xs (1 : Int32).toNatClampNeg), .int (xs (2 : Int32).toNatClampNeg), .int (xs (3 : Int32).toNatClampNeg)]) (rest := []) ⟨hx, hb, hml, hown, hts⟩ (m_valueAfter_0 l D ct mo mw ma mf m0 m1 mu mv u0 u1 iz mb (xs (1 : Int32).toNatClampNeg) (xs (2 : Int32).toNatClampNeg) (xs (3 : Int32).toNatClampNeg) _) (cm_V 3 hts kc_X11_valueAfter ki_RX11 kl_RL_353 kv_X11_valueAfter kx_X11_valueAfter kd_X11_valueAfter ⟨Nat.le_of_ble_eq_true rfl, Nat.le_of_ble_eq_true rfl⟩) (cm_preV hP hK hD hS hA hX [0, 1] rfl rfl rfl (q0 := 0) (ci := 11) rfl rfl) rfl rfl hl.1 rfl (lv_room (Nat.le_of_ble_eq_true rfl)) dL_law_3091 ⟨Nat.le_of_ble_eq_true rfl, Nat.le_of_ble_eq_true rfl⟩) hP hD hS hA [0, 1] [] rfl rfl rfl (by decide) (fun r_3 u H locs hw_4 hP hD hS => ?_)
  have hP : va_P D vwCl [(mo, .inr (11, [.ref mw, .ref ma, .ref mf, .ref m0, .ref m1, .ref mu, .ref mv, .ref u0, .ref u1, .ref iz, .int 1, .ref mb, .int 0, .int 0, .int 0, .int 0, .int 0, .int 0, .int 0])), (mw, .inl (ct 0, 958, .inl m_w0))] H := hP
  have hD : va_D A [(mo, .inr (11, [.ref mw, .ref ma, .ref mf, .ref m0, .ref m1, .ref mu, .ref mv, .ref u0, .ref u1, .ref iz, .int 1, .ref mb, .int 0, .int 0, .int 0, .int 0, .int 0, .int 0, .int 0])), (mw, .inl (ct 0, 958, .inl m_w0))] := hD
  refine lv_istore (lv' := [(7, .int r_3), (6, .int 1), (0, .ref b), (1, .ref x), (2, .ref mo), (3, .ref ov), (4, .ref od), (5, .int 0)]) hx hb dL_law_3094 hl (by decide) rfl (fun ls hl => ?_)
  refine lv_aload_n hx hb dL_law_3096 rfl (lv_at hl 4 rfl) ?_
  refine cm_ki (wr := [(mw, .inl (ct 0, 958, .inl m_w0))]) (va_runV (As := []) (rest := []) ⟨hx, hb, hml, hown, hts⟩ (m_thrown l D ct mo mw ma mf m0 m1 mu mv u0 u1 iz mb 1 _) (cm_V 0 hts kc_X11_thrown ki_RX11 kl_RL_202 kv_X11_thrown kx_X11_thrown kd_X11_thrown ⟨Nat.le_of_ble_eq_true rfl, Nat.le_of_ble_eq_true rfl⟩) (cm_preV hP hK hD hS hA hX [0] rfl rfl rfl (q0 := 0) (ci := 11) rfl rfl) rfl rfl hl.1 rfl (lv_room (Nat.le_of_ble_eq_true rfl)) dL_law_3097 ⟨Nat.le_of_ble_eq_true rfl, Nat.le_of_ble_eq_true rfl⟩) hP hD hS hA [0] [1] rfl rfl rfl (by decide) (fun r_5 u H locs hw_6 hP hD hS => ?_)
  have hw_6 : r_5 = 1 := hw_6
  obtain rfl := hw_6
  have hP : va_P D vwCl [(mw, .inl (ct 0, 958, .inl m_w0)), (mo, .inr (11, [.ref mw, .ref ma, .ref mf, .ref m0, .ref m1, .ref mu, .ref mv, .ref u0, .ref u1, .ref iz, .int 1, .ref mb, .int 0, .int 0, .int 0, .int 0, .int 0, .int 0, .int 0]))] H := hP
  have hD : va_D A [(mw, .inl (ct 0, 958, .inl m_w0)), (mo, .inr (11, [.ref mw, .ref ma, .ref mf, .ref m0, .ref m1, .ref mu, .ref mv, .ref u0, .ref u1, .ref iz, .int 1, .ref mb, .int 0, .int 0, .int 0, .int 0, .int 0, .int 0, .int 0]))] := hD
  refine lv_iload hx hb dL_law_3100 (lv_at hl 1 rfl) ?_
  refine lv_icmp_eq (tgt := 3107) hx hb dL_law_3102 (by decide) (fun _ => ?_) (fun hc => absurd (by decide) hc)
  refine lv_iload hx hb dL_law_3107 (lv_at hl 1 rfl) ?_
  refine lv_if_ne (tgt := 3124) hx hb dL_law_3109 (by decide) (fun _ => ?_) (fun hc => absurd hc (by decide))
  refine lv_goto (tgt := 3623) hx hb dL_law_3124 (by decide) ?_
  exact law_end C1 hS (lv_sub hl [2, 7] rfl) (Nat.le_of_ble_eq_true rfl) (Nat.le_of_ble_eq_true rfl)
theorem dL_law_3127 : decode cL_law 3127 = .ok (.aload_n 1, 1) := by decide +kernel
theorem dL_law_3128 : decode cL_law 3128 = .ok (.aload_n 0, 1) := by decide +kernel
theorem dL_law_3129 : decode cL_law 3129 = .ok (.iload 5, 2) := by decide +kernel
theorem dL_law_3131 : decode cL_law 3131 = .ok (.iconst 1, 1) := by decide +kernel
theorem dL_law_3132 : decode cL_law 3132 = .ok (.iadd, 1) := by decide +kernel
theorem dL_law_3133 : decode cL_law 3133 = .ok (.iaload, 1) := by decide +kernel
theorem dL_law_3134 : decode cL_law 3134 = .ok (.aload_n 0, 1) := by decide +kernel
theorem dL_law_3135 : decode cL_law 3135 = .ok (.iload 5, 2) := by decide +kernel
theorem dL_law_3137 : decode cL_law 3137 = .ok (.iconst 2, 1) := by decide +kernel
theorem dL_law_3138 : decode cL_law 3138 = .ok (.iadd, 1) := by decide +kernel
theorem dL_law_3139 : decode cL_law 3139 = .ok (.iaload, 1) := by decide +kernel
theorem dL_law_3140 : decode cL_law 3140 = .ok (.aload_n 3, 1) := by decide +kernel
theorem dL_law_3141 : decode cL_law 3141 = .ok (.invokestatic 354, 3) := by decide +kernel
theorem dL_law_3144 : decode cL_law 3144 = .ok (.istore 6, 2) := by decide +kernel
theorem dL_law_3146 : decode cL_law 3146 = .ok (.aload_n 2, 1) := by decide +kernel
theorem dL_law_3147 : decode cL_law 3147 = .ok (.aload_n 0, 1) := by decide +kernel
theorem dL_law_3148 : decode cL_law 3148 = .ok (.iload 5, 2) := by decide +kernel
theorem dL_law_3150 : decode cL_law 3150 = .ok (.iconst 1, 1) := by decide +kernel
theorem dL_law_3151 : decode cL_law 3151 = .ok (.iadd, 1) := by decide +kernel
theorem dL_law_3152 : decode cL_law 3152 = .ok (.iaload, 1) := by decide +kernel
theorem dL_law_3153 : decode cL_law 3153 = .ok (.aload_n 0, 1) := by decide +kernel
theorem dL_law_3154 : decode cL_law 3154 = .ok (.iload 5, 2) := by decide +kernel
theorem dL_law_3156 : decode cL_law 3156 = .ok (.iconst 2, 1) := by decide +kernel
theorem dL_law_3157 : decode cL_law 3157 = .ok (.iadd, 1) := by decide +kernel
theorem dL_law_3158 : decode cL_law 3158 = .ok (.iaload, 1) := by decide +kernel
theorem dL_law_3159 : decode cL_law 3159 = .ok (.invokevirtual 356, 3) := by decide +kernel
theorem dL_law_3162 : decode cL_law 3162 = .ok (.istore 7, 2) := by decide +kernel
theorem dL_law_3164 : decode cL_law 3164 = .ok (.aload_n 2, 1) := by decide +kernel
theorem dL_law_3165 : decode cL_law 3165 = .ok (.invokevirtual 202, 3) := by decide +kernel
theorem dL_law_3168 : decode cL_law 3168 = .ok (.iload 6, 2) := by decide +kernel
theorem dL_law_3170 : decode cL_law 3170 = .ok (.if_icmp .eq 5, 3) := by decide +kernel
theorem dL_law_3175 : decode cL_law 3175 = .ok (.iload 6, 2) := by decide +kernel
theorem dL_law_3177 : decode cL_law 3177 = .ok (.ifCond .ne 15, 3) := by decide +kernel
theorem dL_law_3192 : decode cL_law 3192 = .ok (.goto 431, 3) := by decide +kernel
set_option maxRecDepth 100000 in
set_option maxHeartbeats 4000000 in
theorem law_52 {p : Program} {l : Launch} {e : Env} {s : State} {m : MethodId} {below : List Frame} {meth : Method} {c : Code} {D : va_G} {ct : Nat → ClassId} {A : Nat → Prop} {b : Nat} {xs : Nat → Int32} {H : Heap} {locs : List Loc} {ls : Array Slot} (hfl : l.stackTraces = false) (C1 : cmL p s m meth c D ct A b 4 xs) (x : Nat) (w : Nat) (sp : Nat) (sv : Nat) (bu : Nat) (w_se : Nat) (w_cu : Nat) (w_pr : Nat) (w_ch : Nat) (w_re : Nat) (w_lo : Nat) (w_c1 : Nat) (w_c2 : Nat) (w_c3 : Nat) (w_p1 : Nat) (w_p2 : Nat) (w_p3 : Nat) (w_p4 : Nat) (w_ra : Nat) (w_la : Nat) (s_se : Nat) (s_cu : Nat) (s_pr : Nat) (s_ch : Nat) (s_re : Nat) (s_lo : Nat) (s_c1 : Nat) (s_c2 : Nat) (s_c3 : Nat) (s_p1 : Nat) (s_p2 : Nat) (s_p3 : Nat) (s_p4 : Nat) (s_ra : Nat) (s_la : Nat) (mo : Nat) (mw : Nat) (ma : Nat) (mf : Nat) (m0 : Nat) (m1 : Nat) (mu : Nat) (mv : Nat) (u0 : Nat) (u1 : Nat) (iz : Nat) (mb : Nat) (ov : Nat) (od : Nat) (hP : va_P D vwCl [(x, .inr (10, [.ref w, .ref sp, .ref sv, .ref bu, .int 0, .int 0])), (w, .inr (9, [.int 0, .ref w_se, .ref w_cu, .ref w_pr, .int 0, .ref w_ch, .ref w_re, .ref w_lo])), (w_se, .inr (7, [.int 990, .int 100000, .int 100, .int 5, .int 0, .int 5000, .int 600, .int 250, .int 0, .int 5000, .int 1000, .int 0])), (w_cu, .inr (2, [.int 0, .ref w_c1, .ref w_c2, .ref w_c3])), (w_c1, .inl (ct 1, 4, .inr (.inl (fun _ => 0)))), (w_c2, .inl (ct 0, 4, .inl (fun _ => 0))), (w_c3, .inl (ct 0, 44, .inl (fun _ => 0))), (w_pr, .inr (5, [.int 0, .ref w_p1, .ref w_p2, .ref w_p3, .ref w_p4])), (w_p1, .inl (ct 0, 4, .inl (fun _ => 0))), (w_p2, .inl (ct 0, 48, .inl (fun _ => 0))), (w_p3, .inl (ct 0, 48, .inl (fun _ => 0))), (w_p4, .inl (ct 0, 48, .inl (fun _ => 0))), (w_re, .inr (8, [.int 30, .int 5, .ref w_ra, .int 0, .int 0])), (w_ra, .inl (ct 0, 150, .inl (fun _ => 0))), (w_lo, .inr (8, [.int 60, .int 4, .ref w_la, .int 0, .int 0])), (w_la, .inl (ct 0, 240, .inl (fun _ => 0))), (sp, .inr (9, [.int 0, .ref s_se, .ref s_cu, .ref s_pr, .int 0, .ref s_ch, .ref s_re, .ref s_lo])), (s_se, .inr (7, [.int 990, .int 100000, .int 100, .int 5, .int 0, .int 5000, .int 600, .int 250, .int 0, .int 5000, .int 1000, .int 0])), (s_cu, .inr (2, [.int 0, .ref s_c1, .ref s_c2, .ref s_c3])), (s_c1, .inl (ct 1, 4, .inr (.inl (fun _ => 0)))), (s_c2, .inl (ct 0, 4, .inl (fun _ => 0))), (s_c3, .inl (ct 0, 44, .inl (fun _ => 0))), (s_pr, .inr (5, [.int 0, .ref s_p1, .ref s_p2, .ref s_p3, .ref s_p4])), (s_p1, .inl (ct 0, 4, .inl (fun _ => 0))), (s_p2, .inl (ct 0, 48, .inl (fun _ => 0))), (s_p3, .inl (ct 0, 48, .inl (fun _ => 0))), (s_p4, .inl (ct 0, 48, .inl (fun _ => 0))), (s_re, .inr (8, [.int 30, .int 5, .ref s_ra, .int 0, .int 0])), (s_ra, .inl (ct 0, 150, .inl (fun _ => 0))), (s_lo, .inr (8, [.int 60, .int 4, .ref s_la, .int 0, .int 0])), (s_la, .inl (ct 0, 240, .inl (fun _ => 0))), (mo, .inr (11, [.ref mw, .ref ma, .ref mf, .ref m0, .ref m1, .ref mu, .ref mv, .ref u0, .ref u1, .ref iz, .int 0, .ref mb, .int 0, .int 0, .int 0, .int 0, .int 0, .int 0, .int 0])), (mw, .inl (ct 0, 958, .inl m_w0)), (ov, .inl (ct 1, 1, .inr (.inl (fun _ => 0))))] H) (hD : va_D A [(x, .inr (10, [.ref w, .ref sp, .ref sv, .ref bu, .int 0, .int 0])), (w, .inr (9, [.int 0, .ref w_se, .ref w_cu, .ref w_pr, .int 0, .ref w_ch, .ref w_re, .ref w_lo])), (w_se, .inr (7, [.int 990, .int 100000, .int 100, .int 5, .int 0, .int 5000, .int 600, .int 250, .int 0, .int 5000, .int 1000, .int 0])), (w_cu, .inr (2, [.int 0, .ref w_c1, .ref w_c2, .ref w_c3])), (w_c1, .inl (ct 1, 4, .inr (.inl (fun _ => 0)))), (w_c2, .inl (ct 0, 4, .inl (fun _ => 0))), (w_c3, .inl (ct 0, 44, .inl (fun _ => 0))), (w_pr, .inr (5, [.int 0, .ref w_p1, .ref w_p2, .ref w_p3, .ref w_p4])), (w_p1, .inl (ct 0, 4, .inl (fun _ => 0))), (w_p2, .inl (ct 0, 48, .inl (fun _ => 0))), (w_p3, .inl (ct 0, 48, .inl (fun _ => 0))), (w_p4, .inl (ct 0, 48, .inl (fun _ => 0))), (w_re, .inr (8, [.int 30, .int 5, .ref w_ra, .int 0, .int 0])), (w_ra, .inl (ct 0, 150, .inl (fun _ => 0))), (w_lo, .inr (8, [.int 60, .int 4, .ref w_la, .int 0, .int 0])), (w_la, .inl (ct 0, 240, .inl (fun _ => 0))), (sp, .inr (9, [.int 0, .ref s_se, .ref s_cu, .ref s_pr, .int 0, .ref s_ch, .ref s_re, .ref s_lo])), (s_se, .inr (7, [.int 990, .int 100000, .int 100, .int 5, .int 0, .int 5000, .int 600, .int 250, .int 0, .int 5000, .int 1000, .int 0])), (s_cu, .inr (2, [.int 0, .ref s_c1, .ref s_c2, .ref s_c3])), (s_c1, .inl (ct 1, 4, .inr (.inl (fun _ => 0)))), (s_c2, .inl (ct 0, 4, .inl (fun _ => 0))), (s_c3, .inl (ct 0, 44, .inl (fun _ => 0))), (s_pr, .inr (5, [.int 0, .ref s_p1, .ref s_p2, .ref s_p3, .ref s_p4])), (s_p1, .inl (ct 0, 4, .inl (fun _ => 0))), (s_p2, .inl (ct 0, 48, .inl (fun _ => 0))), (s_p3, .inl (ct 0, 48, .inl (fun _ => 0))), (s_p4, .inl (ct 0, 48, .inl (fun _ => 0))), (s_re, .inr (8, [.int 30, .int 5, .ref s_ra, .int 0, .int 0])), (s_ra, .inl (ct 0, 150, .inl (fun _ => 0))), (s_lo, .inr (8, [.int 60, .int 4, .ref s_la, .int 0, .int 0])), (s_la, .inl (ct 0, 240, .inl (fun _ => 0))), (mo, .inr (11, [.ref mw, .ref ma, .ref mf, .ref m0, .ref m1, .ref mu, .ref mv, .ref u0, .ref u1, .ref iz, .int 0, .ref mb, .int 0, .int 0, .int 0, .int 0, .int 0, .int 0, .int 0])), (mw, .inl (ct 0, 958, .inl m_w0)), (ov, .inl (ct 1, 1, .inr (.inl (fun _ => 0))))]) (hS : va_S A s.heap H locs) (hl : lv_has ls 9 [(0, .ref b), (1, .ref x), (2, .ref mo), (3, .ref ov), (4, .ref od), (5, .int 0)]) : W p l e room_1 s m #[Value.ref b] below meth c H locs 157 8795 (lw_Z below #[Value.ref b] s) (F0 m 3127 ls []) := by
  obtain ⟨hx, hb, hr, hml, hown, hts, hK, hX, hXs, hbl, hbA, hA, hAr, hlocks⟩ := id C1
  refine lv_aload_n hx hb dL_law_3127 rfl (lv_at hl 1 rfl) ?_
  refine lv_aload_n hx hb dL_law_3128 rfl (lv_at hl 0 rfl) ?_
  refine lv_iload hx hb dL_law_3129 (lv_at hl 5 rfl) ?_
  refine lv_iconst (v := 1) hx hb dL_law_3131 (by decide) ?_
  refine lv_iadd hx hb dL_law_3132 ?_
  refine cm_cst (y := 1) (by decide) ?_
  refine va_sld hx hb hXs hbl hbA hS (cm_vin (by decide)) dL_law_3133 ?_
  refine lv_aload_n hx hb dL_law_3134 rfl (lv_at hl 0 rfl) ?_
  refine lv_iload hx hb dL_law_3135 (lv_at hl 5 rfl) ?_
  refine lv_iconst (v := 2) hx hb dL_law_3137 (by decide) ?_
  refine lv_iadd hx hb dL_law_3138 ?_
  refine cm_cst (y := 2) (by decide) ?_
  refine va_sld hx hb hXs hbl hbA hS (cm_vin (by decide)) dL_law_3139 ?_
  refine lv_aload_n hx hb dL_law_3140 rfl (lv_at hl 3 rfl) ?_
  refine cm_ki (wr := [(mo, .inr (11, [.ref mw, .ref ma, .ref mf, .ref m0, .ref m1, .ref mu, .ref mv, .ref u0, .ref u1, .ref iz, .int 0, .ref mb, .int 0, .int 0, .int 0, .int 0, .int 0, .int 0, .int 0])), (mw, .inl (ct 0, 958, .inl m_w0))]) (vx_runSW (As := [.ref x, .int (xs (1 : Int32).toNatClampNeg), .int (xs (2 : Int32).toNatClampNeg), .ref ov]) (rest := []) ⟨hx, hb, hml, hown, hts⟩ (l_peakTemperature l hfl D ct x w sp sv bu s_se s_cu s_pr s_ch s_re s_lo s_c1 s_c2 s_c3 s_p1 s_p2 s_p3 s_p4 s_ra s_la w_se w_cu w_pr w_ch w_re w_lo w_c1 w_c2 w_c3 w_p1 w_p2 w_p3 w_p4 w_ra w_la ov (fun _ => 0) (xs (1 : Int32).toNatClampNeg) (xs (2 : Int32).toNatClampNeg) _) (cm_SW 4 hts kw_L_peakTemperature ki_RL kl_RL_354 ks_L_peakTemperature kd_L_peakTemperature ⟨Nat.le_of_ble_eq_true rfl, Nat.le_of_ble_eq_true rfl⟩) (cm_preS hP hK hD hS hA hX [0, 16, 17, 18, 19, 20, 21, 22, 23, 24, 25, 26, 27, 28, 29, 30, 1, 2, 3, 4, 5, 6, 7, 8, 9, 10, 11, 12, 13, 14, 15, 33] rfl rfl rfl) rfl rfl hl.1 rfl (lv_room (Nat.le_of_ble_eq_true rfl)) dL_law_3141 ⟨Nat.le_of_ble_eq_true rfl, Nat.le_of_ble_eq_true rfl⟩) hP hD hS hA [0, 16, 17, 18, 19, 20, 21, 22, 23, 24, 25, 26, 27, 28, 29, 30, 1, 2, 3, 4, 5, 6, 7, 8, 9, 10, 11, 12, 13, 14, 15, 33] [31, 32] rfl rfl rfl (by decide) (fun r_1 u H locs hw_2 hP hD hS => ?_)
  have hw_2 : r_1 = 1 := hw_2
  obtain rfl := hw_2
  have hP : va_P D vwCl [(mo, .inr (11, [.ref mw, .ref ma, .ref mf, .ref m0, .ref m1, .ref mu, .ref mv, .ref u0, .ref u1, .ref iz, .int 0, .ref mb, .int 0, .int 0, .int 0, .int 0, .int 0, .int 0, .int 0])), (mw, .inl (ct 0, 958, .inl m_w0))] H := hP
  have hD : va_D A [(mo, .inr (11, [.ref mw, .ref ma, .ref mf, .ref m0, .ref m1, .ref mu, .ref mv, .ref u0, .ref u1, .ref iz, .int 0, .ref mb, .int 0, .int 0, .int 0, .int 0, .int 0, .int 0, .int 0])), (mw, .inl (ct 0, 958, .inl m_w0))] := hD
  refine W.widen (k := 158) (n := 8801) (Nat.le_of_ble_eq_true rfl) (Nat.le_of_ble_eq_true rfl) ?_
  refine lv_istore (lv' := [(6, .int 1), (0, .ref b), (1, .ref x), (2, .ref mo), (3, .ref ov), (4, .ref od), (5, .int 0)]) hx hb dL_law_3144 hl (by decide) rfl (fun ls hl => ?_)
  refine lv_aload_n hx hb dL_law_3146 rfl (lv_at hl 3 rfl) ?_
  refine lv_aload_n hx hb dL_law_3147 rfl (lv_at hl 1 rfl) ?_
  refine lv_iload hx hb dL_law_3148 (lv_at hl 6 rfl) ?_
  refine lv_iconst (v := 1) hx hb dL_law_3150 (by decide) ?_
  refine lv_iadd hx hb dL_law_3151 ?_
  refine cm_cst (y := 1) (by decide) ?_
  refine va_sld hx hb hXs hbl hbA hS (cm_vin (by decide)) dL_law_3152 ?_
  refine lv_aload_n hx hb dL_law_3153 rfl (lv_at hl 1 rfl) ?_
  refine lv_iload hx hb dL_law_3154 (lv_at hl 6 rfl) ?_
  refine lv_iconst (v := 2) hx hb dL_law_3156 (by decide) ?_
  refine lv_iadd hx hb dL_law_3157 ?_
  refine cm_cst (y := 2) (by decide) ?_
  refine va_sld hx hb hXs hbl hbA hS (cm_vin (by decide)) dL_law_3158 ?_
  refine cm_ki (wr := []) (va_runV (As := [.int (xs (1 : Int32).toNatClampNeg), .int (xs (2 : Int32).toNatClampNeg)]) (rest := []) ⟨hx, hb, hml, hown, hts⟩ (m_peakTemperature_0 l D ct mo mw ma mf m0 m1 mu mv u0 u1 iz mb (xs (1 : Int32).toNatClampNeg) (xs (2 : Int32).toNatClampNeg) _) (cm_V 2 hts kc_X11_peakTemperature ki_RX11 kl_RL_356 kv_X11_peakTemperature kx_X11_peakTemperature kd_X11_peakTemperature ⟨Nat.le_of_ble_eq_true rfl, Nat.le_of_ble_eq_true rfl⟩) (cm_preV hP hK hD hS hA hX [0, 1] rfl rfl rfl (q0 := 0) (ci := 11) rfl rfl) rfl rfl hl.1 rfl (lv_room (Nat.le_of_ble_eq_true rfl)) dL_law_3159 ⟨Nat.le_of_ble_eq_true rfl, Nat.le_of_ble_eq_true rfl⟩) hP hD hS hA [0, 1] [] rfl rfl rfl (by decide) (fun r_3 u H locs hw_4 hP hD hS => ?_)
  have hP : va_P D vwCl [(mo, .inr (11, [.ref mw, .ref ma, .ref mf, .ref m0, .ref m1, .ref mu, .ref mv, .ref u0, .ref u1, .ref iz, .int 1, .ref mb, .int 0, .int 0, .int 0, .int 0, .int 0, .int 0, .int 0])), (mw, .inl (ct 0, 958, .inl m_w0))] H := hP
  have hD : va_D A [(mo, .inr (11, [.ref mw, .ref ma, .ref mf, .ref m0, .ref m1, .ref mu, .ref mv, .ref u0, .ref u1, .ref iz, .int 1, .ref mb, .int 0, .int 0, .int 0, .int 0, .int 0, .int 0, .int 0])), (mw, .inl (ct 0, 958, .inl m_w0))] := hD
  refine lv_istore (lv' := [(7, .int r_3), (6, .int 1), (0, .ref b), (1, .ref x), (2, .ref mo), (3, .ref ov), (4, .ref od), (5, .int 0)]) hx hb dL_law_3162 hl (by decide) rfl (fun ls hl => ?_)
  refine lv_aload_n hx hb dL_law_3164 rfl (lv_at hl 4 rfl) ?_
  refine cm_ki (wr := [(mw, .inl (ct 0, 958, .inl m_w0))]) (va_runV (As := []) (rest := []) ⟨hx, hb, hml, hown, hts⟩ (m_thrown l D ct mo mw ma mf m0 m1 mu mv u0 u1 iz mb 1 _) (cm_V 0 hts kc_X11_thrown ki_RX11 kl_RL_202 kv_X11_thrown kx_X11_thrown kd_X11_thrown ⟨Nat.le_of_ble_eq_true rfl, Nat.le_of_ble_eq_true rfl⟩) (cm_preV hP hK hD hS hA hX [0] rfl rfl rfl (q0 := 0) (ci := 11) rfl rfl) rfl rfl hl.1 rfl (lv_room (Nat.le_of_ble_eq_true rfl)) dL_law_3165 ⟨Nat.le_of_ble_eq_true rfl, Nat.le_of_ble_eq_true rfl⟩) hP hD hS hA [0] [1] rfl rfl rfl (by decide) (fun r_5 u H locs hw_6 hP hD hS => ?_)
  have hw_6 : r_5 = 1 := hw_6
  obtain rfl := hw_6
  have hP : va_P D vwCl [(mw, .inl (ct 0, 958, .inl m_w0)), (mo, .inr (11, [.ref mw, .ref ma, .ref mf, .ref m0, .ref m1, .ref mu, .ref mv, .ref u0, .ref u1, .ref iz, .int 1, .ref mb, .int 0, .int 0, .int 0, .int 0, .int 0, .int 0, .int 0]))] H := hP
  have hD : va_D A [(mw, .inl (ct 0, 958, .inl m_w0)), (mo, .inr (11, [.ref mw, .ref ma, .ref mf, .ref m0, .ref m1, .ref mu, .ref mv, .ref u0, .ref u1, .ref iz, .int 1, .ref mb, .int 0, .int 0, .int 0, .int 0, .int 0, .int 0, .int 0]))] := hD
  refine lv_iload hx hb dL_law_3168 (lv_at hl 1 rfl) ?_
  refine lv_icmp_eq (tgt := 3175) hx hb dL_law_3170 (by decide) (fun _ => ?_) (fun hc => absurd (by decide) hc)
  refine lv_iload hx hb dL_law_3175 (lv_at hl 1 rfl) ?_
  refine lv_if_ne (tgt := 3192) hx hb dL_law_3177 (by decide) (fun _ => ?_) (fun hc => absurd hc (by decide))
  refine lv_goto (tgt := 3623) hx hb dL_law_3192 (by decide) ?_
  exact law_end C1 hS (lv_sub hl [2, 7] rfl) (Nat.le_of_ble_eq_true rfl) (Nat.le_of_ble_eq_true rfl)
theorem dL_law_3195 : decode cL_law 3195 = .ok (.aload_n 1, 1) := by decide +kernel
theorem dL_law_3196 : decode cL_law 3196 = .ok (.aload_n 0, 1) := by decide +kernel
theorem dL_law_3197 : decode cL_law 3197 = .ok (.iload 5, 2) := by decide +kernel
theorem dL_law_3199 : decode cL_law 3199 = .ok (.iconst 1, 1) := by decide +kernel
theorem dL_law_3200 : decode cL_law 3200 = .ok (.iadd, 1) := by decide +kernel
theorem dL_law_3201 : decode cL_law 3201 = .ok (.iaload, 1) := by decide +kernel
theorem dL_law_3202 : decode cL_law 3202 = .ok (.aload_n 3, 1) := by decide +kernel
theorem dL_law_3203 : decode cL_law 3203 = .ok (.invokestatic 357, 3) := by decide +kernel
theorem dL_law_3206 : decode cL_law 3206 = .ok (.istore 6, 2) := by decide +kernel
theorem dL_law_3208 : decode cL_law 3208 = .ok (.aload_n 2, 1) := by decide +kernel
theorem dL_law_3209 : decode cL_law 3209 = .ok (.aload_n 0, 1) := by decide +kernel
theorem dL_law_3210 : decode cL_law 3210 = .ok (.iload 5, 2) := by decide +kernel
theorem dL_law_3212 : decode cL_law 3212 = .ok (.iconst 1, 1) := by decide +kernel
theorem dL_law_3213 : decode cL_law 3213 = .ok (.iadd, 1) := by decide +kernel
theorem dL_law_3214 : decode cL_law 3214 = .ok (.iaload, 1) := by decide +kernel
theorem dL_law_3215 : decode cL_law 3215 = .ok (.invokevirtual 359, 3) := by decide +kernel
theorem dL_law_3218 : decode cL_law 3218 = .ok (.istore 7, 2) := by decide +kernel
theorem dL_law_3220 : decode cL_law 3220 = .ok (.aload_n 2, 1) := by decide +kernel
theorem dL_law_3221 : decode cL_law 3221 = .ok (.invokevirtual 202, 3) := by decide +kernel
theorem dL_law_3224 : decode cL_law 3224 = .ok (.iload 6, 2) := by decide +kernel
theorem dL_law_3226 : decode cL_law 3226 = .ok (.if_icmp .eq 5, 3) := by decide +kernel
theorem dL_law_3231 : decode cL_law 3231 = .ok (.iload 6, 2) := by decide +kernel
theorem dL_law_3233 : decode cL_law 3233 = .ok (.ifCond .ne 15, 3) := by decide +kernel
theorem dL_law_3248 : decode cL_law 3248 = .ok (.goto 375, 3) := by decide +kernel
set_option maxRecDepth 100000 in
set_option maxHeartbeats 4000000 in
theorem law_53 {p : Program} {l : Launch} {e : Env} {s : State} {m : MethodId} {below : List Frame} {meth : Method} {c : Code} {D : va_G} {ct : Nat → ClassId} {A : Nat → Prop} {b : Nat} {xs : Nat → Int32} {H : Heap} {locs : List Loc} {ls : Array Slot} (hfl : l.stackTraces = false) (C1 : cmL p s m meth c D ct A b 4 xs) (x : Nat) (w : Nat) (sp : Nat) (sv : Nat) (bu : Nat) (w_se : Nat) (w_cu : Nat) (w_pr : Nat) (w_ch : Nat) (w_re : Nat) (w_lo : Nat) (w_c1 : Nat) (w_c2 : Nat) (w_c3 : Nat) (w_p1 : Nat) (w_p2 : Nat) (w_p3 : Nat) (w_p4 : Nat) (w_ra : Nat) (w_la : Nat) (s_se : Nat) (s_cu : Nat) (s_pr : Nat) (s_ch : Nat) (s_re : Nat) (s_lo : Nat) (s_c1 : Nat) (s_c2 : Nat) (s_c3 : Nat) (s_p1 : Nat) (s_p2 : Nat) (s_p3 : Nat) (s_p4 : Nat) (s_ra : Nat) (s_la : Nat) (mo : Nat) (mw : Nat) (ma : Nat) (mf : Nat) (m0 : Nat) (m1 : Nat) (mu : Nat) (mv : Nat) (u0 : Nat) (u1 : Nat) (iz : Nat) (mb : Nat) (ov : Nat) (od : Nat) (hP : va_P D vwCl [(x, .inr (10, [.ref w, .ref sp, .ref sv, .ref bu, .int 0, .int 0])), (w, .inr (9, [.int 0, .ref w_se, .ref w_cu, .ref w_pr, .int 0, .ref w_ch, .ref w_re, .ref w_lo])), (w_se, .inr (7, [.int 990, .int 100000, .int 100, .int 5, .int 0, .int 5000, .int 600, .int 250, .int 0, .int 5000, .int 1000, .int 0])), (w_cu, .inr (2, [.int 0, .ref w_c1, .ref w_c2, .ref w_c3])), (w_c1, .inl (ct 1, 4, .inr (.inl (fun _ => 0)))), (w_c2, .inl (ct 0, 4, .inl (fun _ => 0))), (w_c3, .inl (ct 0, 44, .inl (fun _ => 0))), (w_pr, .inr (5, [.int 0, .ref w_p1, .ref w_p2, .ref w_p3, .ref w_p4])), (w_p1, .inl (ct 0, 4, .inl (fun _ => 0))), (w_p2, .inl (ct 0, 48, .inl (fun _ => 0))), (w_p3, .inl (ct 0, 48, .inl (fun _ => 0))), (w_p4, .inl (ct 0, 48, .inl (fun _ => 0))), (w_re, .inr (8, [.int 30, .int 5, .ref w_ra, .int 0, .int 0])), (w_ra, .inl (ct 0, 150, .inl (fun _ => 0))), (w_lo, .inr (8, [.int 60, .int 4, .ref w_la, .int 0, .int 0])), (w_la, .inl (ct 0, 240, .inl (fun _ => 0))), (sp, .inr (9, [.int 0, .ref s_se, .ref s_cu, .ref s_pr, .int 0, .ref s_ch, .ref s_re, .ref s_lo])), (s_se, .inr (7, [.int 990, .int 100000, .int 100, .int 5, .int 0, .int 5000, .int 600, .int 250, .int 0, .int 5000, .int 1000, .int 0])), (s_cu, .inr (2, [.int 0, .ref s_c1, .ref s_c2, .ref s_c3])), (s_c1, .inl (ct 1, 4, .inr (.inl (fun _ => 0)))), (s_c2, .inl (ct 0, 4, .inl (fun _ => 0))), (s_c3, .inl (ct 0, 44, .inl (fun _ => 0))), (s_pr, .inr (5, [.int 0, .ref s_p1, .ref s_p2, .ref s_p3, .ref s_p4])), (s_p1, .inl (ct 0, 4, .inl (fun _ => 0))), (s_p2, .inl (ct 0, 48, .inl (fun _ => 0))), (s_p3, .inl (ct 0, 48, .inl (fun _ => 0))), (s_p4, .inl (ct 0, 48, .inl (fun _ => 0))), (s_re, .inr (8, [.int 30, .int 5, .ref s_ra, .int 0, .int 0])), (s_ra, .inl (ct 0, 150, .inl (fun _ => 0))), (s_lo, .inr (8, [.int 60, .int 4, .ref s_la, .int 0, .int 0])), (s_la, .inl (ct 0, 240, .inl (fun _ => 0))), (mo, .inr (11, [.ref mw, .ref ma, .ref mf, .ref m0, .ref m1, .ref mu, .ref mv, .ref u0, .ref u1, .ref iz, .int 0, .ref mb, .int 0, .int 0, .int 0, .int 0, .int 0, .int 0, .int 0])), (mw, .inl (ct 0, 958, .inl m_w0)), (ov, .inl (ct 1, 1, .inr (.inl (fun _ => 0))))] H) (hD : va_D A [(x, .inr (10, [.ref w, .ref sp, .ref sv, .ref bu, .int 0, .int 0])), (w, .inr (9, [.int 0, .ref w_se, .ref w_cu, .ref w_pr, .int 0, .ref w_ch, .ref w_re, .ref w_lo])), (w_se, .inr (7, [.int 990, .int 100000, .int 100, .int 5, .int 0, .int 5000, .int 600, .int 250, .int 0, .int 5000, .int 1000, .int 0])), (w_cu, .inr (2, [.int 0, .ref w_c1, .ref w_c2, .ref w_c3])), (w_c1, .inl (ct 1, 4, .inr (.inl (fun _ => 0)))), (w_c2, .inl (ct 0, 4, .inl (fun _ => 0))), (w_c3, .inl (ct 0, 44, .inl (fun _ => 0))), (w_pr, .inr (5, [.int 0, .ref w_p1, .ref w_p2, .ref w_p3, .ref w_p4])), (w_p1, .inl (ct 0, 4, .inl (fun _ => 0))), (w_p2, .inl (ct 0, 48, .inl (fun _ => 0))), (w_p3, .inl (ct 0, 48, .inl (fun _ => 0))), (w_p4, .inl (ct 0, 48, .inl (fun _ => 0))), (w_re, .inr (8, [.int 30, .int 5, .ref w_ra, .int 0, .int 0])), (w_ra, .inl (ct 0, 150, .inl (fun _ => 0))), (w_lo, .inr (8, [.int 60, .int 4, .ref w_la, .int 0, .int 0])), (w_la, .inl (ct 0, 240, .inl (fun _ => 0))), (sp, .inr (9, [.int 0, .ref s_se, .ref s_cu, .ref s_pr, .int 0, .ref s_ch, .ref s_re, .ref s_lo])), (s_se, .inr (7, [.int 990, .int 100000, .int 100, .int 5, .int 0, .int 5000, .int 600, .int 250, .int 0, .int 5000, .int 1000, .int 0])), (s_cu, .inr (2, [.int 0, .ref s_c1, .ref s_c2, .ref s_c3])), (s_c1, .inl (ct 1, 4, .inr (.inl (fun _ => 0)))), (s_c2, .inl (ct 0, 4, .inl (fun _ => 0))), (s_c3, .inl (ct 0, 44, .inl (fun _ => 0))), (s_pr, .inr (5, [.int 0, .ref s_p1, .ref s_p2, .ref s_p3, .ref s_p4])), (s_p1, .inl (ct 0, 4, .inl (fun _ => 0))), (s_p2, .inl (ct 0, 48, .inl (fun _ => 0))), (s_p3, .inl (ct 0, 48, .inl (fun _ => 0))), (s_p4, .inl (ct 0, 48, .inl (fun _ => 0))), (s_re, .inr (8, [.int 30, .int 5, .ref s_ra, .int 0, .int 0])), (s_ra, .inl (ct 0, 150, .inl (fun _ => 0))), (s_lo, .inr (8, [.int 60, .int 4, .ref s_la, .int 0, .int 0])), (s_la, .inl (ct 0, 240, .inl (fun _ => 0))), (mo, .inr (11, [.ref mw, .ref ma, .ref mf, .ref m0, .ref m1, .ref mu, .ref mv, .ref u0, .ref u1, .ref iz, .int 0, .ref mb, .int 0, .int 0, .int 0, .int 0, .int 0, .int 0, .int 0])), (mw, .inl (ct 0, 958, .inl m_w0)), (ov, .inl (ct 1, 1, .inr (.inl (fun _ => 0))))]) (hS : va_S A s.heap H locs) (hl : lv_has ls 9 [(0, .ref b), (1, .ref x), (2, .ref mo), (3, .ref ov), (4, .ref od), (5, .int 0)]) : W p l e room_1 s m #[Value.ref b] below meth c H locs 157 8795 (lw_Z below #[Value.ref b] s) (F0 m 3195 ls []) := by
  obtain ⟨hx, hb, hr, hml, hown, hts, hK, hX, hXs, hbl, hbA, hA, hAr, hlocks⟩ := id C1
  refine lv_aload_n hx hb dL_law_3195 rfl (lv_at hl 1 rfl) ?_
  refine lv_aload_n hx hb dL_law_3196 rfl (lv_at hl 0 rfl) ?_
  refine lv_iload hx hb dL_law_3197 (lv_at hl 5 rfl) ?_
  refine lv_iconst (v := 1) hx hb dL_law_3199 (by decide) ?_
  refine lv_iadd hx hb dL_law_3200 ?_
  refine cm_cst (y := 1) (by decide) ?_
  refine va_sld hx hb hXs hbl hbA hS (cm_vin (by decide)) dL_law_3201 ?_
  refine lv_aload_n hx hb dL_law_3202 rfl (lv_at hl 3 rfl) ?_
  refine cm_ki (wr := [(mo, .inr (11, [.ref mw, .ref ma, .ref mf, .ref m0, .ref m1, .ref mu, .ref mv, .ref u0, .ref u1, .ref iz, .int 0, .ref mb, .int 0, .int 0, .int 0, .int 0, .int 0, .int 0, .int 0])), (mw, .inl (ct 0, 958, .inl m_w0))]) (vx_runSW (As := [.ref x, .int (xs (1 : Int32).toNatClampNeg), .ref ov]) (rest := []) ⟨hx, hb, hml, hown, hts⟩ (l_settledIn l hfl D ct x w sp sv bu s_se s_cu s_pr s_ch s_re s_lo s_c1 s_c2 s_c3 s_p1 s_p2 s_p3 s_p4 s_ra s_la w_se w_cu w_pr w_ch w_re w_lo w_c1 w_c2 w_c3 w_p1 w_p2 w_p3 w_p4 w_ra w_la ov (fun _ => 0) (xs (1 : Int32).toNatClampNeg) _) (cm_SW 3 hts kw_L_settledIn ki_RL kl_RL_357 ks_L_settledIn kd_L_settledIn ⟨Nat.le_of_ble_eq_true rfl, Nat.le_of_ble_eq_true rfl⟩) (cm_preS hP hK hD hS hA hX [0, 16, 17, 18, 19, 20, 21, 22, 23, 24, 25, 26, 27, 28, 29, 30, 1, 2, 3, 4, 5, 6, 7, 8, 9, 10, 11, 12, 13, 14, 15, 33] rfl rfl rfl) rfl rfl hl.1 rfl (lv_room (Nat.le_of_ble_eq_true rfl)) dL_law_3203 ⟨Nat.le_of_ble_eq_true rfl, Nat.le_of_ble_eq_true rfl⟩) hP hD hS hA [0, 16, 17, 18, 19, 20, 21, 22, 23, 24, 25, 26, 27, 28, 29, 30, 1, 2, 3, 4, 5, 6, 7, 8, 9, 10, 11, 12, 13, 14, 15, 33] [31, 32] rfl rfl rfl (by decide) (fun r_1 u H locs hw_2 hP hD hS => ?_)
  have hw_2 : r_1 = 1 := hw_2
  obtain rfl := hw_2
  have hP : va_P D vwCl [(mo, .inr (11, [.ref mw, .ref ma, .ref mf, .ref m0, .ref m1, .ref mu, .ref mv, .ref u0, .ref u1, .ref iz, .int 0, .ref mb, .int 0, .int 0, .int 0, .int 0, .int 0, .int 0, .int 0])), (mw, .inl (ct 0, 958, .inl m_w0))] H := hP
  have hD : va_D A [(mo, .inr (11, [.ref mw, .ref ma, .ref mf, .ref m0, .ref m1, .ref mu, .ref mv, .ref u0, .ref u1, .ref iz, .int 0, .ref mb, .int 0, .int 0, .int 0, .int 0, .int 0, .int 0, .int 0])), (mw, .inl (ct 0, 958, .inl m_w0))] := hD
  refine W.widen (k := 158) (n := 8801) (Nat.le_of_ble_eq_true rfl) (Nat.le_of_ble_eq_true rfl) ?_
  refine lv_istore (lv' := [(6, .int 1), (0, .ref b), (1, .ref x), (2, .ref mo), (3, .ref ov), (4, .ref od), (5, .int 0)]) hx hb dL_law_3206 hl (by decide) rfl (fun ls hl => ?_)
  refine lv_aload_n hx hb dL_law_3208 rfl (lv_at hl 3 rfl) ?_
  refine lv_aload_n hx hb dL_law_3209 rfl (lv_at hl 1 rfl) ?_
  refine lv_iload hx hb dL_law_3210 (lv_at hl 6 rfl) ?_
  refine lv_iconst (v := 1) hx hb dL_law_3212 (by decide) ?_
  refine lv_iadd hx hb dL_law_3213 ?_
  refine cm_cst (y := 1) (by decide) ?_
  refine va_sld hx hb hXs hbl hbA hS (cm_vin (by decide)) dL_law_3214 ?_
  refine cm_ki (wr := []) (va_runV (As := [.int (xs (1 : Int32).toNatClampNeg)]) (rest := []) ⟨hx, hb, hml, hown, hts⟩ (m_settledIn_0 l D ct mo mw ma mf m0 m1 mu mv u0 u1 iz mb (xs (1 : Int32).toNatClampNeg) _) (cm_V 1 hts kc_X11_settledIn ki_RX11 kl_RL_359 kv_X11_settledIn kx_X11_settledIn kd_X11_settledIn ⟨Nat.le_of_ble_eq_true rfl, Nat.le_of_ble_eq_true rfl⟩) (cm_preV hP hK hD hS hA hX [0, 1] rfl rfl rfl (q0 := 0) (ci := 11) rfl rfl) rfl rfl hl.1 rfl (lv_room (Nat.le_of_ble_eq_true rfl)) dL_law_3215 ⟨Nat.le_of_ble_eq_true rfl, Nat.le_of_ble_eq_true rfl⟩) hP hD hS hA [0, 1] [] rfl rfl rfl (by decide) (fun r_3 u H locs hw_4 hP hD hS => ?_)
  have hP : va_P D vwCl [(mo, .inr (11, [.ref mw, .ref ma, .ref mf, .ref m0, .ref m1, .ref mu, .ref mv, .ref u0, .ref u1, .ref iz, .int 1, .ref mb, .int 0, .int 0, .int 0, .int 0, .int 0, .int 0, .int 0])), (mw, .inl (ct 0, 958, .inl m_w0))] H := hP
  have hD : va_D A [(mo, .inr (11, [.ref mw, .ref ma, .ref mf, .ref m0, .ref m1, .ref mu, .ref mv, .ref u0, .ref u1, .ref iz, .int 1, .ref mb, .int 0, .int 0, .int 0, .int 0, .int 0, .int 0, .int 0])), (mw, .inl (ct 0, 958, .inl m_w0))] := hD
  refine lv_istore (lv' := [(7, .int r_3), (6, .int 1), (0, .ref b), (1, .ref x), (2, .ref mo), (3, .ref ov), (4, .ref od), (5, .int 0)]) hx hb dL_law_3218 hl (by decide) rfl (fun ls hl => ?_)
  refine lv_aload_n hx hb dL_law_3220 rfl (lv_at hl 4 rfl) ?_
  refine cm_ki (wr := [(mw, .inl (ct 0, 958, .inl m_w0))]) (va_runV (As := []) (rest := []) ⟨hx, hb, hml, hown, hts⟩ (m_thrown l D ct mo mw ma mf m0 m1 mu mv u0 u1 iz mb 1 _) (cm_V 0 hts kc_X11_thrown ki_RX11 kl_RL_202 kv_X11_thrown kx_X11_thrown kd_X11_thrown ⟨Nat.le_of_ble_eq_true rfl, Nat.le_of_ble_eq_true rfl⟩) (cm_preV hP hK hD hS hA hX [0] rfl rfl rfl (q0 := 0) (ci := 11) rfl rfl) rfl rfl hl.1 rfl (lv_room (Nat.le_of_ble_eq_true rfl)) dL_law_3221 ⟨Nat.le_of_ble_eq_true rfl, Nat.le_of_ble_eq_true rfl⟩) hP hD hS hA [0] [1] rfl rfl rfl (by decide) (fun r_5 u H locs hw_6 hP hD hS => ?_)
  have hw_6 : r_5 = 1 := hw_6
  obtain rfl := hw_6
  have hP : va_P D vwCl [(mw, .inl (ct 0, 958, .inl m_w0)), (mo, .inr (11, [.ref mw, .ref ma, .ref mf, .ref m0, .ref m1, .ref mu, .ref mv, .ref u0, .ref u1, .ref iz, .int 1, .ref mb, .int 0, .int 0, .int 0, .int 0, .int 0, .int 0, .int 0]))] H := hP
  have hD : va_D A [(mw, .inl (ct 0, 958, .inl m_w0)), (mo, .inr (11, [.ref mw, .ref ma, .ref mf, .ref m0, .ref m1, .ref mu, .ref mv, .ref u0, .ref u1, .ref iz, .int 1, .ref mb, .int 0, .int 0, .int 0, .int 0, .int 0, .int 0, .int 0]))] := hD
  refine lv_iload hx hb dL_law_3224 (lv_at hl 1 rfl) ?_
  refine lv_icmp_eq (tgt := 3231) hx hb dL_law_3226 (by decide) (fun _ => ?_) (fun hc => absurd (by decide) hc)
  refine lv_iload hx hb dL_law_3231 (lv_at hl 1 rfl) ?_
  refine lv_if_ne (tgt := 3248) hx hb dL_law_3233 (by decide) (fun _ => ?_) (fun hc => absurd hc (by decide))
  refine lv_goto (tgt := 3623) hx hb dL_law_3248 (by decide) ?_
  exact law_end C1 hS (lv_sub hl [2, 7] rfl) (Nat.le_of_ble_eq_true rfl) (Nat.le_of_ble_eq_true rfl)
theorem dL_law_3251 : decode cL_law 3251 = .ok (.aload_n 1, 1) := by decide +kernel
theorem dL_law_3252 : decode cL_law 3252 = .ok (.aload_n 0, 1) := by decide +kernel
theorem dL_law_3253 : decode cL_law 3253 = .ok (.iload 5, 2) := by decide +kernel
theorem dL_law_3255 : decode cL_law 3255 = .ok (.iconst 1, 1) := by decide +kernel
theorem dL_law_3256 : decode cL_law 3256 = .ok (.iadd, 1) := by decide +kernel
theorem dL_law_3257 : decode cL_law 3257 = .ok (.iaload, 1) := by decide +kernel
theorem dL_law_3258 : decode cL_law 3258 = .ok (.aload_n 0, 1) := by decide +kernel
theorem dL_law_3259 : decode cL_law 3259 = .ok (.iload 5, 2) := by decide +kernel
theorem dL_law_3261 : decode cL_law 3261 = .ok (.iconst 2, 1) := by decide +kernel
theorem dL_law_3262 : decode cL_law 3262 = .ok (.iadd, 1) := by decide +kernel
theorem dL_law_3263 : decode cL_law 3263 = .ok (.iaload, 1) := by decide +kernel
theorem dL_law_3264 : decode cL_law 3264 = .ok (.aload_n 3, 1) := by decide +kernel
theorem dL_law_3265 : decode cL_law 3265 = .ok (.invokestatic 360, 3) := by decide +kernel
theorem dL_law_3268 : decode cL_law 3268 = .ok (.istore 6, 2) := by decide +kernel
theorem dL_law_3270 : decode cL_law 3270 = .ok (.aload_n 2, 1) := by decide +kernel
theorem dL_law_3271 : decode cL_law 3271 = .ok (.aload_n 0, 1) := by decide +kernel
theorem dL_law_3272 : decode cL_law 3272 = .ok (.iload 5, 2) := by decide +kernel
theorem dL_law_3274 : decode cL_law 3274 = .ok (.iconst 1, 1) := by decide +kernel
theorem dL_law_3275 : decode cL_law 3275 = .ok (.iadd, 1) := by decide +kernel
theorem dL_law_3276 : decode cL_law 3276 = .ok (.iaload, 1) := by decide +kernel
theorem dL_law_3277 : decode cL_law 3277 = .ok (.aload_n 0, 1) := by decide +kernel
theorem dL_law_3278 : decode cL_law 3278 = .ok (.iload 5, 2) := by decide +kernel
theorem dL_law_3280 : decode cL_law 3280 = .ok (.iconst 2, 1) := by decide +kernel
theorem dL_law_3281 : decode cL_law 3281 = .ok (.iadd, 1) := by decide +kernel
theorem dL_law_3282 : decode cL_law 3282 = .ok (.iaload, 1) := by decide +kernel
theorem dL_law_3283 : decode cL_law 3283 = .ok (.invokevirtual 362, 3) := by decide +kernel
theorem dL_law_3286 : decode cL_law 3286 = .ok (.istore 7, 2) := by decide +kernel
theorem dL_law_3288 : decode cL_law 3288 = .ok (.aload_n 2, 1) := by decide +kernel
theorem dL_law_3289 : decode cL_law 3289 = .ok (.invokevirtual 202, 3) := by decide +kernel
theorem dL_law_3292 : decode cL_law 3292 = .ok (.iload 6, 2) := by decide +kernel
theorem dL_law_3294 : decode cL_law 3294 = .ok (.if_icmp .eq 5, 3) := by decide +kernel
theorem dL_law_3299 : decode cL_law 3299 = .ok (.iload 6, 2) := by decide +kernel
theorem dL_law_3301 : decode cL_law 3301 = .ok (.ifCond .ne 15, 3) := by decide +kernel
theorem dL_law_3316 : decode cL_law 3316 = .ok (.goto 307, 3) := by decide +kernel
set_option maxRecDepth 100000 in
set_option maxHeartbeats 4000000 in
theorem law_54 {p : Program} {l : Launch} {e : Env} {s : State} {m : MethodId} {below : List Frame} {meth : Method} {c : Code} {D : va_G} {ct : Nat → ClassId} {A : Nat → Prop} {b : Nat} {xs : Nat → Int32} {H : Heap} {locs : List Loc} {ls : Array Slot} (hfl : l.stackTraces = false) (C1 : cmL p s m meth c D ct A b 4 xs) (x : Nat) (w : Nat) (sp : Nat) (sv : Nat) (bu : Nat) (w_se : Nat) (w_cu : Nat) (w_pr : Nat) (w_ch : Nat) (w_re : Nat) (w_lo : Nat) (mo : Nat) (mw : Nat) (ma : Nat) (mf : Nat) (m0 : Nat) (m1 : Nat) (mu : Nat) (mv : Nat) (u0 : Nat) (u1 : Nat) (iz : Nat) (mb : Nat) (ov : Nat) (od : Nat) (hP : va_P D vwCl [(x, .inr (10, [.ref w, .ref sp, .ref sv, .ref bu, .int 0, .int 0])), (w, .inr (9, [.int 0, .ref w_se, .ref w_cu, .ref w_pr, .int 0, .ref w_ch, .ref w_re, .ref w_lo])), (mo, .inr (11, [.ref mw, .ref ma, .ref mf, .ref m0, .ref m1, .ref mu, .ref mv, .ref u0, .ref u1, .ref iz, .int 0, .ref mb, .int 0, .int 0, .int 0, .int 0, .int 0, .int 0, .int 0])), (mw, .inl (ct 0, 958, .inl m_w0)), (ov, .inl (ct 1, 1, .inr (.inl (fun _ => 0))))] H) (hD : va_D A [(x, .inr (10, [.ref w, .ref sp, .ref sv, .ref bu, .int 0, .int 0])), (w, .inr (9, [.int 0, .ref w_se, .ref w_cu, .ref w_pr, .int 0, .ref w_ch, .ref w_re, .ref w_lo])), (mo, .inr (11, [.ref mw, .ref ma, .ref mf, .ref m0, .ref m1, .ref mu, .ref mv, .ref u0, .ref u1, .ref iz, .int 0, .ref mb, .int 0, .int 0, .int 0, .int 0, .int 0, .int 0, .int 0])), (mw, .inl (ct 0, 958, .inl m_w0)), (ov, .inl (ct 1, 1, .inr (.inl (fun _ => 0))))]) (hS : va_S A s.heap H locs) (hl : lv_has ls 9 [(0, .ref b), (1, .ref x), (2, .ref mo), (3, .ref ov), (4, .ref od), (5, .int 0)]) : W p l e room_1 s m #[Value.ref b] below meth c H locs 157 8795 (lw_Z below #[Value.ref b] s) (F0 m 3251 ls []) := by
  obtain ⟨hx, hb, hr, hml, hown, hts, hK, hX, hXs, hbl, hbA, hA, hAr, hlocks⟩ := id C1
  refine lv_aload_n hx hb dL_law_3251 rfl (lv_at hl 1 rfl) ?_
  refine lv_aload_n hx hb dL_law_3252 rfl (lv_at hl 0 rfl) ?_
  refine lv_iload hx hb dL_law_3253 (lv_at hl 5 rfl) ?_
  refine lv_iconst (v := 1) hx hb dL_law_3255 (by decide) ?_
  refine lv_iadd hx hb dL_law_3256 ?_
  refine cm_cst (y := 1) (by decide) ?_
  refine va_sld hx hb hXs hbl hbA hS (cm_vin (by decide)) dL_law_3257 ?_
  refine lv_aload_n hx hb dL_law_3258 rfl (lv_at hl 0 rfl) ?_
  refine lv_iload hx hb dL_law_3259 (lv_at hl 5 rfl) ?_
  refine lv_iconst (v := 2) hx hb dL_law_3261 (by decide) ?_
  refine lv_iadd hx hb dL_law_3262 ?_
  refine cm_cst (y := 2) (by decide) ?_
  refine va_sld hx hb hXs hbl hbA hS (cm_vin (by decide)) dL_law_3263 ?_
  refine lv_aload_n hx hb dL_law_3264 rfl (lv_at hl 3 rfl) ?_
  refine cm_ki (wr := [(mo, .inr (11, [.ref mw, .ref ma, .ref mf, .ref m0, .ref m1, .ref mu, .ref mv, .ref u0, .ref u1, .ref iz, .int 0, .ref mb, .int 0, .int 0, .int 0, .int 0, .int 0, .int 0, .int 0])), (mw, .inl (ct 0, 958, .inl m_w0))]) (vx_runSW (As := [.ref x, .int (xs (1 : Int32).toNatClampNeg), .int (xs (2 : Int32).toNatClampNeg), .ref ov]) (rest := []) ⟨hx, hb, hml, hown, hts⟩ (l_duration l hfl D ct x w sp sv bu w_se w_cu w_pr w_ch w_re w_lo ov (fun _ => 0) (xs (1 : Int32).toNatClampNeg) (xs (2 : Int32).toNatClampNeg) _) (cm_SW 4 hts kw_L_duration ki_RL kl_RL_360 ks_L_duration kd_L_duration ⟨Nat.le_of_ble_eq_true rfl, Nat.le_of_ble_eq_true rfl⟩) (cm_preS hP hK hD hS hA hX [0, 1, 4] rfl rfl rfl) rfl rfl hl.1 rfl (lv_room (Nat.le_of_ble_eq_true rfl)) dL_law_3265 ⟨Nat.le_of_ble_eq_true rfl, Nat.le_of_ble_eq_true rfl⟩) hP hD hS hA [0, 1, 4] [2, 3] rfl rfl rfl (by decide) (fun r_1 u H locs hw_2 hP hD hS => ?_)
  have hw_2 : r_1 = 1 := hw_2
  obtain rfl := hw_2
  have hP : va_P D vwCl [(mo, .inr (11, [.ref mw, .ref ma, .ref mf, .ref m0, .ref m1, .ref mu, .ref mv, .ref u0, .ref u1, .ref iz, .int 0, .ref mb, .int 0, .int 0, .int 0, .int 0, .int 0, .int 0, .int 0])), (mw, .inl (ct 0, 958, .inl m_w0))] H := hP
  have hD : va_D A [(mo, .inr (11, [.ref mw, .ref ma, .ref mf, .ref m0, .ref m1, .ref mu, .ref mv, .ref u0, .ref u1, .ref iz, .int 0, .ref mb, .int 0, .int 0, .int 0, .int 0, .int 0, .int 0, .int 0])), (mw, .inl (ct 0, 958, .inl m_w0))] := hD
  refine W.widen (k := 158) (n := 8801) (Nat.le_of_ble_eq_true rfl) (Nat.le_of_ble_eq_true rfl) ?_
  refine lv_istore (lv' := [(6, .int 1), (0, .ref b), (1, .ref x), (2, .ref mo), (3, .ref ov), (4, .ref od), (5, .int 0)]) hx hb dL_law_3268 hl (by decide) rfl (fun ls hl => ?_)
  refine lv_aload_n hx hb dL_law_3270 rfl (lv_at hl 3 rfl) ?_
  refine lv_aload_n hx hb dL_law_3271 rfl (lv_at hl 1 rfl) ?_
  refine lv_iload hx hb dL_law_3272 (lv_at hl 6 rfl) ?_
  refine lv_iconst (v := 1) hx hb dL_law_3274 (by decide) ?_
  refine lv_iadd hx hb dL_law_3275 ?_
  refine cm_cst (y := 1) (by decide) ?_
  refine va_sld hx hb hXs hbl hbA hS (cm_vin (by decide)) dL_law_3276 ?_
  refine lv_aload_n hx hb dL_law_3277 rfl (lv_at hl 1 rfl) ?_
  refine lv_iload hx hb dL_law_3278 (lv_at hl 6 rfl) ?_
  refine lv_iconst (v := 2) hx hb dL_law_3280 (by decide) ?_
  refine lv_iadd hx hb dL_law_3281 ?_
  refine cm_cst (y := 2) (by decide) ?_
  refine va_sld hx hb hXs hbl hbA hS (cm_vin (by decide)) dL_law_3282 ?_
  refine cm_ki (wr := []) (va_runV (As := [.int (xs (1 : Int32).toNatClampNeg), .int (xs (2 : Int32).toNatClampNeg)]) (rest := []) ⟨hx, hb, hml, hown, hts⟩ (m_duration_0 l D ct mo mw ma mf m0 m1 mu mv u0 u1 iz mb (xs (1 : Int32).toNatClampNeg) (xs (2 : Int32).toNatClampNeg) _) (cm_V 2 hts kc_X11_duration ki_RX11 kl_RL_362 kv_X11_duration kx_X11_duration kd_X11_duration ⟨Nat.le_of_ble_eq_true rfl, Nat.le_of_ble_eq_true rfl⟩) (cm_preV hP hK hD hS hA hX [0, 1] rfl rfl rfl (q0 := 0) (ci := 11) rfl rfl) rfl rfl hl.1 rfl (lv_room (Nat.le_of_ble_eq_true rfl)) dL_law_3283 ⟨Nat.le_of_ble_eq_true rfl, Nat.le_of_ble_eq_true rfl⟩) hP hD hS hA [0, 1] [] rfl rfl rfl (by decide) (fun r_3 u H locs hw_4 hP hD hS => ?_)
  have hP : va_P D vwCl [(mo, .inr (11, [.ref mw, .ref ma, .ref mf, .ref m0, .ref m1, .ref mu, .ref mv, .ref u0, .ref u1, .ref iz, .int 1, .ref mb, .int 0, .int 0, .int 0, .int 0, .int 0, .int 0, .int 0])), (mw, .inl (ct 0, 958, .inl m_w0))] H := hP
  have hD : va_D A [(mo, .inr (11, [.ref mw, .ref ma, .ref mf, .ref m0, .ref m1, .ref mu, .ref mv, .ref u0, .ref u1, .ref iz, .int 1, .ref mb, .int 0, .int 0, .int 0, .int 0, .int 0, .int 0, .int 0])), (mw, .inl (ct 0, 958, .inl m_w0))] := hD
  refine lv_istore (lv' := [(7, .int r_3), (6, .int 1), (0, .ref b), (1, .ref x), (2, .ref mo), (3, .ref ov), (4, .ref od), (5, .int 0)]) hx hb dL_law_3286 hl (by decide) rfl (fun ls hl => ?_)
  refine lv_aload_n hx hb dL_law_3288 rfl (lv_at hl 4 rfl) ?_
  refine cm_ki (wr := [(mw, .inl (ct 0, 958, .inl m_w0))]) (va_runV (As := []) (rest := []) ⟨hx, hb, hml, hown, hts⟩ (m_thrown l D ct mo mw ma mf m0 m1 mu mv u0 u1 iz mb 1 _) (cm_V 0 hts kc_X11_thrown ki_RX11 kl_RL_202 kv_X11_thrown kx_X11_thrown kd_X11_thrown ⟨Nat.le_of_ble_eq_true rfl, Nat.le_of_ble_eq_true rfl⟩) (cm_preV hP hK hD hS hA hX [0] rfl rfl rfl (q0 := 0) (ci := 11) rfl rfl) rfl rfl hl.1 rfl (lv_room (Nat.le_of_ble_eq_true rfl)) dL_law_3289 ⟨Nat.le_of_ble_eq_true rfl, Nat.le_of_ble_eq_true rfl⟩) hP hD hS hA [0] [1] rfl rfl rfl (by decide) (fun r_5 u H locs hw_6 hP hD hS => ?_)
  have hw_6 : r_5 = 1 := hw_6
  obtain rfl := hw_6
  have hP : va_P D vwCl [(mw, .inl (ct 0, 958, .inl m_w0)), (mo, .inr (11, [.ref mw, .ref ma, .ref mf, .ref m0, .ref m1, .ref mu, .ref mv, .ref u0, .ref u1, .ref iz, .int 1, .ref mb, .int 0, .int 0, .int 0, .int 0, .int 0, .int 0, .int 0]))] H := hP
  have hD : va_D A [(mw, .inl (ct 0, 958, .inl m_w0)), (mo, .inr (11, [.ref mw, .ref ma, .ref mf, .ref m0, .ref m1, .ref mu, .ref mv, .ref u0, .ref u1, .ref iz, .int 1, .ref mb, .int 0, .int 0, .int 0, .int 0, .int 0, .int 0, .int 0]))] := hD
  refine lv_iload hx hb dL_law_3292 (lv_at hl 1 rfl) ?_
  refine lv_icmp_eq (tgt := 3299) hx hb dL_law_3294 (by decide) (fun _ => ?_) (fun hc => absurd (by decide) hc)
  refine lv_iload hx hb dL_law_3299 (lv_at hl 1 rfl) ?_
  refine lv_if_ne (tgt := 3316) hx hb dL_law_3301 (by decide) (fun _ => ?_) (fun hc => absurd hc (by decide))
  refine lv_goto (tgt := 3623) hx hb dL_law_3316 (by decide) ?_
  exact law_end C1 hS (lv_sub hl [2, 7] rfl) (Nat.le_of_ble_eq_true rfl) (Nat.le_of_ble_eq_true rfl)
theorem dL_law_3319 : decode cL_law 3319 = .ok (.aload_n 1, 1) := by decide +kernel
theorem dL_law_3320 : decode cL_law 3320 = .ok (.aload_n 0, 1) := by decide +kernel
theorem dL_law_3321 : decode cL_law 3321 = .ok (.iload 5, 2) := by decide +kernel
theorem dL_law_3323 : decode cL_law 3323 = .ok (.iconst 1, 1) := by decide +kernel
theorem dL_law_3324 : decode cL_law 3324 = .ok (.iadd, 1) := by decide +kernel
theorem dL_law_3325 : decode cL_law 3325 = .ok (.iaload, 1) := by decide +kernel
theorem dL_law_3326 : decode cL_law 3326 = .ok (.aload_n 3, 1) := by decide +kernel
theorem dL_law_3327 : decode cL_law 3327 = .ok (.invokestatic 363, 3) := by decide +kernel
theorem dL_law_3330 : decode cL_law 3330 = .ok (.istore 6, 2) := by decide +kernel
theorem dL_law_3332 : decode cL_law 3332 = .ok (.aload_n 2, 1) := by decide +kernel
theorem dL_law_3333 : decode cL_law 3333 = .ok (.aload_n 0, 1) := by decide +kernel
theorem dL_law_3334 : decode cL_law 3334 = .ok (.iload 5, 2) := by decide +kernel
theorem dL_law_3336 : decode cL_law 3336 = .ok (.iconst 1, 1) := by decide +kernel
theorem dL_law_3337 : decode cL_law 3337 = .ok (.iadd, 1) := by decide +kernel
theorem dL_law_3338 : decode cL_law 3338 = .ok (.iaload, 1) := by decide +kernel
theorem dL_law_3339 : decode cL_law 3339 = .ok (.invokevirtual 365, 3) := by decide +kernel
theorem dL_law_3342 : decode cL_law 3342 = .ok (.istore 7, 2) := by decide +kernel
theorem dL_law_3344 : decode cL_law 3344 = .ok (.aload_n 2, 1) := by decide +kernel
theorem dL_law_3345 : decode cL_law 3345 = .ok (.invokevirtual 202, 3) := by decide +kernel
theorem dL_law_3348 : decode cL_law 3348 = .ok (.iload 6, 2) := by decide +kernel
theorem dL_law_3350 : decode cL_law 3350 = .ok (.if_icmp .eq 5, 3) := by decide +kernel
theorem dL_law_3355 : decode cL_law 3355 = .ok (.iload 6, 2) := by decide +kernel
theorem dL_law_3357 : decode cL_law 3357 = .ok (.ifCond .ne 15, 3) := by decide +kernel
theorem dL_law_3372 : decode cL_law 3372 = .ok (.goto 251, 3) := by decide +kernel
set_option maxRecDepth 100000 in
set_option maxHeartbeats 4000000 in
theorem law_55 {p : Program} {l : Launch} {e : Env} {s : State} {m : MethodId} {below : List Frame} {meth : Method} {c : Code} {D : va_G} {ct : Nat → ClassId} {A : Nat → Prop} {b : Nat} {xs : Nat → Int32} {H : Heap} {locs : List Loc} {ls : Array Slot} (hfl : l.stackTraces = false) (C1 : cmL p s m meth c D ct A b 4 xs) (x : Nat) (w : Nat) (sp : Nat) (sv : Nat) (bu : Nat) (w_se : Nat) (w_cu : Nat) (w_pr : Nat) (w_ch : Nat) (w_re : Nat) (w_lo : Nat) (mo : Nat) (mw : Nat) (ma : Nat) (mf : Nat) (m0 : Nat) (m1 : Nat) (mu : Nat) (mv : Nat) (u0 : Nat) (u1 : Nat) (iz : Nat) (mb : Nat) (ov : Nat) (od : Nat) (hP : va_P D vwCl [(x, .inr (10, [.ref w, .ref sp, .ref sv, .ref bu, .int 0, .int 0])), (w, .inr (9, [.int 0, .ref w_se, .ref w_cu, .ref w_pr, .int 0, .ref w_ch, .ref w_re, .ref w_lo])), (mo, .inr (11, [.ref mw, .ref ma, .ref mf, .ref m0, .ref m1, .ref mu, .ref mv, .ref u0, .ref u1, .ref iz, .int 0, .ref mb, .int 0, .int 0, .int 0, .int 0, .int 0, .int 0, .int 0])), (mw, .inl (ct 0, 958, .inl m_w0)), (ov, .inl (ct 1, 1, .inr (.inl (fun _ => 0))))] H) (hD : va_D A [(x, .inr (10, [.ref w, .ref sp, .ref sv, .ref bu, .int 0, .int 0])), (w, .inr (9, [.int 0, .ref w_se, .ref w_cu, .ref w_pr, .int 0, .ref w_ch, .ref w_re, .ref w_lo])), (mo, .inr (11, [.ref mw, .ref ma, .ref mf, .ref m0, .ref m1, .ref mu, .ref mv, .ref u0, .ref u1, .ref iz, .int 0, .ref mb, .int 0, .int 0, .int 0, .int 0, .int 0, .int 0, .int 0])), (mw, .inl (ct 0, 958, .inl m_w0)), (ov, .inl (ct 1, 1, .inr (.inl (fun _ => 0))))]) (hS : va_S A s.heap H locs) (hl : lv_has ls 9 [(0, .ref b), (1, .ref x), (2, .ref mo), (3, .ref ov), (4, .ref od), (5, .int 0)]) : W p l e room_1 s m #[Value.ref b] below meth c H locs 157 8795 (lw_Z below #[Value.ref b] s) (F0 m 3319 ls []) := by
  obtain ⟨hx, hb, hr, hml, hown, hts, hK, hX, hXs, hbl, hbA, hA, hAr, hlocks⟩ := id C1
  refine lv_aload_n hx hb dL_law_3319 rfl (lv_at hl 1 rfl) ?_
  refine lv_aload_n hx hb dL_law_3320 rfl (lv_at hl 0 rfl) ?_
  refine lv_iload hx hb dL_law_3321 (lv_at hl 5 rfl) ?_
  refine lv_iconst (v := 1) hx hb dL_law_3323 (by decide) ?_
  refine lv_iadd hx hb dL_law_3324 ?_
  refine cm_cst (y := 1) (by decide) ?_
  refine va_sld hx hb hXs hbl hbA hS (cm_vin (by decide)) dL_law_3325 ?_
  refine lv_aload_n hx hb dL_law_3326 rfl (lv_at hl 3 rfl) ?_
  refine cm_ki (wr := [(mo, .inr (11, [.ref mw, .ref ma, .ref mf, .ref m0, .ref m1, .ref mu, .ref mv, .ref u0, .ref u1, .ref iz, .int 0, .ref mb, .int 0, .int 0, .int 0, .int 0, .int 0, .int 0, .int 0])), (mw, .inl (ct 0, 958, .inl m_w0))]) (vx_runSW (As := [.ref x, .int (xs (1 : Int32).toNatClampNeg), .ref ov]) (rest := []) ⟨hx, hb, hml, hown, hts⟩ (l_shortest l hfl D ct x w sp sv bu w_se w_cu w_pr w_ch w_re w_lo ov (fun _ => 0) (xs (1 : Int32).toNatClampNeg) _) (cm_SW 3 hts kw_L_shortest ki_RL kl_RL_363 ks_L_shortest kd_L_shortest ⟨Nat.le_of_ble_eq_true rfl, Nat.le_of_ble_eq_true rfl⟩) (cm_preS hP hK hD hS hA hX [0, 1, 4] rfl rfl rfl) rfl rfl hl.1 rfl (lv_room (Nat.le_of_ble_eq_true rfl)) dL_law_3327 ⟨Nat.le_of_ble_eq_true rfl, Nat.le_of_ble_eq_true rfl⟩) hP hD hS hA [0, 1, 4] [2, 3] rfl rfl rfl (by decide) (fun r_1 u H locs hw_2 hP hD hS => ?_)
  have hw_2 : r_1 = 1 := hw_2
  obtain rfl := hw_2
  have hP : va_P D vwCl [(mo, .inr (11, [.ref mw, .ref ma, .ref mf, .ref m0, .ref m1, .ref mu, .ref mv, .ref u0, .ref u1, .ref iz, .int 0, .ref mb, .int 0, .int 0, .int 0, .int 0, .int 0, .int 0, .int 0])), (mw, .inl (ct 0, 958, .inl m_w0))] H := hP
  have hD : va_D A [(mo, .inr (11, [.ref mw, .ref ma, .ref mf, .ref m0, .ref m1, .ref mu, .ref mv, .ref u0, .ref u1, .ref iz, .int 0, .ref mb, .int 0, .int 0, .int 0, .int 0, .int 0, .int 0, .int 0])), (mw, .inl (ct 0, 958, .inl m_w0))] := hD
  refine W.widen (k := 158) (n := 8801) (Nat.le_of_ble_eq_true rfl) (Nat.le_of_ble_eq_true rfl) ?_
  refine lv_istore (lv' := [(6, .int 1), (0, .ref b), (1, .ref x), (2, .ref mo), (3, .ref ov), (4, .ref od), (5, .int 0)]) hx hb dL_law_3330 hl (by decide) rfl (fun ls hl => ?_)
  refine lv_aload_n hx hb dL_law_3332 rfl (lv_at hl 3 rfl) ?_
  refine lv_aload_n hx hb dL_law_3333 rfl (lv_at hl 1 rfl) ?_
  refine lv_iload hx hb dL_law_3334 (lv_at hl 6 rfl) ?_
  refine lv_iconst (v := 1) hx hb dL_law_3336 (by decide) ?_
  refine lv_iadd hx hb dL_law_3337 ?_
  refine cm_cst (y := 1) (by decide) ?_
  refine va_sld hx hb hXs hbl hbA hS (cm_vin (by decide)) dL_law_3338 ?_
  refine cm_ki (wr := []) (va_runV (As := [.int (xs (1 : Int32).toNatClampNeg)]) (rest := []) ⟨hx, hb, hml, hown, hts⟩ (m_shortest_0 l D ct mo mw ma mf m0 m1 mu mv u0 u1 iz mb (xs (1 : Int32).toNatClampNeg) _) (cm_V 1 hts kc_X11_shortest ki_RX11 kl_RL_365 kv_X11_shortest kx_X11_shortest kd_X11_shortest ⟨Nat.le_of_ble_eq_true rfl, Nat.le_of_ble_eq_true rfl⟩) (cm_preV hP hK hD hS hA hX [0, 1] rfl rfl rfl (q0 := 0) (ci := 11) rfl rfl) rfl rfl hl.1 rfl (lv_room (Nat.le_of_ble_eq_true rfl)) dL_law_3339 ⟨Nat.le_of_ble_eq_true rfl, Nat.le_of_ble_eq_true rfl⟩) hP hD hS hA [0, 1] [] rfl rfl rfl (by decide) (fun r_3 u H locs hw_4 hP hD hS => ?_)
  have hP : va_P D vwCl [(mo, .inr (11, [.ref mw, .ref ma, .ref mf, .ref m0, .ref m1, .ref mu, .ref mv, .ref u0, .ref u1, .ref iz, .int 1, .ref mb, .int 0, .int 0, .int 0, .int 0, .int 0, .int 0, .int 0])), (mw, .inl (ct 0, 958, .inl m_w0))] H := hP
  have hD : va_D A [(mo, .inr (11, [.ref mw, .ref ma, .ref mf, .ref m0, .ref m1, .ref mu, .ref mv, .ref u0, .ref u1, .ref iz, .int 1, .ref mb, .int 0, .int 0, .int 0, .int 0, .int 0, .int 0, .int 0])), (mw, .inl (ct 0, 958, .inl m_w0))] := hD
  refine lv_istore (lv' := [(7, .int r_3), (6, .int 1), (0, .ref b), (1, .ref x), (2, .ref mo), (3, .ref ov), (4, .ref od), (5, .int 0)]) hx hb dL_law_3342 hl (by decide) rfl (fun ls hl => ?_)
  refine lv_aload_n hx hb dL_law_3344 rfl (lv_at hl 4 rfl) ?_
  refine cm_ki (wr := [(mw, .inl (ct 0, 958, .inl m_w0))]) (va_runV (As := []) (rest := []) ⟨hx, hb, hml, hown, hts⟩ (m_thrown l D ct mo mw ma mf m0 m1 mu mv u0 u1 iz mb 1 _) (cm_V 0 hts kc_X11_thrown ki_RX11 kl_RL_202 kv_X11_thrown kx_X11_thrown kd_X11_thrown ⟨Nat.le_of_ble_eq_true rfl, Nat.le_of_ble_eq_true rfl⟩) (cm_preV hP hK hD hS hA hX [0] rfl rfl rfl (q0 := 0) (ci := 11) rfl rfl) rfl rfl hl.1 rfl (lv_room (Nat.le_of_ble_eq_true rfl)) dL_law_3345 ⟨Nat.le_of_ble_eq_true rfl, Nat.le_of_ble_eq_true rfl⟩) hP hD hS hA [0] [1] rfl rfl rfl (by decide) (fun r_5 u H locs hw_6 hP hD hS => ?_)
  have hw_6 : r_5 = 1 := hw_6
  obtain rfl := hw_6
  have hP : va_P D vwCl [(mw, .inl (ct 0, 958, .inl m_w0)), (mo, .inr (11, [.ref mw, .ref ma, .ref mf, .ref m0, .ref m1, .ref mu, .ref mv, .ref u0, .ref u1, .ref iz, .int 1, .ref mb, .int 0, .int 0, .int 0, .int 0, .int 0, .int 0, .int 0]))] H := hP
  have hD : va_D A [(mw, .inl (ct 0, 958, .inl m_w0)), (mo, .inr (11, [.ref mw, .ref ma, .ref mf, .ref m0, .ref m1, .ref mu, .ref mv, .ref u0, .ref u1, .ref iz, .int 1, .ref mb, .int 0, .int 0, .int 0, .int 0, .int 0, .int 0, .int 0]))] := hD
  refine lv_iload hx hb dL_law_3348 (lv_at hl 1 rfl) ?_
  refine lv_icmp_eq (tgt := 3355) hx hb dL_law_3350 (by decide) (fun _ => ?_) (fun hc => absurd (by decide) hc)
  refine lv_iload hx hb dL_law_3355 (lv_at hl 1 rfl) ?_
  refine lv_if_ne (tgt := 3372) hx hb dL_law_3357 (by decide) (fun _ => ?_) (fun hc => absurd hc (by decide))
  refine lv_goto (tgt := 3623) hx hb dL_law_3372 (by decide) ?_
  exact law_end C1 hS (lv_sub hl [2, 7] rfl) (Nat.le_of_ble_eq_true rfl) (Nat.le_of_ble_eq_true rfl)
theorem dL_law_3375 : decode cL_law 3375 = .ok (.aload_n 1, 1) := by decide +kernel
theorem dL_law_3376 : decode cL_law 3376 = .ok (.aload_n 0, 1) := by decide +kernel
theorem dL_law_3377 : decode cL_law 3377 = .ok (.iload 5, 2) := by decide +kernel
theorem dL_law_3379 : decode cL_law 3379 = .ok (.iconst 1, 1) := by decide +kernel
theorem dL_law_3380 : decode cL_law 3380 = .ok (.iadd, 1) := by decide +kernel
theorem dL_law_3381 : decode cL_law 3381 = .ok (.iaload, 1) := by decide +kernel
theorem dL_law_3382 : decode cL_law 3382 = .ok (.aload_n 0, 1) := by decide +kernel
theorem dL_law_3383 : decode cL_law 3383 = .ok (.iload 5, 2) := by decide +kernel
theorem dL_law_3385 : decode cL_law 3385 = .ok (.iconst 2, 1) := by decide +kernel
theorem dL_law_3386 : decode cL_law 3386 = .ok (.iadd, 1) := by decide +kernel
theorem dL_law_3387 : decode cL_law 3387 = .ok (.iaload, 1) := by decide +kernel
theorem dL_law_3388 : decode cL_law 3388 = .ok (.aload_n 3, 1) := by decide +kernel
theorem dL_law_3389 : decode cL_law 3389 = .ok (.invokestatic 366, 3) := by decide +kernel
theorem dL_law_3392 : decode cL_law 3392 = .ok (.istore 6, 2) := by decide +kernel
theorem dL_law_3394 : decode cL_law 3394 = .ok (.aload_n 2, 1) := by decide +kernel
theorem dL_law_3395 : decode cL_law 3395 = .ok (.aload_n 0, 1) := by decide +kernel
theorem dL_law_3396 : decode cL_law 3396 = .ok (.iload 5, 2) := by decide +kernel
theorem dL_law_3398 : decode cL_law 3398 = .ok (.iconst 1, 1) := by decide +kernel
theorem dL_law_3399 : decode cL_law 3399 = .ok (.iadd, 1) := by decide +kernel
theorem dL_law_3400 : decode cL_law 3400 = .ok (.iaload, 1) := by decide +kernel
theorem dL_law_3401 : decode cL_law 3401 = .ok (.aload_n 0, 1) := by decide +kernel
theorem dL_law_3402 : decode cL_law 3402 = .ok (.iload 5, 2) := by decide +kernel
theorem dL_law_3404 : decode cL_law 3404 = .ok (.iconst 2, 1) := by decide +kernel
theorem dL_law_3405 : decode cL_law 3405 = .ok (.iadd, 1) := by decide +kernel
theorem dL_law_3406 : decode cL_law 3406 = .ok (.iaload, 1) := by decide +kernel
theorem dL_law_3407 : decode cL_law 3407 = .ok (.invokevirtual 368, 3) := by decide +kernel
theorem dL_law_3410 : decode cL_law 3410 = .ok (.istore 7, 2) := by decide +kernel
theorem dL_law_3412 : decode cL_law 3412 = .ok (.aload_n 2, 1) := by decide +kernel
theorem dL_law_3413 : decode cL_law 3413 = .ok (.invokevirtual 202, 3) := by decide +kernel
theorem dL_law_3416 : decode cL_law 3416 = .ok (.iload 6, 2) := by decide +kernel
theorem dL_law_3418 : decode cL_law 3418 = .ok (.if_icmp .eq 5, 3) := by decide +kernel
theorem dL_law_3423 : decode cL_law 3423 = .ok (.iload 6, 2) := by decide +kernel
theorem dL_law_3425 : decode cL_law 3425 = .ok (.ifCond .ne 15, 3) := by decide +kernel
theorem dL_law_3440 : decode cL_law 3440 = .ok (.goto 183, 3) := by decide +kernel
set_option maxRecDepth 100000 in
set_option maxHeartbeats 4000000 in
theorem law_56 {p : Program} {l : Launch} {e : Env} {s : State} {m : MethodId} {below : List Frame} {meth : Method} {c : Code} {D : va_G} {ct : Nat → ClassId} {A : Nat → Prop} {b : Nat} {xs : Nat → Int32} {H : Heap} {locs : List Loc} {ls : Array Slot} (hfl : l.stackTraces = false) (C1 : cmL p s m meth c D ct A b 4 xs) (x : Nat) (w : Nat) (sp : Nat) (sv : Nat) (bu : Nat) (w_se : Nat) (w_cu : Nat) (w_pr : Nat) (w_ch : Nat) (w_re : Nat) (w_lo : Nat) (mo : Nat) (mw : Nat) (ma : Nat) (mf : Nat) (m0 : Nat) (m1 : Nat) (mu : Nat) (mv : Nat) (u0 : Nat) (u1 : Nat) (iz : Nat) (mb : Nat) (ov : Nat) (od : Nat) (hP : va_P D vwCl [(x, .inr (10, [.ref w, .ref sp, .ref sv, .ref bu, .int 0, .int 0])), (w, .inr (9, [.int 0, .ref w_se, .ref w_cu, .ref w_pr, .int 0, .ref w_ch, .ref w_re, .ref w_lo])), (mo, .inr (11, [.ref mw, .ref ma, .ref mf, .ref m0, .ref m1, .ref mu, .ref mv, .ref u0, .ref u1, .ref iz, .int 0, .ref mb, .int 0, .int 0, .int 0, .int 0, .int 0, .int 0, .int 0])), (mw, .inl (ct 0, 958, .inl m_w0)), (ov, .inl (ct 1, 1, .inr (.inl (fun _ => 0))))] H) (hD : va_D A [(x, .inr (10, [.ref w, .ref sp, .ref sv, .ref bu, .int 0, .int 0])), (w, .inr (9, [.int 0, .ref w_se, .ref w_cu, .ref w_pr, .int 0, .ref w_ch, .ref w_re, .ref w_lo])), (mo, .inr (11, [.ref mw, .ref ma, .ref mf, .ref m0, .ref m1, .ref mu, .ref mv, .ref u0, .ref u1, .ref iz, .int 0, .ref mb, .int 0, .int 0, .int 0, .int 0, .int 0, .int 0, .int 0])), (mw, .inl (ct 0, 958, .inl m_w0)), (ov, .inl (ct 1, 1, .inr (.inl (fun _ => 0))))]) (hS : va_S A s.heap H locs) (hl : lv_has ls 9 [(0, .ref b), (1, .ref x), (2, .ref mo), (3, .ref ov), (4, .ref od), (5, .int 0)]) : W p l e room_1 s m #[Value.ref b] below meth c H locs 157 8795 (lw_Z below #[Value.ref b] s) (F0 m 3375 ls []) := by
  obtain ⟨hx, hb, hr, hml, hown, hts, hK, hX, hXs, hbl, hbA, hA, hAr, hlocks⟩ := id C1
  refine lv_aload_n hx hb dL_law_3375 rfl (lv_at hl 1 rfl) ?_
  refine lv_aload_n hx hb dL_law_3376 rfl (lv_at hl 0 rfl) ?_
  refine lv_iload hx hb dL_law_3377 (lv_at hl 5 rfl) ?_
  refine lv_iconst (v := 1) hx hb dL_law_3379 (by decide) ?_
  refine lv_iadd hx hb dL_law_3380 ?_
  refine cm_cst (y := 1) (by decide) ?_
  refine va_sld hx hb hXs hbl hbA hS (cm_vin (by decide)) dL_law_3381 ?_
  refine lv_aload_n hx hb dL_law_3382 rfl (lv_at hl 0 rfl) ?_
  refine lv_iload hx hb dL_law_3383 (lv_at hl 5 rfl) ?_
  refine lv_iconst (v := 2) hx hb dL_law_3385 (by decide) ?_
  refine lv_iadd hx hb dL_law_3386 ?_
  refine cm_cst (y := 2) (by decide) ?_
  refine va_sld hx hb hXs hbl hbA hS (cm_vin (by decide)) dL_law_3387 ?_
  refine lv_aload_n hx hb dL_law_3388 rfl (lv_at hl 3 rfl) ?_
  refine cm_ki (wr := [(mo, .inr (11, [.ref mw, .ref ma, .ref mf, .ref m0, .ref m1, .ref mu, .ref mv, .ref u0, .ref u1, .ref iz, .int 0, .ref mb, .int 0, .int 0, .int 0, .int 0, .int 0, .int 0, .int 0])), (mw, .inl (ct 0, 958, .inl m_w0))]) (vx_runSW (As := [.ref x, .int (xs (1 : Int32).toNatClampNeg), .int (xs (2 : Int32).toNatClampNeg), .ref ov]) (rest := []) ⟨hx, hb, hml, hown, hts⟩ (l_capacityIf l hfl D ct x w sp sv bu w_se w_cu w_pr w_ch w_re w_lo ov (fun _ => 0) (xs (1 : Int32).toNatClampNeg) (xs (2 : Int32).toNatClampNeg) _) (cm_SW 4 hts kw_L_capacityIf ki_RL kl_RL_366 ks_L_capacityIf kd_L_capacityIf ⟨Nat.le_of_ble_eq_true rfl, Nat.le_of_ble_eq_true rfl⟩) (cm_preS hP hK hD hS hA hX [0, 1, 4] rfl rfl rfl) rfl rfl hl.1 rfl (lv_room (Nat.le_of_ble_eq_true rfl)) dL_law_3389 ⟨Nat.le_of_ble_eq_true rfl, Nat.le_of_ble_eq_true rfl⟩) hP hD hS hA [0, 1, 4] [2, 3] rfl rfl rfl (by decide) (fun r_1 u H locs hw_2 hP hD hS => ?_)
  have hw_2 : r_1 = 1 := hw_2
  obtain rfl := hw_2
  have hP : va_P D vwCl [(mo, .inr (11, [.ref mw, .ref ma, .ref mf, .ref m0, .ref m1, .ref mu, .ref mv, .ref u0, .ref u1, .ref iz, .int 0, .ref mb, .int 0, .int 0, .int 0, .int 0, .int 0, .int 0, .int 0])), (mw, .inl (ct 0, 958, .inl m_w0))] H := hP
  have hD : va_D A [(mo, .inr (11, [.ref mw, .ref ma, .ref mf, .ref m0, .ref m1, .ref mu, .ref mv, .ref u0, .ref u1, .ref iz, .int 0, .ref mb, .int 0, .int 0, .int 0, .int 0, .int 0, .int 0, .int 0])), (mw, .inl (ct 0, 958, .inl m_w0))] := hD
  refine W.widen (k := 158) (n := 8801) (Nat.le_of_ble_eq_true rfl) (Nat.le_of_ble_eq_true rfl) ?_
  refine lv_istore (lv' := [(6, .int 1), (0, .ref b), (1, .ref x), (2, .ref mo), (3, .ref ov), (4, .ref od), (5, .int 0)]) hx hb dL_law_3392 hl (by decide) rfl (fun ls hl => ?_)
  refine lv_aload_n hx hb dL_law_3394 rfl (lv_at hl 3 rfl) ?_
  refine lv_aload_n hx hb dL_law_3395 rfl (lv_at hl 1 rfl) ?_
  refine lv_iload hx hb dL_law_3396 (lv_at hl 6 rfl) ?_
  refine lv_iconst (v := 1) hx hb dL_law_3398 (by decide) ?_
  refine lv_iadd hx hb dL_law_3399 ?_
  refine cm_cst (y := 1) (by decide) ?_
  refine va_sld hx hb hXs hbl hbA hS (cm_vin (by decide)) dL_law_3400 ?_
  refine lv_aload_n hx hb dL_law_3401 rfl (lv_at hl 1 rfl) ?_
  refine lv_iload hx hb dL_law_3402 (lv_at hl 6 rfl) ?_
  refine lv_iconst (v := 2) hx hb dL_law_3404 (by decide) ?_
  refine lv_iadd hx hb dL_law_3405 ?_
  refine cm_cst (y := 2) (by decide) ?_
  refine va_sld hx hb hXs hbl hbA hS (cm_vin (by decide)) dL_law_3406 ?_
  refine cm_ki (wr := []) (va_runV (As := [.int (xs (1 : Int32).toNatClampNeg), .int (xs (2 : Int32).toNatClampNeg)]) (rest := []) ⟨hx, hb, hml, hown, hts⟩ (m_capacityIf_0 l D ct mo mw ma mf m0 m1 mu mv u0 u1 iz mb (xs (1 : Int32).toNatClampNeg) (xs (2 : Int32).toNatClampNeg) _) (cm_V 2 hts kc_X11_capacityIf ki_RX11 kl_RL_368 kv_X11_capacityIf kx_X11_capacityIf kd_X11_capacityIf ⟨Nat.le_of_ble_eq_true rfl, Nat.le_of_ble_eq_true rfl⟩) (cm_preV hP hK hD hS hA hX [0, 1] rfl rfl rfl (q0 := 0) (ci := 11) rfl rfl) rfl rfl hl.1 rfl (lv_room (Nat.le_of_ble_eq_true rfl)) dL_law_3407 ⟨Nat.le_of_ble_eq_true rfl, Nat.le_of_ble_eq_true rfl⟩) hP hD hS hA [0, 1] [] rfl rfl rfl (by decide) (fun r_3 u H locs hw_4 hP hD hS => ?_)
  have hP : va_P D vwCl [(mo, .inr (11, [.ref mw, .ref ma, .ref mf, .ref m0, .ref m1, .ref mu, .ref mv, .ref u0, .ref u1, .ref iz, .int 1, .ref mb, .int 0, .int 0, .int 0, .int 0, .int 0, .int 0, .int 0])), (mw, .inl (ct 0, 958, .inl m_w0))] H := hP
  have hD : va_D A [(mo, .inr (11, [.ref mw, .ref ma, .ref mf, .ref m0, .ref m1, .ref mu, .ref mv, .ref u0, .ref u1, .ref iz, .int 1, .ref mb, .int 0, .int 0, .int 0, .int 0, .int 0, .int 0, .int 0])), (mw, .inl (ct 0, 958, .inl m_w0))] := hD
  refine lv_istore (lv' := [(7, .int r_3), (6, .int 1), (0, .ref b), (1, .ref x), (2, .ref mo), (3, .ref ov), (4, .ref od), (5, .int 0)]) hx hb dL_law_3410 hl (by decide) rfl (fun ls hl => ?_)
  refine lv_aload_n hx hb dL_law_3412 rfl (lv_at hl 4 rfl) ?_
  refine cm_ki (wr := [(mw, .inl (ct 0, 958, .inl m_w0))]) (va_runV (As := []) (rest := []) ⟨hx, hb, hml, hown, hts⟩ (m_thrown l D ct mo mw ma mf m0 m1 mu mv u0 u1 iz mb 1 _) (cm_V 0 hts kc_X11_thrown ki_RX11 kl_RL_202 kv_X11_thrown kx_X11_thrown kd_X11_thrown ⟨Nat.le_of_ble_eq_true rfl, Nat.le_of_ble_eq_true rfl⟩) (cm_preV hP hK hD hS hA hX [0] rfl rfl rfl (q0 := 0) (ci := 11) rfl rfl) rfl rfl hl.1 rfl (lv_room (Nat.le_of_ble_eq_true rfl)) dL_law_3413 ⟨Nat.le_of_ble_eq_true rfl, Nat.le_of_ble_eq_true rfl⟩) hP hD hS hA [0] [1] rfl rfl rfl (by decide) (fun r_5 u H locs hw_6 hP hD hS => ?_)
  have hw_6 : r_5 = 1 := hw_6
  obtain rfl := hw_6
  have hP : va_P D vwCl [(mw, .inl (ct 0, 958, .inl m_w0)), (mo, .inr (11, [.ref mw, .ref ma, .ref mf, .ref m0, .ref m1, .ref mu, .ref mv, .ref u0, .ref u1, .ref iz, .int 1, .ref mb, .int 0, .int 0, .int 0, .int 0, .int 0, .int 0, .int 0]))] H := hP
  have hD : va_D A [(mw, .inl (ct 0, 958, .inl m_w0)), (mo, .inr (11, [.ref mw, .ref ma, .ref mf, .ref m0, .ref m1, .ref mu, .ref mv, .ref u0, .ref u1, .ref iz, .int 1, .ref mb, .int 0, .int 0, .int 0, .int 0, .int 0, .int 0, .int 0]))] := hD
  refine lv_iload hx hb dL_law_3416 (lv_at hl 1 rfl) ?_
  refine lv_icmp_eq (tgt := 3423) hx hb dL_law_3418 (by decide) (fun _ => ?_) (fun hc => absurd (by decide) hc)
  refine lv_iload hx hb dL_law_3423 (lv_at hl 1 rfl) ?_
  refine lv_if_ne (tgt := 3440) hx hb dL_law_3425 (by decide) (fun _ => ?_) (fun hc => absurd hc (by decide))
  refine lv_goto (tgt := 3623) hx hb dL_law_3440 (by decide) ?_
  exact law_end C1 hS (lv_sub hl [2, 7] rfl) (Nat.le_of_ble_eq_true rfl) (Nat.le_of_ble_eq_true rfl)
theorem dL_law_3443 : decode cL_law 3443 = .ok (.aload_n 1, 1) := by decide +kernel
theorem dL_law_3444 : decode cL_law 3444 = .ok (.aload_n 0, 1) := by decide +kernel
theorem dL_law_3445 : decode cL_law 3445 = .ok (.iload 5, 2) := by decide +kernel
theorem dL_law_3447 : decode cL_law 3447 = .ok (.iconst 1, 1) := by decide +kernel
theorem dL_law_3448 : decode cL_law 3448 = .ok (.iadd, 1) := by decide +kernel
theorem dL_law_3449 : decode cL_law 3449 = .ok (.iaload, 1) := by decide +kernel
theorem dL_law_3450 : decode cL_law 3450 = .ok (.aload_n 0, 1) := by decide +kernel
theorem dL_law_3451 : decode cL_law 3451 = .ok (.iload 5, 2) := by decide +kernel
theorem dL_law_3453 : decode cL_law 3453 = .ok (.iconst 2, 1) := by decide +kernel
theorem dL_law_3454 : decode cL_law 3454 = .ok (.iadd, 1) := by decide +kernel
theorem dL_law_3455 : decode cL_law 3455 = .ok (.iaload, 1) := by decide +kernel
theorem dL_law_3456 : decode cL_law 3456 = .ok (.aload_n 3, 1) := by decide +kernel
theorem dL_law_3457 : decode cL_law 3457 = .ok (.invokestatic 369, 3) := by decide +kernel
theorem dL_law_3460 : decode cL_law 3460 = .ok (.istore 6, 2) := by decide +kernel
theorem dL_law_3462 : decode cL_law 3462 = .ok (.aload_n 2, 1) := by decide +kernel
theorem dL_law_3463 : decode cL_law 3463 = .ok (.aload_n 0, 1) := by decide +kernel
theorem dL_law_3464 : decode cL_law 3464 = .ok (.iload 5, 2) := by decide +kernel
theorem dL_law_3466 : decode cL_law 3466 = .ok (.iconst 1, 1) := by decide +kernel
theorem dL_law_3467 : decode cL_law 3467 = .ok (.iadd, 1) := by decide +kernel
theorem dL_law_3468 : decode cL_law 3468 = .ok (.iaload, 1) := by decide +kernel
theorem dL_law_3469 : decode cL_law 3469 = .ok (.aload_n 0, 1) := by decide +kernel
theorem dL_law_3470 : decode cL_law 3470 = .ok (.iload 5, 2) := by decide +kernel
theorem dL_law_3472 : decode cL_law 3472 = .ok (.iconst 2, 1) := by decide +kernel
theorem dL_law_3473 : decode cL_law 3473 = .ok (.iadd, 1) := by decide +kernel
theorem dL_law_3474 : decode cL_law 3474 = .ok (.iaload, 1) := by decide +kernel
theorem dL_law_3475 : decode cL_law 3475 = .ok (.invokevirtual 371, 3) := by decide +kernel
theorem dL_law_3478 : decode cL_law 3478 = .ok (.istore 7, 2) := by decide +kernel
theorem dL_law_3480 : decode cL_law 3480 = .ok (.aload_n 2, 1) := by decide +kernel
theorem dL_law_3481 : decode cL_law 3481 = .ok (.invokevirtual 202, 3) := by decide +kernel
theorem dL_law_3484 : decode cL_law 3484 = .ok (.iload 6, 2) := by decide +kernel
theorem dL_law_3486 : decode cL_law 3486 = .ok (.if_icmp .eq 5, 3) := by decide +kernel
theorem dL_law_3491 : decode cL_law 3491 = .ok (.iload 6, 2) := by decide +kernel
theorem dL_law_3493 : decode cL_law 3493 = .ok (.ifCond .ne 15, 3) := by decide +kernel
theorem dL_law_3508 : decode cL_law 3508 = .ok (.goto 115, 3) := by decide +kernel
set_option maxRecDepth 100000 in
set_option maxHeartbeats 4000000 in
theorem law_57 {p : Program} {l : Launch} {e : Env} {s : State} {m : MethodId} {below : List Frame} {meth : Method} {c : Code} {D : va_G} {ct : Nat → ClassId} {A : Nat → Prop} {b : Nat} {xs : Nat → Int32} {H : Heap} {locs : List Loc} {ls : Array Slot} (hfl : l.stackTraces = false) (C1 : cmL p s m meth c D ct A b 4 xs) (x : Nat) (w : Nat) (sp : Nat) (sv : Nat) (bu : Nat) (w_se : Nat) (w_cu : Nat) (w_pr : Nat) (w_ch : Nat) (w_re : Nat) (w_lo : Nat) (mo : Nat) (mw : Nat) (ma : Nat) (mf : Nat) (m0 : Nat) (m1 : Nat) (mu : Nat) (mv : Nat) (u0 : Nat) (u1 : Nat) (iz : Nat) (mb : Nat) (ov : Nat) (od : Nat) (hP : va_P D vwCl [(x, .inr (10, [.ref w, .ref sp, .ref sv, .ref bu, .int 0, .int 0])), (w, .inr (9, [.int 0, .ref w_se, .ref w_cu, .ref w_pr, .int 0, .ref w_ch, .ref w_re, .ref w_lo])), (mo, .inr (11, [.ref mw, .ref ma, .ref mf, .ref m0, .ref m1, .ref mu, .ref mv, .ref u0, .ref u1, .ref iz, .int 0, .ref mb, .int 0, .int 0, .int 0, .int 0, .int 0, .int 0, .int 0])), (mw, .inl (ct 0, 958, .inl m_w0)), (ov, .inl (ct 1, 1, .inr (.inl (fun _ => 0))))] H) (hD : va_D A [(x, .inr (10, [.ref w, .ref sp, .ref sv, .ref bu, .int 0, .int 0])), (w, .inr (9, [.int 0, .ref w_se, .ref w_cu, .ref w_pr, .int 0, .ref w_ch, .ref w_re, .ref w_lo])), (mo, .inr (11, [.ref mw, .ref ma, .ref mf, .ref m0, .ref m1, .ref mu, .ref mv, .ref u0, .ref u1, .ref iz, .int 0, .ref mb, .int 0, .int 0, .int 0, .int 0, .int 0, .int 0, .int 0])), (mw, .inl (ct 0, 958, .inl m_w0)), (ov, .inl (ct 1, 1, .inr (.inl (fun _ => 0))))]) (hS : va_S A s.heap H locs) (hl : lv_has ls 9 [(0, .ref b), (1, .ref x), (2, .ref mo), (3, .ref ov), (4, .ref od), (5, .int 0)]) : W p l e room_1 s m #[Value.ref b] below meth c H locs 157 8795 (lw_Z below #[Value.ref b] s) (F0 m 3443 ls []) := by
  obtain ⟨hx, hb, hr, hml, hown, hts, hK, hX, hXs, hbl, hbA, hA, hAr, hlocks⟩ := id C1
  refine lv_aload_n hx hb dL_law_3443 rfl (lv_at hl 1 rfl) ?_
  refine lv_aload_n hx hb dL_law_3444 rfl (lv_at hl 0 rfl) ?_
  refine lv_iload hx hb dL_law_3445 (lv_at hl 5 rfl) ?_
  refine lv_iconst (v := 1) hx hb dL_law_3447 (by decide) ?_
  refine lv_iadd hx hb dL_law_3448 ?_
  refine cm_cst (y := 1) (by decide) ?_
  refine va_sld hx hb hXs hbl hbA hS (cm_vin (by decide)) dL_law_3449 ?_
  refine lv_aload_n hx hb dL_law_3450 rfl (lv_at hl 0 rfl) ?_
  refine lv_iload hx hb dL_law_3451 (lv_at hl 5 rfl) ?_
  refine lv_iconst (v := 2) hx hb dL_law_3453 (by decide) ?_
  refine lv_iadd hx hb dL_law_3454 ?_
  refine cm_cst (y := 2) (by decide) ?_
  refine va_sld hx hb hXs hbl hbA hS (cm_vin (by decide)) dL_law_3455 ?_
  refine lv_aload_n hx hb dL_law_3456 rfl (lv_at hl 3 rfl) ?_
  refine cm_ki (wr := [(mo, .inr (11, [.ref mw, .ref ma, .ref mf, .ref m0, .ref m1, .ref mu, .ref mv, .ref u0, .ref u1, .ref iz, .int 0, .ref mb, .int 0, .int 0, .int 0, .int 0, .int 0, .int 0, .int 0])), (mw, .inl (ct 0, 958, .inl m_w0))]) (vx_runSW (As := [.ref x, .int (xs (1 : Int32).toNatClampNeg), .int (xs (2 : Int32).toNatClampNeg), .ref ov]) (rest := []) ⟨hx, hb, hml, hown, hts⟩ (l_safeCurrent l hfl D ct x w sp sv bu w_se w_cu w_pr w_ch w_re w_lo ov (fun _ => 0) (xs (1 : Int32).toNatClampNeg) (xs (2 : Int32).toNatClampNeg) _) (cm_SW 4 hts kw_L_safeCurrent ki_RL kl_RL_369 ks_L_safeCurrent kd_L_safeCurrent ⟨Nat.le_of_ble_eq_true rfl, Nat.le_of_ble_eq_true rfl⟩) (cm_preS hP hK hD hS hA hX [0, 1, 4] rfl rfl rfl) rfl rfl hl.1 rfl (lv_room (Nat.le_of_ble_eq_true rfl)) dL_law_3457 ⟨Nat.le_of_ble_eq_true rfl, Nat.le_of_ble_eq_true rfl⟩) hP hD hS hA [0, 1, 4] [2, 3] rfl rfl rfl (by decide) (fun r_1 u H locs hw_2 hP hD hS => ?_)
  have hw_2 : r_1 = 1 := hw_2
  obtain rfl := hw_2
  have hP : va_P D vwCl [(mo, .inr (11, [.ref mw, .ref ma, .ref mf, .ref m0, .ref m1, .ref mu, .ref mv, .ref u0, .ref u1, .ref iz, .int 0, .ref mb, .int 0, .int 0, .int 0, .int 0, .int 0, .int 0, .int 0])), (mw, .inl (ct 0, 958, .inl m_w0))] H := hP
  have hD : va_D A [(mo, .inr (11, [.ref mw, .ref ma, .ref mf, .ref m0, .ref m1, .ref mu, .ref mv, .ref u0, .ref u1, .ref iz, .int 0, .ref mb, .int 0, .int 0, .int 0, .int 0, .int 0, .int 0, .int 0])), (mw, .inl (ct 0, 958, .inl m_w0))] := hD
  refine W.widen (k := 158) (n := 8801) (Nat.le_of_ble_eq_true rfl) (Nat.le_of_ble_eq_true rfl) ?_
  refine lv_istore (lv' := [(6, .int 1), (0, .ref b), (1, .ref x), (2, .ref mo), (3, .ref ov), (4, .ref od), (5, .int 0)]) hx hb dL_law_3460 hl (by decide) rfl (fun ls hl => ?_)
  refine lv_aload_n hx hb dL_law_3462 rfl (lv_at hl 3 rfl) ?_
  refine lv_aload_n hx hb dL_law_3463 rfl (lv_at hl 1 rfl) ?_
  refine lv_iload hx hb dL_law_3464 (lv_at hl 6 rfl) ?_
  refine lv_iconst (v := 1) hx hb dL_law_3466 (by decide) ?_
  refine lv_iadd hx hb dL_law_3467 ?_
  refine cm_cst (y := 1) (by decide) ?_
  refine va_sld hx hb hXs hbl hbA hS (cm_vin (by decide)) dL_law_3468 ?_
  refine lv_aload_n hx hb dL_law_3469 rfl (lv_at hl 1 rfl) ?_
  refine lv_iload hx hb dL_law_3470 (lv_at hl 6 rfl) ?_
  refine lv_iconst (v := 2) hx hb dL_law_3472 (by decide) ?_
  refine lv_iadd hx hb dL_law_3473 ?_
  refine cm_cst (y := 2) (by decide) ?_
  refine va_sld hx hb hXs hbl hbA hS (cm_vin (by decide)) dL_law_3474 ?_
  refine cm_ki (wr := []) (va_runV (As := [.int (xs (1 : Int32).toNatClampNeg), .int (xs (2 : Int32).toNatClampNeg)]) (rest := []) ⟨hx, hb, hml, hown, hts⟩ (m_safeCurrent_0 l D ct mo mw ma mf m0 m1 mu mv u0 u1 iz mb (xs (1 : Int32).toNatClampNeg) (xs (2 : Int32).toNatClampNeg) _) (cm_V 2 hts kc_X11_safeCurrent ki_RX11 kl_RL_371 kv_X11_safeCurrent kx_X11_safeCurrent kd_X11_safeCurrent ⟨Nat.le_of_ble_eq_true rfl, Nat.le_of_ble_eq_true rfl⟩) (cm_preV hP hK hD hS hA hX [0, 1] rfl rfl rfl (q0 := 0) (ci := 11) rfl rfl) rfl rfl hl.1 rfl (lv_room (Nat.le_of_ble_eq_true rfl)) dL_law_3475 ⟨Nat.le_of_ble_eq_true rfl, Nat.le_of_ble_eq_true rfl⟩) hP hD hS hA [0, 1] [] rfl rfl rfl (by decide) (fun r_3 u H locs hw_4 hP hD hS => ?_)
  have hP : va_P D vwCl [(mo, .inr (11, [.ref mw, .ref ma, .ref mf, .ref m0, .ref m1, .ref mu, .ref mv, .ref u0, .ref u1, .ref iz, .int 1, .ref mb, .int 0, .int 0, .int 0, .int 0, .int 0, .int 0, .int 0])), (mw, .inl (ct 0, 958, .inl m_w0))] H := hP
  have hD : va_D A [(mo, .inr (11, [.ref mw, .ref ma, .ref mf, .ref m0, .ref m1, .ref mu, .ref mv, .ref u0, .ref u1, .ref iz, .int 1, .ref mb, .int 0, .int 0, .int 0, .int 0, .int 0, .int 0, .int 0])), (mw, .inl (ct 0, 958, .inl m_w0))] := hD
  refine lv_istore (lv' := [(7, .int r_3), (6, .int 1), (0, .ref b), (1, .ref x), (2, .ref mo), (3, .ref ov), (4, .ref od), (5, .int 0)]) hx hb dL_law_3478 hl (by decide) rfl (fun ls hl => ?_)
  refine lv_aload_n hx hb dL_law_3480 rfl (lv_at hl 4 rfl) ?_
  refine cm_ki (wr := [(mw, .inl (ct 0, 958, .inl m_w0))]) (va_runV (As := []) (rest := []) ⟨hx, hb, hml, hown, hts⟩ (m_thrown l D ct mo mw ma mf m0 m1 mu mv u0 u1 iz mb 1 _) (cm_V 0 hts kc_X11_thrown ki_RX11 kl_RL_202 kv_X11_thrown kx_X11_thrown kd_X11_thrown ⟨Nat.le_of_ble_eq_true rfl, Nat.le_of_ble_eq_true rfl⟩) (cm_preV hP hK hD hS hA hX [0] rfl rfl rfl (q0 := 0) (ci := 11) rfl rfl) rfl rfl hl.1 rfl (lv_room (Nat.le_of_ble_eq_true rfl)) dL_law_3481 ⟨Nat.le_of_ble_eq_true rfl, Nat.le_of_ble_eq_true rfl⟩) hP hD hS hA [0] [1] rfl rfl rfl (by decide) (fun r_5 u H locs hw_6 hP hD hS => ?_)
  have hw_6 : r_5 = 1 := hw_6
  obtain rfl := hw_6
  have hP : va_P D vwCl [(mw, .inl (ct 0, 958, .inl m_w0)), (mo, .inr (11, [.ref mw, .ref ma, .ref mf, .ref m0, .ref m1, .ref mu, .ref mv, .ref u0, .ref u1, .ref iz, .int 1, .ref mb, .int 0, .int 0, .int 0, .int 0, .int 0, .int 0, .int 0]))] H := hP
  have hD : va_D A [(mw, .inl (ct 0, 958, .inl m_w0)), (mo, .inr (11, [.ref mw, .ref ma, .ref mf, .ref m0, .ref m1, .ref mu, .ref mv, .ref u0, .ref u1, .ref iz, .int 1, .ref mb, .int 0, .int 0, .int 0, .int 0, .int 0, .int 0, .int 0]))] := hD
  refine lv_iload hx hb dL_law_3484 (lv_at hl 1 rfl) ?_
  refine lv_icmp_eq (tgt := 3491) hx hb dL_law_3486 (by decide) (fun _ => ?_) (fun hc => absurd (by decide) hc)
  refine lv_iload hx hb dL_law_3491 (lv_at hl 1 rfl) ?_
  refine lv_if_ne (tgt := 3508) hx hb dL_law_3493 (by decide) (fun _ => ?_) (fun hc => absurd hc (by decide))
  refine lv_goto (tgt := 3623) hx hb dL_law_3508 (by decide) ?_
  exact law_end C1 hS (lv_sub hl [2, 7] rfl) (Nat.le_of_ble_eq_true rfl) (Nat.le_of_ble_eq_true rfl)
theorem dL_law_3511 : decode cL_law 3511 = .ok (.aload_n 1, 1) := by decide +kernel
theorem dL_law_3512 : decode cL_law 3512 = .ok (.aload_n 0, 1) := by decide +kernel
theorem dL_law_3513 : decode cL_law 3513 = .ok (.iload 5, 2) := by decide +kernel
theorem dL_law_3515 : decode cL_law 3515 = .ok (.iconst 1, 1) := by decide +kernel
theorem dL_law_3516 : decode cL_law 3516 = .ok (.iadd, 1) := by decide +kernel
theorem dL_law_3517 : decode cL_law 3517 = .ok (.iaload, 1) := by decide +kernel
theorem dL_law_3518 : decode cL_law 3518 = .ok (.aload_n 3, 1) := by decide +kernel
theorem dL_law_3519 : decode cL_law 3519 = .ok (.invokestatic 372, 3) := by decide +kernel
theorem dL_law_3522 : decode cL_law 3522 = .ok (.istore 6, 2) := by decide +kernel
theorem dL_law_3524 : decode cL_law 3524 = .ok (.aload_n 2, 1) := by decide +kernel
theorem dL_law_3525 : decode cL_law 3525 = .ok (.aload_n 0, 1) := by decide +kernel
theorem dL_law_3526 : decode cL_law 3526 = .ok (.iload 5, 2) := by decide +kernel
theorem dL_law_3528 : decode cL_law 3528 = .ok (.iconst 1, 1) := by decide +kernel
theorem dL_law_3529 : decode cL_law 3529 = .ok (.iadd, 1) := by decide +kernel
theorem dL_law_3530 : decode cL_law 3530 = .ok (.iaload, 1) := by decide +kernel
theorem dL_law_3531 : decode cL_law 3531 = .ok (.invokevirtual 374, 3) := by decide +kernel
theorem dL_law_3534 : decode cL_law 3534 = .ok (.istore 7, 2) := by decide +kernel
theorem dL_law_3536 : decode cL_law 3536 = .ok (.aload_n 2, 1) := by decide +kernel
theorem dL_law_3537 : decode cL_law 3537 = .ok (.invokevirtual 202, 3) := by decide +kernel
theorem dL_law_3540 : decode cL_law 3540 = .ok (.iload 6, 2) := by decide +kernel
theorem dL_law_3542 : decode cL_law 3542 = .ok (.if_icmp .eq 5, 3) := by decide +kernel
theorem dL_law_3547 : decode cL_law 3547 = .ok (.iload 6, 2) := by decide +kernel
theorem dL_law_3549 : decode cL_law 3549 = .ok (.ifCond .ne 15, 3) := by decide +kernel
theorem dL_law_3552 : decode cL_law 3552 = .ok (.aload_n 3, 1) := by decide +kernel
theorem dL_law_3553 : decode cL_law 3553 = .ok (.iconst 0, 1) := by decide +kernel
theorem dL_law_3554 : decode cL_law 3554 = .ok (.laload, 1) := by decide +kernel
theorem dL_law_3555 : decode cL_law 3555 = .ok (.iload 7, 2) := by decide +kernel
theorem dL_law_3557 : decode cL_law 3557 = .ok (.i2l, 1) := by decide +kernel
theorem dL_law_3558 : decode cL_law 3558 = .ok (.lcmp, 1) := by decide +kernel
theorem dL_law_3559 : decode cL_law 3559 = .ok (.ifCond .eq 5, 3) := by decide +kernel
theorem dL_law_3564 : decode cL_law 3564 = .ok (.goto 59, 3) := by decide +kernel
set_option maxRecDepth 100000 in
set_option maxHeartbeats 4000000 in
theorem law_58 {p : Program} {l : Launch} {e : Env} {s : State} {m : MethodId} {below : List Frame} {meth : Method} {c : Code} {D : va_G} {ct : Nat → ClassId} {A : Nat → Prop} {b : Nat} {xs : Nat → Int32} {H : Heap} {locs : List Loc} {ls : Array Slot} (hfl : l.stackTraces = false) (C1 : cmL p s m meth c D ct A b 4 xs) (x : Nat) (w : Nat) (sp : Nat) (sv : Nat) (bu : Nat) (w_se : Nat) (w_cu : Nat) (w_pr : Nat) (w_ch : Nat) (w_re : Nat) (w_lo : Nat) (w_c1 : Nat) (w_c2 : Nat) (w_c3 : Nat) (w_p1 : Nat) (w_p2 : Nat) (w_p3 : Nat) (w_p4 : Nat) (w_ra : Nat) (w_la : Nat) (mo : Nat) (mw : Nat) (ma : Nat) (mf : Nat) (m0 : Nat) (m1 : Nat) (mu : Nat) (mv : Nat) (u0 : Nat) (u1 : Nat) (iz : Nat) (mb : Nat) (ov : Nat) (od : Nat) (hP : va_P D vwCl [(x, .inr (10, [.ref w, .ref sp, .ref sv, .ref bu, .int 0, .int 0])), (w, .inr (9, [.int 0, .ref w_se, .ref w_cu, .ref w_pr, .int 0, .ref w_ch, .ref w_re, .ref w_lo])), (w_se, .inr (7, [.int 990, .int 100000, .int 100, .int 5, .int 0, .int 5000, .int 600, .int 250, .int 0, .int 5000, .int 1000, .int 0])), (w_cu, .inr (2, [.int 0, .ref w_c1, .ref w_c2, .ref w_c3])), (w_c1, .inl (ct 1, 4, .inr (.inl (fun _ => 0)))), (w_c2, .inl (ct 0, 4, .inl (fun _ => 0))), (w_c3, .inl (ct 0, 44, .inl (fun _ => 0))), (w_pr, .inr (5, [.int 0, .ref w_p1, .ref w_p2, .ref w_p3, .ref w_p4])), (w_p1, .inl (ct 0, 4, .inl (fun _ => 0))), (w_p2, .inl (ct 0, 48, .inl (fun _ => 0))), (w_p3, .inl (ct 0, 48, .inl (fun _ => 0))), (w_p4, .inl (ct 0, 48, .inl (fun _ => 0))), (w_re, .inr (8, [.int 30, .int 5, .ref w_ra, .int 0, .int 0])), (w_ra, .inl (ct 0, 150, .inl (fun _ => 0))), (w_lo, .inr (8, [.int 60, .int 4, .ref w_la, .int 0, .int 0])), (w_la, .inl (ct 0, 240, .inl (fun _ => 0))), (sv, .inl (ct 4, 2, .inr (.inr (.inr (.inr (fun _ => none)))))), (mo, .inr (11, [.ref mw, .ref ma, .ref mf, .ref m0, .ref m1, .ref mu, .ref mv, .ref u0, .ref u1, .ref iz, .int 0, .ref mb, .int 0, .int 0, .int 0, .int 0, .int 0, .int 0, .int 0])), (mw, .inl (ct 0, 958, .inl m_w0)), (m0, .inl (ct 0, 958, .inl (fun _ => 0))), (m1, .inl (ct 0, 958, .inl (fun _ => 0))), (mu, .inl (ct 1, 42, .inr (.inl (fun _ => 0)))), (u0, .inl (ct 1, 42, .inr (.inl (fun _ => 0)))), (u1, .inl (ct 1, 42, .inr (.inl (fun _ => 0)))), (iz, .inl (ct 2, 2, .inl (fun _ => 0))), (ov, .inl (ct 1, 1, .inr (.inl (fun _ => 0))))] H) (hD : va_D A [(x, .inr (10, [.ref w, .ref sp, .ref sv, .ref bu, .int 0, .int 0])), (w, .inr (9, [.int 0, .ref w_se, .ref w_cu, .ref w_pr, .int 0, .ref w_ch, .ref w_re, .ref w_lo])), (w_se, .inr (7, [.int 990, .int 100000, .int 100, .int 5, .int 0, .int 5000, .int 600, .int 250, .int 0, .int 5000, .int 1000, .int 0])), (w_cu, .inr (2, [.int 0, .ref w_c1, .ref w_c2, .ref w_c3])), (w_c1, .inl (ct 1, 4, .inr (.inl (fun _ => 0)))), (w_c2, .inl (ct 0, 4, .inl (fun _ => 0))), (w_c3, .inl (ct 0, 44, .inl (fun _ => 0))), (w_pr, .inr (5, [.int 0, .ref w_p1, .ref w_p2, .ref w_p3, .ref w_p4])), (w_p1, .inl (ct 0, 4, .inl (fun _ => 0))), (w_p2, .inl (ct 0, 48, .inl (fun _ => 0))), (w_p3, .inl (ct 0, 48, .inl (fun _ => 0))), (w_p4, .inl (ct 0, 48, .inl (fun _ => 0))), (w_re, .inr (8, [.int 30, .int 5, .ref w_ra, .int 0, .int 0])), (w_ra, .inl (ct 0, 150, .inl (fun _ => 0))), (w_lo, .inr (8, [.int 60, .int 4, .ref w_la, .int 0, .int 0])), (w_la, .inl (ct 0, 240, .inl (fun _ => 0))), (sv, .inl (ct 4, 2, .inr (.inr (.inr (.inr (fun _ => none)))))), (mo, .inr (11, [.ref mw, .ref ma, .ref mf, .ref m0, .ref m1, .ref mu, .ref mv, .ref u0, .ref u1, .ref iz, .int 0, .ref mb, .int 0, .int 0, .int 0, .int 0, .int 0, .int 0, .int 0])), (mw, .inl (ct 0, 958, .inl m_w0)), (m0, .inl (ct 0, 958, .inl (fun _ => 0))), (m1, .inl (ct 0, 958, .inl (fun _ => 0))), (mu, .inl (ct 1, 42, .inr (.inl (fun _ => 0)))), (u0, .inl (ct 1, 42, .inr (.inl (fun _ => 0)))), (u1, .inl (ct 1, 42, .inr (.inl (fun _ => 0)))), (iz, .inl (ct 2, 2, .inl (fun _ => 0))), (ov, .inl (ct 1, 1, .inr (.inl (fun _ => 0))))]) (hS : va_S A s.heap H locs) (hl : lv_has ls 9 [(0, .ref b), (1, .ref x), (2, .ref mo), (3, .ref ov), (4, .ref od), (5, .int 0)]) : W p l e room_1 s m #[Value.ref b] below meth c H locs 157 8795 (lw_Z below #[Value.ref b] s) (F0 m 3511 ls []) := by
  obtain ⟨hx, hb, hr, hml, hown, hts, hK, hX, hXs, hbl, hbA, hA, hAr, hlocks⟩ := id C1
  refine lv_aload_n hx hb dL_law_3511 rfl (lv_at hl 1 rfl) ?_
  refine lv_aload_n hx hb dL_law_3512 rfl (lv_at hl 0 rfl) ?_
  refine lv_iload hx hb dL_law_3513 (lv_at hl 5 rfl) ?_
  refine lv_iconst (v := 1) hx hb dL_law_3515 (by decide) ?_
  refine lv_iadd hx hb dL_law_3516 ?_
  refine cm_cst (y := 1) (by decide) ?_
  refine va_sld hx hb hXs hbl hbA hS (cm_vin (by decide)) dL_law_3517 ?_
  refine lv_aload_n hx hb dL_law_3518 rfl (lv_at hl 3 rfl) ?_
  refine cm_ki (wr := [(mo, .inr (11, [.ref mw, .ref ma, .ref mf, .ref m0, .ref m1, .ref mu, .ref mv, .ref u0, .ref u1, .ref iz, .int 0, .ref mb, .int 0, .int 0, .int 0, .int 0, .int 0, .int 0, .int 0])), (mw, .inl (ct 0, 958, .inl m_w0)), (m0, .inl (ct 0, 958, .inl (fun _ => 0))), (m1, .inl (ct 0, 958, .inl (fun _ => 0))), (mu, .inl (ct 1, 42, .inr (.inl (fun _ => 0)))), (u0, .inl (ct 1, 42, .inr (.inl (fun _ => 0)))), (u1, .inl (ct 1, 42, .inr (.inl (fun _ => 0)))), (iz, .inl (ct 2, 2, .inl (fun _ => 0)))]) (vx_runSW (As := [.ref x, .int (xs (1 : Int32).toNatClampNeg), .ref ov]) (rest := []) ⟨hx, hb, hml, hown, hts⟩ (l_saveSnapshot l hfl D ct x w sp sv bu w_se w_cu w_pr w_ch w_re w_lo w_c1 w_c2 w_c3 w_p1 w_p2 w_p3 w_p4 w_ra w_la ov (fun _ => 0) (xs (1 : Int32).toNatClampNeg) _) (cm_SW 3 hts kw_L_saveSnapshot ki_RL kl_RL_372 ks_L_saveSnapshot kd_L_saveSnapshot ⟨Nat.le_of_ble_eq_true rfl, Nat.le_of_ble_eq_true rfl⟩) (cm_preS hP hK hD hS hA hX [0, 16, 1, 2, 3, 4, 5, 6, 7, 8, 9, 10, 11, 12, 13, 14, 15, 25] rfl rfl rfl) rfl rfl hl.1 rfl (lv_room (Nat.le_of_ble_eq_true rfl)) dL_law_3519 ⟨Nat.le_of_ble_eq_true rfl, Nat.le_of_ble_eq_true rfl⟩) hP hD hS hA [0, 16, 1, 2, 3, 4, 5, 6, 7, 8, 9, 10, 11, 12, 13, 14, 15, 25] [17, 18, 19, 20, 21, 22, 23, 24] rfl rfl rfl (by decide) (fun r_1 u H locs hw_2 hP hD hS => ?_)
  obtain ⟨g_3, rfl⟩ : ∃ z, z = u := ⟨_, rfl⟩
  have hw_2 : (r_1 = 0 ∧ (0 ≤ (xs (1 : Int32).toNatClampNeg) ∧ (xs (1 : Int32).toNatClampNeg) ≤ 1) ∧ g_3 (0 : Int32).toNatClampNeg = 0) ∨ (r_1 = 1 ∧ ((xs (1 : Int32).toNatClampNeg) < 0 ∨ 1 < (xs (1 : Int32).toNatClampNeg))) := hw_2
  have hP : va_P D vwCl [(mo, .inr (11, [.ref mw, .ref ma, .ref mf, .ref m0, .ref m1, .ref mu, .ref mv, .ref u0, .ref u1, .ref iz, .int 0, .ref mb, .int 0, .int 0, .int 0, .int 0, .int 0, .int 0, .int 0])), (mw, .inl (ct 0, 958, .inl m_w0)), (m0, .inl (ct 0, 958, .inl (fun _ => 0))), (m1, .inl (ct 0, 958, .inl (fun _ => 0))), (mu, .inl (ct 1, 42, .inr (.inl (fun _ => 0)))), (u0, .inl (ct 1, 42, .inr (.inl (fun _ => 0)))), (u1, .inl (ct 1, 42, .inr (.inl (fun _ => 0)))), (iz, .inl (ct 2, 2, .inl (fun _ => 0))), (ov, .inl (ct 1, 1, .inr (.inl g_3)))] H := hP
  have hD : va_D A [(mo, .inr (11, [.ref mw, .ref ma, .ref mf, .ref m0, .ref m1, .ref mu, .ref mv, .ref u0, .ref u1, .ref iz, .int 0, .ref mb, .int 0, .int 0, .int 0, .int 0, .int 0, .int 0, .int 0])), (mw, .inl (ct 0, 958, .inl m_w0)), (m0, .inl (ct 0, 958, .inl (fun _ => 0))), (m1, .inl (ct 0, 958, .inl (fun _ => 0))), (mu, .inl (ct 1, 42, .inr (.inl (fun _ => 0)))), (u0, .inl (ct 1, 42, .inr (.inl (fun _ => 0)))), (u1, .inl (ct 1, 42, .inr (.inl (fun _ => 0)))), (iz, .inl (ct 2, 2, .inl (fun _ => 0))), (ov, .inl (ct 1, 1, .inr (.inl g_3)))] := hD
  refine W.widen (k := 228) (n := 9904) (Nat.le_of_ble_eq_true rfl) (Nat.le_of_ble_eq_true rfl) ?_
  refine lv_istore (lv' := [(6, .int r_1), (0, .ref b), (1, .ref x), (2, .ref mo), (3, .ref ov), (4, .ref od), (5, .int 0)]) hx hb dL_law_3522 hl (by decide) rfl (fun ls hl => ?_)
  refine lv_aload_n hx hb dL_law_3524 rfl (lv_at hl 3 rfl) ?_
  refine lv_aload_n hx hb dL_law_3525 rfl (lv_at hl 1 rfl) ?_
  refine lv_iload hx hb dL_law_3526 (lv_at hl 6 rfl) ?_
  refine lv_iconst (v := 1) hx hb dL_law_3528 (by decide) ?_
  refine lv_iadd hx hb dL_law_3529 ?_
  refine cm_cst (y := 1) (by decide) ?_
  refine va_sld hx hb hXs hbl hbA hS (cm_vin (by decide)) dL_law_3530 ?_
  refine cm_ki (wr := [(ov, .inl (ct 1, 1, .inr (.inl g_3)))]) (va_runV (As := [.int (xs (1 : Int32).toNatClampNeg)]) (rest := []) ⟨hx, hb, hml, hown, hts⟩ (m_saveSnapshot_0 l D ct mo mw ma mf m0 m1 mu mv u0 u1 iz mb (xs (1 : Int32).toNatClampNeg) _) (cm_V 1 hts kc_X11_saveSnapshot ki_RX11 kl_RL_374 kv_X11_saveSnapshot kx_X11_saveSnapshot kd_X11_saveSnapshot ⟨Nat.le_of_ble_eq_true rfl, Nat.le_of_ble_eq_true rfl⟩) (cm_preV hP hK hD hS hA hX [0, 1, 2, 3, 4, 5, 6, 7] rfl rfl rfl (q0 := 0) (ci := 11) rfl rfl) rfl rfl hl.1 rfl (lv_room (Nat.le_of_ble_eq_true rfl)) dL_law_3531 ⟨Nat.le_of_ble_eq_true rfl, Nat.le_of_ble_eq_true rfl⟩) hP hD hS hA [0, 1, 2, 3, 4, 5, 6, 7] [8] rfl rfl rfl (by decide) (fun r_4 u H locs hw_5 hP hD hS => ?_)
  obtain ⟨th_6, rfl⟩ : ∃ z, z = u := ⟨_, rfl⟩
  have hw_5 : (th_6 = 0 ∧ (0 ≤ (xs (1 : Int32).toNatClampNeg) ∧ (xs (1 : Int32).toNatClampNeg) ≤ 1) ∧ r_4 = 0) ∨ (th_6 = 1 ∧ ((xs (1 : Int32).toNatClampNeg) < 0 ∨ 1 < (xs (1 : Int32).toNatClampNeg))) := hw_5
  have hP : va_P D vwCl [(ov, .inl (ct 1, 1, .inr (.inl g_3))), (mo, .inr (11, [.ref mw, .ref ma, .ref mf, .ref m0, .ref m1, .ref mu, .ref mv, .ref u0, .ref u1, .ref iz, .int th_6, .ref mb, .int 0, .int 0, .int 0, .int 0, .int 0, .int 0, .int 0]))] H := hP
  have hD : va_D A [(ov, .inl (ct 1, 1, .inr (.inl g_3))), (mo, .inr (11, [.ref mw, .ref ma, .ref mf, .ref m0, .ref m1, .ref mu, .ref mv, .ref u0, .ref u1, .ref iz, .int th_6, .ref mb, .int 0, .int 0, .int 0, .int 0, .int 0, .int 0, .int 0]))] := hD
  refine lv_istore (lv' := [(7, .int r_4), (6, .int r_1), (0, .ref b), (1, .ref x), (2, .ref mo), (3, .ref ov), (4, .ref od), (5, .int 0)]) hx hb dL_law_3534 hl (by decide) rfl (fun ls hl => ?_)
  rcases hw_2 with ⟨rfl, hq1, hg⟩ | ⟨rfl, hq1⟩
  · rcases hw_5 with ⟨rfl, hq2, rfl⟩ | ⟨rfl, hq2⟩
    · refine lv_aload_n hx hb dL_law_3536 rfl (lv_at hl 4 rfl) ?_
      refine cm_ki (wr := [(ov, .inl (ct 1, 1, .inr (.inl g_3)))]) (va_runV (As := []) (rest := []) ⟨hx, hb, hml, hown, hts⟩ (m_thrown l D ct mo mw ma mf m0 m1 mu mv u0 u1 iz mb 0 _) (cm_V 0 hts kc_X11_thrown ki_RX11 kl_RL_202 kv_X11_thrown kx_X11_thrown kd_X11_thrown ⟨Nat.le_of_ble_eq_true rfl, Nat.le_of_ble_eq_true rfl⟩) (cm_preV hP hK hD hS hA hX [1] rfl rfl rfl (q0 := 1) (ci := 11) rfl rfl) rfl rfl hl.1 rfl (lv_room (Nat.le_of_ble_eq_true rfl)) dL_law_3537 ⟨Nat.le_of_ble_eq_true rfl, Nat.le_of_ble_eq_true rfl⟩) hP hD hS hA [1] [0] rfl rfl rfl (by decide) (fun r_7 u H locs hw_8 hP hD hS => ?_)
      have hw_8 : r_7 = 0 := hw_8
      obtain rfl := hw_8
      have hP : va_P D vwCl [(ov, .inl (ct 1, 1, .inr (.inl g_3))), (mo, .inr (11, [.ref mw, .ref ma, .ref mf, .ref m0, .ref m1, .ref mu, .ref mv, .ref u0, .ref u1, .ref iz, .int 0, .ref mb, .int 0, .int 0, .int 0, .int 0, .int 0, .int 0, .int 0]))] H := hP
      have hD : va_D A [(ov, .inl (ct 1, 1, .inr (.inl g_3))), (mo, .inr (11, [.ref mw, .ref ma, .ref mf, .ref m0, .ref m1, .ref mu, .ref mv, .ref u0, .ref u1, .ref iz, .int 0, .ref mb, .int 0, .int 0, .int 0, .int 0, .int 0, .int 0, .int 0]))] := hD
      refine lv_iload hx hb dL_law_3540 (lv_at hl 1 rfl) ?_
      refine lv_icmp_eq (tgt := 3547) hx hb dL_law_3542 (by decide) (fun _ => ?_) (fun hc => absurd (by decide) hc)
      refine lv_iload hx hb dL_law_3547 (lv_at hl 1 rfl) ?_
      refine lv_if_ne (tgt := 3564) hx hb dL_law_3549 (by decide) (fun hc => absurd (by decide) hc) (fun _ => ?_)
      refine lv_aload_n hx hb dL_law_3552 rfl (lv_at hl 5 rfl) ?_
      refine lv_iconst (v := 0) hx hb dL_law_3553 (by decide) ?_
      refine va_lald hx hb hK hP 0 1 rfl rfl (cm_vin (by decide)) dL_law_3554 ?_
      refine cm_cstl (y := 0) hg ?_
      refine lv_iload hx hb dL_law_3555 (lv_at hl 0 rfl) ?_
      refine lv_i2l (v := 0) hx hb dL_law_3557 (by decide) ?_
      refine W.lcmp hx hb dL_law_3558 ?_
      refine cm_cst (y := 0) (by decide) ?_
      refine lv_if_eq (tgt := 3564) hx hb dL_law_3559 (by decide) (fun _ => ?_) (fun hc => absurd (by decide) hc)
      refine lv_goto (tgt := 3623) hx hb dL_law_3564 (by decide) ?_
      exact law_end C1 hS (lv_sub hl [2, 7] rfl) (Nat.le_of_ble_eq_true rfl) (Nat.le_of_ble_eq_true rfl)
    · exact (cm_no hq1 hq2).elim
  · rcases hw_5 with ⟨rfl, hq2, rfl⟩ | ⟨rfl, hq2⟩
    · exact (cm_no hq2 hq1).elim
    · refine lv_aload_n hx hb dL_law_3536 rfl (lv_at hl 4 rfl) ?_
      refine cm_ki (wr := [(ov, .inl (ct 1, 1, .inr (.inl g_3)))]) (va_runV (As := []) (rest := []) ⟨hx, hb, hml, hown, hts⟩ (m_thrown l D ct mo mw ma mf m0 m1 mu mv u0 u1 iz mb 1 _) (cm_V 0 hts kc_X11_thrown ki_RX11 kl_RL_202 kv_X11_thrown kx_X11_thrown kd_X11_thrown ⟨Nat.le_of_ble_eq_true rfl, Nat.le_of_ble_eq_true rfl⟩) (cm_preV hP hK hD hS hA hX [1] rfl rfl rfl (q0 := 1) (ci := 11) rfl rfl) rfl rfl hl.1 rfl (lv_room (Nat.le_of_ble_eq_true rfl)) dL_law_3537 ⟨Nat.le_of_ble_eq_true rfl, Nat.le_of_ble_eq_true rfl⟩) hP hD hS hA [1] [0] rfl rfl rfl (by decide) (fun r_9 u H locs hw_10 hP hD hS => ?_)
      have hw_10 : r_9 = 1 := hw_10
      obtain rfl := hw_10
      have hP : va_P D vwCl [(ov, .inl (ct 1, 1, .inr (.inl g_3))), (mo, .inr (11, [.ref mw, .ref ma, .ref mf, .ref m0, .ref m1, .ref mu, .ref mv, .ref u0, .ref u1, .ref iz, .int 1, .ref mb, .int 0, .int 0, .int 0, .int 0, .int 0, .int 0, .int 0]))] H := hP
      have hD : va_D A [(ov, .inl (ct 1, 1, .inr (.inl g_3))), (mo, .inr (11, [.ref mw, .ref ma, .ref mf, .ref m0, .ref m1, .ref mu, .ref mv, .ref u0, .ref u1, .ref iz, .int 1, .ref mb, .int 0, .int 0, .int 0, .int 0, .int 0, .int 0, .int 0]))] := hD
      refine lv_iload hx hb dL_law_3540 (lv_at hl 1 rfl) ?_
      refine lv_icmp_eq (tgt := 3547) hx hb dL_law_3542 (by decide) (fun _ => ?_) (fun hc => absurd (by decide) hc)
      refine lv_iload hx hb dL_law_3547 (lv_at hl 1 rfl) ?_
      refine lv_if_ne (tgt := 3564) hx hb dL_law_3549 (by decide) (fun _ => ?_) (fun hc => absurd hc (by decide))
      refine lv_goto (tgt := 3623) hx hb dL_law_3564 (by decide) ?_
      exact law_end C1 hS (lv_sub hl [2, 7] rfl) (Nat.le_of_ble_eq_true rfl) (Nat.le_of_ble_eq_true rfl)
theorem dL_law_3567 : decode cL_law 3567 = .ok (.aload_n 1, 1) := by decide +kernel
theorem dL_law_3568 : decode cL_law 3568 = .ok (.aload_n 0, 1) := by decide +kernel
theorem dL_law_3569 : decode cL_law 3569 = .ok (.iload 5, 2) := by decide +kernel
theorem dL_law_3571 : decode cL_law 3571 = .ok (.iconst 1, 1) := by decide +kernel
theorem dL_law_3572 : decode cL_law 3572 = .ok (.iadd, 1) := by decide +kernel
theorem dL_law_3573 : decode cL_law 3573 = .ok (.iaload, 1) := by decide +kernel
theorem dL_law_3574 : decode cL_law 3574 = .ok (.aload_n 3, 1) := by decide +kernel
theorem dL_law_3575 : decode cL_law 3575 = .ok (.invokestatic 375, 3) := by decide +kernel
theorem dL_law_3578 : decode cL_law 3578 = .ok (.istore 6, 2) := by decide +kernel
theorem dL_law_3580 : decode cL_law 3580 = .ok (.aload_n 2, 1) := by decide +kernel
theorem dL_law_3581 : decode cL_law 3581 = .ok (.aload_n 0, 1) := by decide +kernel
theorem dL_law_3582 : decode cL_law 3582 = .ok (.iload 5, 2) := by decide +kernel
theorem dL_law_3584 : decode cL_law 3584 = .ok (.iconst 1, 1) := by decide +kernel
theorem dL_law_3585 : decode cL_law 3585 = .ok (.iadd, 1) := by decide +kernel
theorem dL_law_3586 : decode cL_law 3586 = .ok (.iaload, 1) := by decide +kernel
theorem dL_law_3587 : decode cL_law 3587 = .ok (.invokevirtual 377, 3) := by decide +kernel
theorem dL_law_3590 : decode cL_law 3590 = .ok (.istore 7, 2) := by decide +kernel
theorem dL_law_3592 : decode cL_law 3592 = .ok (.aload_n 2, 1) := by decide +kernel
theorem dL_law_3593 : decode cL_law 3593 = .ok (.invokevirtual 202, 3) := by decide +kernel
theorem dL_law_3596 : decode cL_law 3596 = .ok (.iload 6, 2) := by decide +kernel
theorem dL_law_3598 : decode cL_law 3598 = .ok (.if_icmp .eq 5, 3) := by decide +kernel
theorem dL_law_3603 : decode cL_law 3603 = .ok (.iload 6, 2) := by decide +kernel
theorem dL_law_3605 : decode cL_law 3605 = .ok (.ifCond .ne 15, 3) := by decide +kernel
theorem dL_law_3608 : decode cL_law 3608 = .ok (.aload_n 3, 1) := by decide +kernel
theorem dL_law_3609 : decode cL_law 3609 = .ok (.iconst 0, 1) := by decide +kernel
theorem dL_law_3610 : decode cL_law 3610 = .ok (.laload, 1) := by decide +kernel
theorem dL_law_3611 : decode cL_law 3611 = .ok (.iload 7, 2) := by decide +kernel
theorem dL_law_3613 : decode cL_law 3613 = .ok (.i2l, 1) := by decide +kernel
theorem dL_law_3614 : decode cL_law 3614 = .ok (.lcmp, 1) := by decide +kernel
theorem dL_law_3615 : decode cL_law 3615 = .ok (.ifCond .eq 5, 3) := by decide +kernel
theorem dL_law_3620 : decode cL_law 3620 = .ok (.goto 3, 3) := by decide +kernel
set_option maxRecDepth 100000 in
set_option maxHeartbeats 4000000 in
theorem law_59 {p : Program} {l : Launch} {e : Env} {s : State} {m : MethodId} {below : List Frame} {meth : Method} {c : Code} {D : va_G} {ct : Nat → ClassId} {A : Nat → Prop} {b : Nat} {xs : Nat → Int32} {H : Heap} {locs : List Loc} {ls : Array Slot} (hfl : l.stackTraces = false) (C1 : cmL p s m meth c D ct A b 4 xs) (x : Nat) (w : Nat) (sp : Nat) (sv : Nat) (bu : Nat) (mo : Nat) (mw : Nat) (ma : Nat) (mf : Nat) (m0 : Nat) (m1 : Nat) (mu : Nat) (mv : Nat) (u0 : Nat) (u1 : Nat) (iz : Nat) (mb : Nat) (ov : Nat) (od : Nat) (hP : va_P D vwCl [(x, .inr (10, [.ref w, .ref sp, .ref sv, .ref bu, .int 0, .int 0])), (sv, .inl (ct 4, 2, .inr (.inr (.inr (.inr (fun _ => none)))))), (mo, .inr (11, [.ref mw, .ref ma, .ref mf, .ref m0, .ref m1, .ref mu, .ref mv, .ref u0, .ref u1, .ref iz, .int 0, .ref mb, .int 0, .int 0, .int 0, .int 0, .int 0, .int 0, .int 0])), (mw, .inl (ct 0, 958, .inl m_w0)), (m0, .inl (ct 0, 958, .inl (fun _ => 0))), (m1, .inl (ct 0, 958, .inl (fun _ => 0))), (mu, .inl (ct 1, 42, .inr (.inl (fun _ => 0)))), (u0, .inl (ct 1, 42, .inr (.inl (fun _ => 0)))), (u1, .inl (ct 1, 42, .inr (.inl (fun _ => 0)))), (iz, .inl (ct 2, 2, .inl (fun _ => 0))), (ov, .inl (ct 1, 1, .inr (.inl (fun _ => 0))))] H) (hD : va_D A [(x, .inr (10, [.ref w, .ref sp, .ref sv, .ref bu, .int 0, .int 0])), (sv, .inl (ct 4, 2, .inr (.inr (.inr (.inr (fun _ => none)))))), (mo, .inr (11, [.ref mw, .ref ma, .ref mf, .ref m0, .ref m1, .ref mu, .ref mv, .ref u0, .ref u1, .ref iz, .int 0, .ref mb, .int 0, .int 0, .int 0, .int 0, .int 0, .int 0, .int 0])), (mw, .inl (ct 0, 958, .inl m_w0)), (m0, .inl (ct 0, 958, .inl (fun _ => 0))), (m1, .inl (ct 0, 958, .inl (fun _ => 0))), (mu, .inl (ct 1, 42, .inr (.inl (fun _ => 0)))), (u0, .inl (ct 1, 42, .inr (.inl (fun _ => 0)))), (u1, .inl (ct 1, 42, .inr (.inl (fun _ => 0)))), (iz, .inl (ct 2, 2, .inl (fun _ => 0))), (ov, .inl (ct 1, 1, .inr (.inl (fun _ => 0))))]) (hS : va_S A s.heap H locs) (hl : lv_has ls 9 [(0, .ref b), (1, .ref x), (2, .ref mo), (3, .ref ov), (4, .ref od), (5, .int 0)]) : W p l e room_1 s m #[Value.ref b] below meth c H locs 157 8795 (lw_Z below #[Value.ref b] s) (F0 m 3567 ls []) := by
  obtain ⟨hx, hb, hr, hml, hown, hts, hK, hX, hXs, hbl, hbA, hA, hAr, hlocks⟩ := id C1
  refine lv_aload_n hx hb dL_law_3567 rfl (lv_at hl 1 rfl) ?_
  refine lv_aload_n hx hb dL_law_3568 rfl (lv_at hl 0 rfl) ?_
  refine lv_iload hx hb dL_law_3569 (lv_at hl 5 rfl) ?_
  refine lv_iconst (v := 1) hx hb dL_law_3571 (by decide) ?_
  refine lv_iadd hx hb dL_law_3572 ?_
  refine cm_cst (y := 1) (by decide) ?_
  refine va_sld hx hb hXs hbl hbA hS (cm_vin (by decide)) dL_law_3573 ?_
  refine lv_aload_n hx hb dL_law_3574 rfl (lv_at hl 3 rfl) ?_
  refine cm_ki (wr := [(mo, .inr (11, [.ref mw, .ref ma, .ref mf, .ref m0, .ref m1, .ref mu, .ref mv, .ref u0, .ref u1, .ref iz, .int 0, .ref mb, .int 0, .int 0, .int 0, .int 0, .int 0, .int 0, .int 0])), (mw, .inl (ct 0, 958, .inl m_w0)), (m0, .inl (ct 0, 958, .inl (fun _ => 0))), (m1, .inl (ct 0, 958, .inl (fun _ => 0))), (mu, .inl (ct 1, 42, .inr (.inl (fun _ => 0)))), (u0, .inl (ct 1, 42, .inr (.inl (fun _ => 0)))), (u1, .inl (ct 1, 42, .inr (.inl (fun _ => 0)))), (iz, .inl (ct 2, 2, .inl (fun _ => 0)))]) (vx_runSW (As := [.ref x, .int (xs (1 : Int32).toNatClampNeg), .ref ov]) (rest := []) ⟨hx, hb, hml, hown, hts⟩ (l_restoreSnapshot l hfl D ct x w sp sv bu ov (fun _ => 0) (xs (1 : Int32).toNatClampNeg) _) (cm_SW 3 hts kw_L_restoreSnapshot ki_RL kl_RL_375 ks_L_restoreSnapshot kd_L_restoreSnapshot ⟨Nat.le_of_ble_eq_true rfl, Nat.le_of_ble_eq_true rfl⟩) (cm_preS hP hK hD hS hA hX [0, 1, 10] rfl rfl rfl) rfl rfl hl.1 rfl (lv_room (Nat.le_of_ble_eq_true rfl)) dL_law_3575 ⟨Nat.le_of_ble_eq_true rfl, Nat.le_of_ble_eq_true rfl⟩) hP hD hS hA [0, 1, 10] [2, 3, 4, 5, 6, 7, 8, 9] rfl rfl rfl (by decide) (fun r_1 u H locs hw_2 hP hD hS => ?_)
  obtain ⟨g_3, rfl⟩ : ∃ z, z = u := ⟨_, rfl⟩
  have hw_2 : (r_1 = 0 ∧ (0 ≤ (xs (1 : Int32).toNatClampNeg) ∧ (xs (1 : Int32).toNatClampNeg) ≤ 1) ∧ g_3 (0 : Int32).toNatClampNeg = (-1)) ∨ (r_1 = 1 ∧ ((xs (1 : Int32).toNatClampNeg) < 0 ∨ 1 < (xs (1 : Int32).toNatClampNeg))) := hw_2
  have hP : va_P D vwCl [(mo, .inr (11, [.ref mw, .ref ma, .ref mf, .ref m0, .ref m1, .ref mu, .ref mv, .ref u0, .ref u1, .ref iz, .int 0, .ref mb, .int 0, .int 0, .int 0, .int 0, .int 0, .int 0, .int 0])), (mw, .inl (ct 0, 958, .inl m_w0)), (m0, .inl (ct 0, 958, .inl (fun _ => 0))), (m1, .inl (ct 0, 958, .inl (fun _ => 0))), (mu, .inl (ct 1, 42, .inr (.inl (fun _ => 0)))), (u0, .inl (ct 1, 42, .inr (.inl (fun _ => 0)))), (u1, .inl (ct 1, 42, .inr (.inl (fun _ => 0)))), (iz, .inl (ct 2, 2, .inl (fun _ => 0))), (ov, .inl (ct 1, 1, .inr (.inl g_3)))] H := hP
  have hD : va_D A [(mo, .inr (11, [.ref mw, .ref ma, .ref mf, .ref m0, .ref m1, .ref mu, .ref mv, .ref u0, .ref u1, .ref iz, .int 0, .ref mb, .int 0, .int 0, .int 0, .int 0, .int 0, .int 0, .int 0])), (mw, .inl (ct 0, 958, .inl m_w0)), (m0, .inl (ct 0, 958, .inl (fun _ => 0))), (m1, .inl (ct 0, 958, .inl (fun _ => 0))), (mu, .inl (ct 1, 42, .inr (.inl (fun _ => 0)))), (u0, .inl (ct 1, 42, .inr (.inl (fun _ => 0)))), (u1, .inl (ct 1, 42, .inr (.inl (fun _ => 0)))), (iz, .inl (ct 2, 2, .inl (fun _ => 0))), (ov, .inl (ct 1, 1, .inr (.inl g_3)))] := hD
  refine W.widen (k := 158) (n := 8801) (Nat.le_of_ble_eq_true rfl) (Nat.le_of_ble_eq_true rfl) ?_
  refine lv_istore (lv' := [(6, .int r_1), (0, .ref b), (1, .ref x), (2, .ref mo), (3, .ref ov), (4, .ref od), (5, .int 0)]) hx hb dL_law_3578 hl (by decide) rfl (fun ls hl => ?_)
  refine lv_aload_n hx hb dL_law_3580 rfl (lv_at hl 3 rfl) ?_
  refine lv_aload_n hx hb dL_law_3581 rfl (lv_at hl 1 rfl) ?_
  refine lv_iload hx hb dL_law_3582 (lv_at hl 6 rfl) ?_
  refine lv_iconst (v := 1) hx hb dL_law_3584 (by decide) ?_
  refine lv_iadd hx hb dL_law_3585 ?_
  refine cm_cst (y := 1) (by decide) ?_
  refine va_sld hx hb hXs hbl hbA hS (cm_vin (by decide)) dL_law_3586 ?_
  refine cm_ki (wr := [(ov, .inl (ct 1, 1, .inr (.inl g_3)))]) (va_runV (As := [.int (xs (1 : Int32).toNatClampNeg)]) (rest := []) ⟨hx, hb, hml, hown, hts⟩ (m_restoreSnapshot_0 l D ct mo mw ma mf m0 m1 mu mv u0 u1 iz mb (xs (1 : Int32).toNatClampNeg) _) (cm_V 1 hts kc_X11_restoreSnapshot ki_RX11 kl_RL_377 kv_X11_restoreSnapshot kx_X11_restoreSnapshot kd_X11_restoreSnapshot ⟨Nat.le_of_ble_eq_true rfl, Nat.le_of_ble_eq_true rfl⟩) (cm_preV hP hK hD hS hA hX [0, 1, 2, 3, 4, 5, 6, 7] rfl rfl rfl (q0 := 0) (ci := 11) rfl rfl) rfl rfl hl.1 rfl (lv_room (Nat.le_of_ble_eq_true rfl)) dL_law_3587 ⟨Nat.le_of_ble_eq_true rfl, Nat.le_of_ble_eq_true rfl⟩) hP hD hS hA [0, 1, 2, 3, 4, 5, 6, 7] [8] rfl rfl rfl (by decide) (fun r_4 u H locs hw_5 hP hD hS => ?_)
  obtain ⟨th_6, rfl⟩ : ∃ z, z = u := ⟨_, rfl⟩
  have hw_5 : (th_6 = 0 ∧ (0 ≤ (xs (1 : Int32).toNatClampNeg) ∧ (xs (1 : Int32).toNatClampNeg) ≤ 1) ∧ r_4 = (-1)) ∨ (th_6 = 1 ∧ ((xs (1 : Int32).toNatClampNeg) < 0 ∨ 1 < (xs (1 : Int32).toNatClampNeg))) := hw_5
  have hP : va_P D vwCl [(ov, .inl (ct 1, 1, .inr (.inl g_3))), (mo, .inr (11, [.ref mw, .ref ma, .ref mf, .ref m0, .ref m1, .ref mu, .ref mv, .ref u0, .ref u1, .ref iz, .int th_6, .ref mb, .int 0, .int 0, .int 0, .int 0, .int 0, .int 0, .int 0]))] H := hP
  have hD : va_D A [(ov, .inl (ct 1, 1, .inr (.inl g_3))), (mo, .inr (11, [.ref mw, .ref ma, .ref mf, .ref m0, .ref m1, .ref mu, .ref mv, .ref u0, .ref u1, .ref iz, .int th_6, .ref mb, .int 0, .int 0, .int 0, .int 0, .int 0, .int 0, .int 0]))] := hD
  refine lv_istore (lv' := [(7, .int r_4), (6, .int r_1), (0, .ref b), (1, .ref x), (2, .ref mo), (3, .ref ov), (4, .ref od), (5, .int 0)]) hx hb dL_law_3590 hl (by decide) rfl (fun ls hl => ?_)
  rcases hw_2 with ⟨rfl, hq1, hg⟩ | ⟨rfl, hq1⟩
  · rcases hw_5 with ⟨rfl, hq2, rfl⟩ | ⟨rfl, hq2⟩
    · refine lv_aload_n hx hb dL_law_3592 rfl (lv_at hl 4 rfl) ?_
      refine cm_ki (wr := [(ov, .inl (ct 1, 1, .inr (.inl g_3)))]) (va_runV (As := []) (rest := []) ⟨hx, hb, hml, hown, hts⟩ (m_thrown l D ct mo mw ma mf m0 m1 mu mv u0 u1 iz mb 0 _) (cm_V 0 hts kc_X11_thrown ki_RX11 kl_RL_202 kv_X11_thrown kx_X11_thrown kd_X11_thrown ⟨Nat.le_of_ble_eq_true rfl, Nat.le_of_ble_eq_true rfl⟩) (cm_preV hP hK hD hS hA hX [1] rfl rfl rfl (q0 := 1) (ci := 11) rfl rfl) rfl rfl hl.1 rfl (lv_room (Nat.le_of_ble_eq_true rfl)) dL_law_3593 ⟨Nat.le_of_ble_eq_true rfl, Nat.le_of_ble_eq_true rfl⟩) hP hD hS hA [1] [0] rfl rfl rfl (by decide) (fun r_7 u H locs hw_8 hP hD hS => ?_)
      have hw_8 : r_7 = 0 := hw_8
      obtain rfl := hw_8
      have hP : va_P D vwCl [(ov, .inl (ct 1, 1, .inr (.inl g_3))), (mo, .inr (11, [.ref mw, .ref ma, .ref mf, .ref m0, .ref m1, .ref mu, .ref mv, .ref u0, .ref u1, .ref iz, .int 0, .ref mb, .int 0, .int 0, .int 0, .int 0, .int 0, .int 0, .int 0]))] H := hP
      have hD : va_D A [(ov, .inl (ct 1, 1, .inr (.inl g_3))), (mo, .inr (11, [.ref mw, .ref ma, .ref mf, .ref m0, .ref m1, .ref mu, .ref mv, .ref u0, .ref u1, .ref iz, .int 0, .ref mb, .int 0, .int 0, .int 0, .int 0, .int 0, .int 0, .int 0]))] := hD
      refine lv_iload hx hb dL_law_3596 (lv_at hl 1 rfl) ?_
      refine lv_icmp_eq (tgt := 3603) hx hb dL_law_3598 (by decide) (fun _ => ?_) (fun hc => absurd (by decide) hc)
      refine lv_iload hx hb dL_law_3603 (lv_at hl 1 rfl) ?_
      refine lv_if_ne (tgt := 3620) hx hb dL_law_3605 (by decide) (fun hc => absurd (by decide) hc) (fun _ => ?_)
      refine lv_aload_n hx hb dL_law_3608 rfl (lv_at hl 5 rfl) ?_
      refine lv_iconst (v := 0) hx hb dL_law_3609 (by decide) ?_
      refine va_lald hx hb hK hP 0 1 rfl rfl (cm_vin (by decide)) dL_law_3610 ?_
      refine cm_cstl (y := (-1)) hg ?_
      refine lv_iload hx hb dL_law_3611 (lv_at hl 0 rfl) ?_
      refine lv_i2l (v := (-1)) hx hb dL_law_3613 (by decide) ?_
      refine W.lcmp hx hb dL_law_3614 ?_
      refine cm_cst (y := 0) (by decide) ?_
      refine lv_if_eq (tgt := 3620) hx hb dL_law_3615 (by decide) (fun _ => ?_) (fun hc => absurd (by decide) hc)
      refine lv_goto (tgt := 3623) hx hb dL_law_3620 (by decide) ?_
      exact law_end C1 hS (lv_sub hl [2, 7] rfl) (Nat.le_of_ble_eq_true rfl) (Nat.le_of_ble_eq_true rfl)
    · exact (cm_no hq1 hq2).elim
  · rcases hw_5 with ⟨rfl, hq2, rfl⟩ | ⟨rfl, hq2⟩
    · exact (cm_no hq2 hq1).elim
    · refine lv_aload_n hx hb dL_law_3592 rfl (lv_at hl 4 rfl) ?_
      refine cm_ki (wr := [(ov, .inl (ct 1, 1, .inr (.inl g_3)))]) (va_runV (As := []) (rest := []) ⟨hx, hb, hml, hown, hts⟩ (m_thrown l D ct mo mw ma mf m0 m1 mu mv u0 u1 iz mb 1 _) (cm_V 0 hts kc_X11_thrown ki_RX11 kl_RL_202 kv_X11_thrown kx_X11_thrown kd_X11_thrown ⟨Nat.le_of_ble_eq_true rfl, Nat.le_of_ble_eq_true rfl⟩) (cm_preV hP hK hD hS hA hX [1] rfl rfl rfl (q0 := 1) (ci := 11) rfl rfl) rfl rfl hl.1 rfl (lv_room (Nat.le_of_ble_eq_true rfl)) dL_law_3593 ⟨Nat.le_of_ble_eq_true rfl, Nat.le_of_ble_eq_true rfl⟩) hP hD hS hA [1] [0] rfl rfl rfl (by decide) (fun r_9 u H locs hw_10 hP hD hS => ?_)
      have hw_10 : r_9 = 1 := hw_10
      obtain rfl := hw_10
      have hP : va_P D vwCl [(ov, .inl (ct 1, 1, .inr (.inl g_3))), (mo, .inr (11, [.ref mw, .ref ma, .ref mf, .ref m0, .ref m1, .ref mu, .ref mv, .ref u0, .ref u1, .ref iz, .int 1, .ref mb, .int 0, .int 0, .int 0, .int 0, .int 0, .int 0, .int 0]))] H := hP
      have hD : va_D A [(ov, .inl (ct 1, 1, .inr (.inl g_3))), (mo, .inr (11, [.ref mw, .ref ma, .ref mf, .ref m0, .ref m1, .ref mu, .ref mv, .ref u0, .ref u1, .ref iz, .int 1, .ref mb, .int 0, .int 0, .int 0, .int 0, .int 0, .int 0, .int 0]))] := hD
      refine lv_iload hx hb dL_law_3596 (lv_at hl 1 rfl) ?_
      refine lv_icmp_eq (tgt := 3603) hx hb dL_law_3598 (by decide) (fun _ => ?_) (fun hc => absurd (by decide) hc)
      refine lv_iload hx hb dL_law_3603 (lv_at hl 1 rfl) ?_
      refine lv_if_ne (tgt := 3620) hx hb dL_law_3605 (by decide) (fun _ => ?_) (fun hc => absurd hc (by decide))
      refine lv_goto (tgt := 3623) hx hb dL_law_3620 (by decide) ?_
      exact law_end C1 hS (lv_sub hl [2, 7] rfl) (Nat.le_of_ble_eq_true rfl) (Nat.le_of_ble_eq_true rfl)
