theorem dX10_init_0 : decode cX10_init 0 = .ok (.aload_n 0, 1) := by decide +kernel
theorem dX10_init_1 : decode cX10_init 1 = .ok (.invokespecial 1, 3) := by decide +kernel
theorem dX10_init_4 : decode cX10_init 4 = .ok (.aload_n 0, 1) := by decide +kernel
theorem dX10_init_5 : decode cX10_init 5 = .ok (.new 7, 3) := by decide +kernel
theorem dX10_init_8 : decode cX10_init 8 = .ok (.dup, 1) := by decide +kernel
theorem dX10_init_9 : decode cX10_init 9 = .ok (.invokespecial 9, 3) := by decide +kernel
theorem dX10_init_12 : decode cX10_init 12 = .ok (.putfield 10, 3) := by decide +kernel
theorem dX10_init_15 : decode cX10_init 15 = .ok (.aload_n 0, 1) := by decide +kernel
theorem dX10_init_16 : decode cX10_init 16 = .ok (.new 7, 3) := by decide +kernel
theorem dX10_init_19 : decode cX10_init 19 = .ok (.dup, 1) := by decide +kernel
theorem dX10_init_20 : decode cX10_init 20 = .ok (.invokespecial 9, 3) := by decide +kernel
theorem dX10_init_23 : decode cX10_init 23 = .ok (.putfield 16, 3) := by decide +kernel
theorem dX10_init_26 : decode cX10_init 26 = .ok (.aload_n 0, 1) := by decide +kernel
theorem dX10_init_27 : decode cX10_init 27 = .ok (.iconst 2, 1) := by decide +kernel
theorem dX10_init_28 : decode cX10_init 28 = .ok (.anewarray 7, 3) := by decide +kernel
theorem dX10_init_31 : decode cX10_init 31 = .ok (.putfield 19, 3) := by decide +kernel
theorem dX10_init_34 : decode cX10_init 34 = .ok (.aload_n 0, 1) := by decide +kernel
theorem dX10_init_35 : decode cX10_init 35 = .ok (.sipush 800, 3) := by decide +kernel
theorem dX10_init_38 : decode cX10_init 38 = .ok (.newarray .int, 2) := by decide +kernel
theorem dX10_init_40 : decode cX10_init 40 = .ok (.putfield 23, 3) := by decide +kernel
theorem dX10_init_43 : decode cX10_init 43 = .ok (.aload_n 0, 1) := by decide +kernel
theorem dX10_init_44 : decode cX10_init 44 = .ok (.iconst 0, 1) := by decide +kernel
theorem dX10_init_45 : decode cX10_init 45 = .ok (.putfield 27, 3) := by decide +kernel
theorem dX10_init_48 : decode cX10_init 48 = .ok (.aload_n 0, 1) := by decide +kernel
theorem dX10_init_49 : decode cX10_init 49 = .ok (.iconst 0, 1) := by decide +kernel
theorem dX10_init_50 : decode cX10_init 50 = .ok (.putfield 31, 3) := by decide +kernel
theorem dX10_init_53 : decode cX10_init 53 = .ok (.return_, 1) := by decide +kernel
set_option maxRecDepth 100000 in
set_option maxHeartbeats 4000000 in
theorem t_X10_init (l : Launch) (D : va_G) (ct : Nat → ClassId) (S : ty_S) (ws : va_W) (ph : va_W → Prop) (xx : Nat → Nat → Nat → Prop) (x : Nat) (sz : Nat) (hT : ty_V ct S ph ws) (hph : ty_C ph xx) (hy1 : ty_y1 xx) (hy7 : ty_yc xx 7) : Met l yX10_init (ws_ yX10_init cX10_init 1 none) ({ frames := 5, cells := 130, slots := 3008, locals := 94 } : Room) (va_Pc [.ref x] (cmP D ct sz ([(x, .inr (10, [.null, .null, .null, .null, .int 0, .int 0]))] ++ ws))) (va_Qv (fun (u : va_W × ty_S × Nat × Nat × Nat × Nat × Nat × Nat × Nat × Nat) => match u with | (u9, S9, w, sp, sv, bu, cu, na, pr, ch) => ty_V ct S9 ph u9 ∧ ty_le S S9 ∧ S9 w = some (.inl 9) ∧ S9 sp = some (.inl 9) ∧ S9 sv = some (.inr (4, 2)) ∧ (S9 cu = some (.inl 2) ∧ S9 na = some (.inr (1, 4)) ∧ S9 pr = some (.inl 5) ∧ S9 ch = some (.inr (3, 6))) ∧ ¬ w = sp ∧ rp_L w sp sv cu na pr ch none none 0 0 0 u9) (cmB D ([(x, .inr (10, [.null, .null, .null, .null, .int 0, .int 0]))] ++ ws) sz (fun (u : va_W × ty_S × Nat × Nat × Nat × Nat × Nat × Nat × Nat × Nat) => match u with | (u9, S9, w, sp, sv, bu, cu, na, pr, ch) => ([(ty_XO x w sp sv bu (0) (0)), (rf_RW ct 0 bu 800 (fun _ => 0))] ++ u9))) (va_A ([(x, .inr (10, [.null, .null, .null, .null, .int 0, .int 0]))] ++ ws) sz)) 130 3008 (va_A ([(x, .inr (10, [.null, .null, .null, .null, .int 0, .int 0]))] ++ ws) sz) := by
  refine Met.ofW (cc := cX10_init) (maxL := 1) (ret := none) (by decide) rfl ?_
  intro p e s m args below meth c s₁ B hml hv
  obtain ⟨rfl, hsz, hP, hK, hD0, hX⟩ := hv
  have hx := B.exec
  have hb := B.bytes
  have hr := B.returns
  have hts := ws_all (atoms_spec (ws := ws_ yX10_init cX10_init 1 none) B.pre)
  have hown : s.vm.findClass RX10 = some m.cls := findClass_of_methodNamed B.named
  have hlocks := B.notSynchronized
  have hin : meth.name = "<init>" := (name_of_methodNamed B.named B.method).1
  subst hsz
  have hD := hD0.self (sz := s.heap.size)
  generalize hAe : va_A ([(x, .inr (10, [.null, .null, .null, .null, .int 0, .int 0]))] ++ ws) s.heap.size = A at hD hX ⊢
  have hA : ∀ q : Nat, s.heap.size ≤ q → A q := fun q h => by rw [← hAe]; exact Or.inr h
  have hS : va_S A s.heap s.heap [] := va_S.rf
  have hl := lv_entry ([.ref x]) (n := 1) (Nat.le_of_ble_eq_true rfl)
  rw [lg_entry_eq]
  generalize (lg_sl ([.ref x]) ++ List.replicate (1 - (lg_sl ([.ref x])).length) Slot.unset).toArray = ls at hl ⊢
  have hl : lv_has ls 1 [(0, .ref x)] := hl
  refine lv_aload_n hx hb dX10_init_0 rfl (lv_at hl 0 rfl) ?_
  refine W.objInit hx hb hown (hts _ kl_RX10_1) (hts _ kv_java_lang_Object_init) (hts _ kc_java_lang_Object_init) rfl (by rw [hml]; exact hl.1) rfl dX10_init_1 (Nat.le_of_ble_eq_true rfl) (Nat.le_of_ble_eq_true rfl) ?_
  refine W.eq (g2 := F0 m 4 ls []) rfl ?_
  refine lv_aload_n hx hb dX10_init_4 rfl (lv_at hl 0 rfl) ?_
  refine va_new (ci := 9) (fs := [.int 0, .null, .null, .null, .int 0, .null, .null, .null]) (C := RX9) (T := TX9) (N := 8) hx hb hts in_X9 tyX9 tyX9_ok hown (hts _ kl_RX10_7) (hts _ kn_RX9) (hts _ ki_RX9) hK hP hD hS hA rfl fs0_X9 (Nat.le_of_ble_eq_true rfl) (Nat.le_of_ble_eq_true rfl) dX10_init_5 (fun q_1 H hP hD hS => ?_)
  have hP : va_P D vwCl ([(x, .inr (10, [.null, .null, .null, .null, .int 0, .int 0])), (q_1, .inr (9, [.int 0, .null, .null, .null, .int 0, .null, .null, .null]))] ++ ws) H := ty_permP hP ty_mvp
  have hD : va_D A ([(x, .inr (10, [.null, .null, .null, .null, .int 0, .int 0])), (q_1, .inr (9, [.int 0, .null, .null, .null, .int 0, .null, .null, .null]))] ++ ws) := ty_permD hD ty_mvp
  refine W.widen (k := 1) (n := 8) (Nat.le_of_ble_eq_true rfl) (Nat.le_of_ble_eq_true rfl) ?_
  refine lv_dup hx hb dX10_init_8 rfl ?_
  refine ty_kv (wr := [(x, .inr (10, [.null, .null, .null, .null, .int 0, .int 0]))]) (wc := ([(q_1, .inr (9, [.int 0, .null, .null, .null, .int 0, .null, .null, .null]))] ++ ws)) (va_runIN (As := []) (rest := [.ref q_1, .ref x]) ⟨hx, hb, hml, hown, hts⟩ (t_X9_init l D ct S ws ph xx q_1 _ hT hph hy1 hy7) (cm_IN 0 hts kc_X9_init ki_RX9 kl_RX10_9 kv_X9_init rfl kd_X9_init ⟨Nat.le_of_ble_eq_true rfl, Nat.le_of_ble_eq_true rfl⟩) (ty_preS (wr := [(x, .inr (10, [.null, .null, .null, .null, .int 0, .int 0]))]) (wc := ([(q_1, .inr (9, [.int 0, .null, .null, .null, .int 0, .null, .null, .null]))] ++ ws)) hP hK hD hS hA hX) rfl rfl hl.1 rfl (lv_room (Nat.le_of_ble_eq_true rfl)) dX10_init_9 ⟨Nat.le_of_ble_eq_true rfl, Nat.le_of_ble_eq_true rfl⟩) hP hD hS hA (fun u H locs hw_3 hP hD hS => ?_)
  obtain ⟨ws_4, S_5, cu_6, na_7, pr_8, ch_9⟩ := u
  obtain ⟨hT, hle_10, hp_11⟩ := hw_3
  have hp_11 : S_5 q_1 = some (.inl 9) ∧ (S_5 cu_6 = some (.inl 2) ∧ S_5 na_7 = some (.inr (1, 4)) ∧ S_5 pr_8 = some (.inl 5) ∧ S_5 ch_9 = some (.inr (3, 6))) ∧ rp_S0 q_1 cu_6 na_7 pr_8 ch_9 ws_4 := hp_11
  have hP : va_P D vwCl ([(x, .inr (10, [.null, .null, .null, .null, .int 0, .int 0]))] ++ ws_4) H := hP
  have hD : va_D A ([(x, .inr (10, [.null, .null, .null, .null, .int 0, .int 0]))] ++ ws_4) := hD
  refine W.widen (k := 64) (n := 1103) (Nat.le_of_ble_eq_true rfl) (Nat.le_of_ble_eq_true rfl) ?_
  have hT : ty_V ct S_5 (fun ws => ph ws ∧ (ty_fc q_1 9 0 (.int 0)) ws) ws_4 := ⟨hT.1, hT.2, hp_11.2.2.2⟩
  have hph_12 : ty_C (fun ws => ph ws ∧ (ty_fc q_1 9 0 (.int 0)) ws) (fun c k b => xx c k b ∧ (fun c k b => ¬ (c = 9 ∧ k = 0 ∧ b = q_1)) c k b) := ty_Cand hph ty_fcB
  have hy_13 : ty_y1 (fun c k b => xx c k b ∧ (fun c k b => ¬ (c = 9 ∧ k = 0 ∧ b = q_1)) c k b) := fun c k b h => ⟨hy1 c k b h, (fun c k b h q9 => (ty_frn h).1 q9.1) c k b h⟩
  have hy_14 : ty_yc (fun c k b => xx c k b ∧ (fun c k b => ¬ (c = 9 ∧ k = 0 ∧ b = q_1)) c k b) 7 := fun k b => ⟨hy7 k b, (fun q9 => absurd q9.1 (by decide))⟩
  refine va_putF (v := .ref q_1) (ty := (tyX10 0)) (D := D) (ci := 10) (C := RX10) (T := TX10) (N := 6) hx hb hts in_X10 tyX10 tyX10_ok nmX10 hown hK hP hD hS 0 rfl rfl 0 (by decide) (hts _ kl_RX10_10) (fun _ h9 => h9) rfl hin rfl (by decide +kernel) rfl rfl (Nat.le_of_ble_eq_true rfl) dX10_init_12 (fun H locs hP hD hS => ?_)
  have hP : va_P D vwCl ([(x, .inr (10, [.ref q_1, .null, .null, .null, .int 0, .int 0]))] ++ ws_4) H := hP
  have hD : va_D A ([(x, .inr (10, [.ref q_1, .null, .null, .null, .int 0, .int 0]))] ++ ws_4) := hD
  refine lv_aload_n hx hb dX10_init_15 rfl (lv_at hl 0 rfl) ?_
  refine va_new (ci := 9) (fs := [.int 0, .null, .null, .null, .int 0, .null, .null, .null]) (C := RX9) (T := TX9) (N := 8) hx hb hts in_X9 tyX9 tyX9_ok hown (hts _ kl_RX10_7) (hts _ kn_RX9) (hts _ ki_RX9) hK hP hD hS hA rfl fs0_X9 (Nat.le_of_ble_eq_true rfl) (Nat.le_of_ble_eq_true rfl) dX10_init_16 (fun q_15 H hP hD hS => ?_)
  have hP : va_P D vwCl ([(x, .inr (10, [.ref q_1, .null, .null, .null, .int 0, .int 0])), (q_15, .inr (9, [.int 0, .null, .null, .null, .int 0, .null, .null, .null]))] ++ ws_4) H := ty_permP hP ty_mvp
  have hD : va_D A ([(x, .inr (10, [.ref q_1, .null, .null, .null, .int 0, .int 0])), (q_15, .inr (9, [.int 0, .null, .null, .null, .int 0, .null, .null, .null]))] ++ ws_4) := ty_permD hD ty_mvp
  refine W.widen (k := 65) (n := 1111) (Nat.le_of_ble_eq_true rfl) (Nat.le_of_ble_eq_true rfl) ?_
  have hne : ¬ q_1 = q_15 := ty_neq (E := [(x, .inr (10, [.ref q_1, .null, .null, .null, .int 0, .int 0])), (q_15, .inr (9, [.int 0, .null, .null, .null, .int 0, .null, .null, .null]))]) 1 hD rfl hT.1 hp_11.1
  refine lv_dup hx hb dX10_init_19 rfl ?_
  refine ty_kv (wr := [(x, .inr (10, [.ref q_1, .null, .null, .null, .int 0, .int 0]))]) (wc := ([(q_15, .inr (9, [.int 0, .null, .null, .null, .int 0, .null, .null, .null]))] ++ ws_4)) (va_runIN (As := []) (rest := [.ref q_15, .ref x]) ⟨hx, hb, hml, hown, hts⟩ (t_X9_init l D ct S_5 ws_4 (fun ws => ph ws ∧ (ty_fc q_1 9 0 (.int 0)) ws) (fun c k b => xx c k b ∧ (fun c k b => ¬ (c = 9 ∧ k = 0 ∧ b = q_1)) c k b) q_15 _ hT hph_12 hy_13 hy_14) (cm_IN 0 hts kc_X9_init ki_RX9 kl_RX10_9 kv_X9_init rfl kd_X9_init ⟨Nat.le_of_ble_eq_true rfl, Nat.le_of_ble_eq_true rfl⟩) (ty_preS (wr := [(x, .inr (10, [.ref q_1, .null, .null, .null, .int 0, .int 0]))]) (wc := ([(q_15, .inr (9, [.int 0, .null, .null, .null, .int 0, .null, .null, .null]))] ++ ws_4)) hP hK hD hS hA hX) rfl rfl hl.1 rfl (lv_room (Nat.le_of_ble_eq_true rfl)) dX10_init_20 ⟨Nat.le_of_ble_eq_true rfl, Nat.le_of_ble_eq_true rfl⟩) hP hD hS hA (fun u H locs hw_17 hP hD hS => ?_)
  obtain ⟨ws_18, S_19, cu_20, na_21, pr_22, ch_23⟩ := u
  obtain ⟨hT, hle_24, hp_25⟩ := hw_17
  have hp_25 : S_19 q_15 = some (.inl 9) ∧ (S_19 cu_20 = some (.inl 2) ∧ S_19 na_21 = some (.inr (1, 4)) ∧ S_19 pr_22 = some (.inl 5) ∧ S_19 ch_23 = some (.inr (3, 6))) ∧ rp_S0 q_15 cu_20 na_21 pr_22 ch_23 ws_18 := hp_25
  have hg_26 := hle_24 _ _ hp_11.1
  have hP : va_P D vwCl ([(x, .inr (10, [.ref q_1, .null, .null, .null, .int 0, .int 0]))] ++ ws_18) H := hP
  have hD : va_D A ([(x, .inr (10, [.ref q_1, .null, .null, .null, .int 0, .int 0]))] ++ ws_18) := hD
  refine W.widen (k := 128) (n := 2206) (Nat.le_of_ble_eq_true rfl) (Nat.le_of_ble_eq_true rfl) ?_
  have hT : ty_V ct S_19 (fun ws => (fun ws => ph ws ∧ (ty_fc q_1 9 0 (.int 0)) ws) ws ∧ (rp_S (rp_P0 q_15) cu_20 na_21 pr_22 ch_23) ws) ws_18 := ⟨hT.1, hT.2, hp_25.2.2.1⟩
  have hph_27 : ty_C (fun ws => (fun ws => ph ws ∧ (ty_fc q_1 9 0 (.int 0)) ws) ws ∧ (rp_S (rp_P0 q_15) cu_20 na_21 pr_22 ch_23) ws) (fun c k b => (fun c k b => xx c k b ∧ (fun c k b => ¬ (c = 9 ∧ k = 0 ∧ b = q_1)) c k b) c k b ∧ (rp_xS (rp_P0 q_15) ch_23) c k b) := ty_Cand hph_12 rp_SC
  have hy_28 : ty_y1 (fun c k b => (fun c k b => xx c k b ∧ (fun c k b => ¬ (c = 9 ∧ k = 0 ∧ b = q_1)) c k b) c k b ∧ (rp_xS (rp_P0 q_15) ch_23) c k b) := fun c k b h => ⟨hy_13 c k b h, rp_S1 c k b h⟩
  have hy_29 : ty_yc (fun c k b => (fun c k b => xx c k b ∧ (fun c k b => ¬ (c = 9 ∧ k = 0 ∧ b = q_1)) c k b) c k b ∧ (rp_xS (rp_P0 q_15) ch_23) c k b) 7 := fun k b => ⟨hy_14 k b, (rp_S7 k b)⟩
  refine va_putF (v := .ref q_15) (ty := (tyX10 1)) (D := D) (ci := 10) (C := RX10) (T := TX10) (N := 6) hx hb hts in_X10 tyX10 tyX10_ok nmX10 hown hK hP hD hS 0 rfl rfl 1 (by decide) (hts _ kl_RX10_16) (fun _ h9 => h9) rfl hin rfl (by decide +kernel) rfl rfl (Nat.le_of_ble_eq_true rfl) dX10_init_23 (fun H locs hP hD hS => ?_)
  have hP : va_P D vwCl ([(x, .inr (10, [.ref q_1, .ref q_15, .null, .null, .int 0, .int 0]))] ++ ws_18) H := hP
  have hD : va_D A ([(x, .inr (10, [.ref q_1, .ref q_15, .null, .null, .int 0, .int 0]))] ++ ws_18) := hD
  refine lv_aload_n hx hb dX10_init_26 rfl (lv_at hl 0 rfl) ?_
  refine lv_iconst (v := 2) hx hb dX10_init_27 (by decide) ?_
  refine cm_newq (C := "CellCycler$World") (N' := 2) hx hb hown (hts _ kl_RX10_7) (va_AO.of (hts _ kao_RX9)) hK 4 rfl hP hD hS hA (by decide) (by decide) (Nat.le_of_ble_eq_true rfl) (Nat.le_of_ble_eq_true rfl) (Nat.le_of_ble_eq_true rfl) dX10_init_28 (fun q_30 H hP hD hS => ?_)
  have hP : va_P D vwCl ([(x, .inr (10, [.ref q_1, .ref q_15, .null, .null, .int 0, .int 0])), (q_30, .inl (ct 4, 2, .inr (.inr (.inr (.inr (fun _ => none))))))] ++ ws_18) H := ty_permP hP ty_mvp
  have hD : va_D A ([(x, .inr (10, [.ref q_1, .ref q_15, .null, .null, .int 0, .int 0])), (q_30, .inl (ct 4, 2, .inr (.inr (.inr (.inr (fun _ => none))))))] ++ ws_18) := ty_permD hD ty_mvp
  refine W.widen (k := 129) (n := 2208) (Nat.le_of_ble_eq_true rfl) (Nat.le_of_ble_eq_true rfl) ?_
  obtain ⟨ws_31, S_32, hT, hle_33, hk_34, hP, hD, hw_35⟩ := ty_abs (κ := .inr (4, 2)) (E1 := [(x, .inr (10, [.ref q_1, .ref q_15, .null, .null, .int 0, .int 0]))]) hP hD hT hph_27 ⟨by decide, _, rfl, fun j b h => by cases h⟩
  have hg_36 := hle_33 _ _ hg_26
  have hg_37 := hle_33 _ _ hp_25.1
  have hg_38 := hle_33 _ _ hp_25.2.1.1
  have hg_39 := hle_33 _ _ hp_25.2.1.2.1
  have hg_40 := hle_33 _ _ hp_25.2.1.2.2.1
  have hg_41 := hle_33 _ _ hp_25.2.1.2.2.2
  have hT : ty_V ct S_32 (fun ws => (fun ws => (fun ws => ph ws ∧ (ty_fc q_1 9 0 (.int 0)) ws) ws ∧ (rp_S (rp_P0 q_15) cu_20 na_21 pr_22 ch_23) ws) ws ∧ (rp_rw q_30 none none) ws) ws_31 := ⟨hT.1, hT.2, ⟨0, _, _, _, hw_35, rfl, rfl⟩⟩
  have hph_42 : ty_C (fun ws => (fun ws => (fun ws => ph ws ∧ (ty_fc q_1 9 0 (.int 0)) ws) ws ∧ (rp_S (rp_P0 q_15) cu_20 na_21 pr_22 ch_23) ws) ws ∧ (rp_rw q_30 none none) ws) (fun c k b => (fun c k b => (fun c k b => xx c k b ∧ (fun c k b => ¬ (c = 9 ∧ k = 0 ∧ b = q_1)) c k b) c k b ∧ (rp_xS (rp_P0 q_15) ch_23) c k b) c k b ∧ (fun c k b => c = 14 → b ≠ q_30) c k b) := ty_Cand hph_27 rp_rwC
  have hy_43 : ty_y1 (fun c k b => (fun c k b => (fun c k b => xx c k b ∧ (fun c k b => ¬ (c = 9 ∧ k = 0 ∧ b = q_1)) c k b) c k b ∧ (rp_xS (rp_P0 q_15) ch_23) c k b) c k b ∧ (fun c k b => c = 14 → b ≠ q_30) c k b) := fun c k b h => ⟨hy_28 c k b h, (fun c k b h q9 => absurd q9 (ty_frn h).2.2.2.2.2) c k b h⟩
  have hy_44 : ty_yc (fun c k b => (fun c k b => (fun c k b => xx c k b ∧ (fun c k b => ¬ (c = 9 ∧ k = 0 ∧ b = q_1)) c k b) c k b ∧ (rp_xS (rp_P0 q_15) ch_23) c k b) c k b ∧ (fun c k b => c = 14 → b ≠ q_30) c k b) 7 := fun k b => ⟨hy_29 k b, (fun q9 => absurd q9 (by decide))⟩
  refine va_putF (v := .ref q_30) (ty := (tyX10 2)) (D := D) (ci := 10) (C := RX10) (T := TX10) (N := 6) hx hb hts in_X10 tyX10 tyX10_ok nmX10 hown hK hP hD hS 0 rfl rfl 2 (by decide) (hts _ kl_RX10_19) (fun _ h9 => h9) rfl hin rfl (by decide +kernel) rfl rfl (Nat.le_of_ble_eq_true rfl) dX10_init_31 (fun H locs hP hD hS => ?_)
  have hP : va_P D vwCl ([(x, .inr (10, [.ref q_1, .ref q_15, .ref q_30, .null, .int 0, .int 0]))] ++ ws_31) H := hP
  have hD : va_D A ([(x, .inr (10, [.ref q_1, .ref q_15, .ref q_30, .null, .int 0, .int 0]))] ++ ws_31) := hD
  refine lv_aload_n hx hb dX10_init_34 rfl (lv_at hl 0 rfl) ?_
  refine lv_sipush (v := 800) hx hb dX10_init_35 (by decide) ?_
  refine cm_newa (atype := .int) (ty := .int) (a0 := (800, .inl (fun _ => 0))) hx hb (hts _ ka_int) rfl hK 0 rfl cm_raI hP hD hS hA (fun _ => rfl) (by decide) (by decide) (Nat.le_of_ble_eq_true rfl) (Nat.le_of_ble_eq_true rfl) (Nat.le_of_ble_eq_true rfl) dX10_init_38 (fun q_45 H hP hD hS => ?_)
  have hP : va_P D vwCl ([(x, .inr (10, [.ref q_1, .ref q_15, .ref q_30, .null, .int 0, .int 0])), (rf_RW ct 0 q_45 800 (fun _ => 0))] ++ ws_31) H := ty_permP hP ty_mvp
  have hD : va_D A ([(x, .inr (10, [.ref q_1, .ref q_15, .ref q_30, .null, .int 0, .int 0])), (rf_RW ct 0 q_45 800 (fun _ => 0))] ++ ws_31) := ty_permD hD ty_mvp
  refine W.widen (k := 130) (n := 3008) (Nat.le_of_ble_eq_true rfl) (Nat.le_of_ble_eq_true rfl) ?_
  refine va_putF (v := .ref q_45) (ty := (tyX10 3)) (D := D) (ci := 10) (C := RX10) (T := TX10) (N := 6) hx hb hts in_X10 tyX10 tyX10_ok nmX10 hown hK hP hD hS 0 rfl rfl 3 (by decide) (hts _ kl_RX10_23) (fun _ h9 => h9) rfl hin rfl (by decide +kernel) rfl rfl (Nat.le_of_ble_eq_true rfl) dX10_init_40 (fun H locs hP hD hS => ?_)
  have hP : va_P D vwCl ([(ty_XO x q_1 q_15 q_30 q_45 (0) (0)), (rf_RW ct 0 q_45 800 (fun _ => 0))] ++ ws_31) H := hP
  have hD : va_D A ([(ty_XO x q_1 q_15 q_30 q_45 (0) (0)), (rf_RW ct 0 q_45 800 (fun _ => 0))] ++ ws_31) := hD
  refine lv_aload_n hx hb dX10_init_43 rfl (lv_at hl 0 rfl) ?_
  refine lv_iconst (v := 0) hx hb dX10_init_44 (by decide) ?_
  refine va_put (v := .int 0) (ty := .int) (D := D) (ci := 10) (C := RX10) (T := TX10) (N := 6) hx hb hts in_X10 tyX10 tyX10_ok nmX10 hown hK hP hD hS 0 rfl rfl 4 (by decide) (hts _ kl_RX10_27) (fun _ h9 => h9) rfl (by decide +kernel) rfl rfl (Nat.le_of_ble_eq_true rfl) dX10_init_45 (fun H locs hP hD hS => ?_)
  have hP : va_P D vwCl ([(ty_XO x q_1 q_15 q_30 q_45 (0) (0)), (rf_RW ct 0 q_45 800 (fun _ => 0))] ++ ws_31) H := hP
  have hD : va_D A ([(ty_XO x q_1 q_15 q_30 q_45 (0) (0)), (rf_RW ct 0 q_45 800 (fun _ => 0))] ++ ws_31) := hD
  refine lv_aload_n hx hb dX10_init_48 rfl (lv_at hl 0 rfl) ?_
  refine lv_iconst (v := 0) hx hb dX10_init_49 (by decide) ?_
  refine va_put (v := .int 0) (ty := .int) (D := D) (ci := 10) (C := RX10) (T := TX10) (N := 6) hx hb hts in_X10 tyX10 tyX10_ok nmX10 hown hK hP hD hS 0 rfl rfl 5 (by decide) (hts _ kl_RX10_31) (fun _ h9 => h9) rfl (by decide +kernel) rfl rfl (Nat.le_of_ble_eq_true rfl) dX10_init_50 (fun H locs hP hD hS => ?_)
  have hP : va_P D vwCl ([(ty_XO x q_1 q_15 q_30 q_45 (0) (0)), (rf_RW ct 0 q_45 800 (fun _ => 0))] ++ ws_31) H := hP
  have hD : va_D A ([(ty_XO x q_1 q_15 q_30 q_45 (0) (0)), (rf_RW ct 0 q_45 800 (fun _ => 0))] ++ ws_31) := hD
  exact W.vret hx hb hr (fun t ht hW => ⟨⟨(ws_31, S_32, q_1, q_15, q_30, q_45, cu_20, na_21, pr_22, ch_23), rfl, ⟨⟨hT.1, hT.2.1.1.1⟩, (fun a9 k9 h9 => hle_33 _ _ ((fun a9 k9 h9 => hle_24 _ _ ((fun a9 k9 h9 => hle_10 _ _ ((fun _ _ h9 => h9) a9 k9 h9)) a9 k9 h9)) a9 k9 h9)), ⟨hg_36, hg_37, hk_34, ⟨hg_38, hg_39, hg_40, hg_41⟩, hne, rp_Sm hT.2.1.2 (fun _ => ⟨hT.2.2, (fun v9 q9 => by rw [← Option.some.inj q9]; exact hT.2.1.1.2), (fun v9 q9 => by cases q9), (fun v9 q9 => by cases q9)⟩)⟩⟩, by rw [ht]; exact hP, by rw [hAe]; exact hD⟩, hS.F ht⟩) hS.2.2 dX10_init_53
theorem dX6_init_0 : decode cX6_init 0 = .ok (.aload_n 0, 1) := by decide +kernel
theorem dX6_init_1 : decode cX6_init 1 = .ok (.invokespecial 3, 3) := by decide +kernel
theorem dX6_init_4 : decode cX6_init 4 = .ok (.aload_n 0, 1) := by decide +kernel
theorem dX6_init_5 : decode cX6_init 5 = .ok (.aload_n 1, 1) := by decide +kernel
theorem dX6_init_6 : decode cX6_init 6 = .ok (.putfield 9, 3) := by decide +kernel
theorem dX6_init_9 : decode cX6_init 9 = .ok (.aload_n 0, 1) := by decide +kernel
theorem dX6_init_10 : decode cX6_init 10 = .ok (.iload_n 2, 1) := by decide +kernel
theorem dX6_init_11 : decode cX6_init 11 = .ok (.putfield 15, 3) := by decide +kernel
theorem dX6_init_14 : decode cX6_init 14 = .ok (.aload_n 0, 1) := by decide +kernel
theorem dX6_init_15 : decode cX6_init 15 = .ok (.aload_n 3, 1) := by decide +kernel
theorem dX6_init_16 : decode cX6_init 16 = .ok (.putfield 19, 3) := by decide +kernel
theorem dX6_init_19 : decode cX6_init 19 = .ok (.return_, 1) := by decide +kernel
set_option maxRecDepth 100000 in
set_option maxHeartbeats 4000000 in
theorem t_X6_init (l : Launch) (D : va_G) (ct : Nat → ClassId) (S : ty_S) (ws : va_W) (ph : va_W → Prop) (xx : Nat → Nat → Nat → Prop) (rd : Nat) (bt : Nat) (tg : Nat) (ln : Int32) (sz : Nat) (hT : ty_V ct S ph ws) (hph : ty_C ph xx) (hy1 : ty_y1 xx) : Met l yX6_init (ws_ yX6_init cX6_init 4 none) ({ frames := 1, cells := 0, slots := 0, locals := 12 } : Room) (va_Pc [.ref rd, .ref bt, .int ln, .ref tg] (cmP D ct sz ([(rd, .inr (6, [.null, .int 0, .null, .int 0, .int 0, .int 0, .int 0]))] ++ ws))) (va_Qv (fun (u9 : va_W) => ty_V ct S ph u9) (cmB D ([(rd, .inr (6, [.null, .int 0, .null, .int 0, .int 0, .int 0, .int 0]))] ++ ws) sz (fun (u9 : va_W) => ([(ty_RD rd bt ln tg (0) (0) (0) (0))] ++ u9))) (va_A ([(rd, .inr (6, [.null, .int 0, .null, .int 0, .int 0, .int 0, .int 0]))] ++ ws) sz)) 0 0 (va_A ([(rd, .inr (6, [.null, .int 0, .null, .int 0, .int 0, .int 0, .int 0]))] ++ ws) sz) := by
  refine Met.ofW (cc := cX6_init) (maxL := 4) (ret := none) (by decide) rfl ?_
  intro p e s m args below meth c s₁ B hml hv
  obtain ⟨rfl, hsz, hP, hK, hD0, hX⟩ := hv
  have hx := B.exec
  have hb := B.bytes
  have hr := B.returns
  have hts := ws_all (atoms_spec (ws := ws_ yX6_init cX6_init 4 none) B.pre)
  have hown : s.vm.findClass RX6 = some m.cls := findClass_of_methodNamed B.named
  have hlocks := B.notSynchronized
  have hin : meth.name = "<init>" := (name_of_methodNamed B.named B.method).1
  subst hsz
  have hD := hD0.self (sz := s.heap.size)
  generalize hAe : va_A ([(rd, .inr (6, [.null, .int 0, .null, .int 0, .int 0, .int 0, .int 0]))] ++ ws) s.heap.size = A at hD hX ⊢
  have hA : ∀ q : Nat, s.heap.size ≤ q → A q := fun q h => by rw [← hAe]; exact Or.inr h
  have hS : va_S A s.heap s.heap [] := va_S.rf
  have hl := lv_entry ([.ref rd, .ref bt, .int ln, .ref tg]) (n := 4) (Nat.le_of_ble_eq_true rfl)
  rw [lg_entry_eq]
  generalize (lg_sl ([.ref rd, .ref bt, .int ln, .ref tg]) ++ List.replicate (4 - (lg_sl ([.ref rd, .ref bt, .int ln, .ref tg])).length) Slot.unset).toArray = ls at hl ⊢
  have hl : lv_has ls 4 [(0, .ref rd), (1, .ref bt), (2, .int ln), (3, .ref tg)] := hl
  refine lv_aload_n hx hb dX6_init_0 rfl (lv_at hl 0 rfl) ?_
  refine W.objInit hx hb hown (hts _ kl_RX6_3) (hts _ kv_java_lang_Object_init) (hts _ kc_java_lang_Object_init) rfl (by rw [hml]; exact hl.1) rfl dX6_init_1 (Nat.le_of_ble_eq_true rfl) (Nat.le_of_ble_eq_true rfl) ?_
  refine W.eq (g2 := F0 m 4 ls []) rfl ?_
  refine lv_aload_n hx hb dX6_init_4 rfl (lv_at hl 0 rfl) ?_
  refine lv_aload_n hx hb dX6_init_5 rfl (lv_at hl 1 rfl) ?_
  refine va_putF (v := .ref bt) (ty := (tyX6 0)) (D := D) (ci := 6) (C := RX6) (T := TX6) (N := 7) hx hb hts in_X6 tyX6 tyX6_ok nmX6 hown hK hP hD hS 0 rfl rfl 0 (by decide) (hts _ kl_RX6_9) (fun _ h9 => h9) rfl hin rfl (by decide +kernel) rfl rfl (Nat.le_of_ble_eq_true rfl) dX6_init_6 (fun H locs hP hD hS => ?_)
  have hP : va_P D vwCl ([(rd, .inr (6, [.ref bt, .int 0, .null, .int 0, .int 0, .int 0, .int 0]))] ++ ws) H := hP
  have hD : va_D A ([(rd, .inr (6, [.ref bt, .int 0, .null, .int 0, .int 0, .int 0, .int 0]))] ++ ws) := hD
  refine lv_aload_n hx hb dX6_init_9 rfl (lv_at hl 0 rfl) ?_
  refine lv_iload_n hx hb dX6_init_10 rfl (lv_at hl 2 rfl) ?_
  refine va_putF (v := .int ln) (ty := .int) (D := D) (ci := 6) (C := RX6) (T := TX6) (N := 7) hx hb hts in_X6 tyX6 tyX6_ok nmX6 hown hK hP hD hS 0 rfl rfl 1 (by decide) (hts _ kl_RX6_15) (fun _ h9 => h9) rfl hin rfl (by decide +kernel) rfl rfl (Nat.le_of_ble_eq_true rfl) dX6_init_11 (fun H locs hP hD hS => ?_)
  have hP : va_P D vwCl ([(rd, .inr (6, [.ref bt, .int ln, .null, .int 0, .int 0, .int 0, .int 0]))] ++ ws) H := hP
  have hD : va_D A ([(rd, .inr (6, [.ref bt, .int ln, .null, .int 0, .int 0, .int 0, .int 0]))] ++ ws) := hD
  refine lv_aload_n hx hb dX6_init_14 rfl (lv_at hl 0 rfl) ?_
  refine lv_aload_n hx hb dX6_init_15 rfl (lv_at hl 3 rfl) ?_
  refine va_putF (v := .ref tg) (ty := (tyX6 2)) (D := D) (ci := 6) (C := RX6) (T := TX6) (N := 7) hx hb hts in_X6 tyX6 tyX6_ok nmX6 hown hK hP hD hS 0 rfl rfl 2 (by decide) (hts _ kl_RX6_19) (fun _ h9 => h9) rfl hin rfl (by decide +kernel) rfl rfl (Nat.le_of_ble_eq_true rfl) dX6_init_16 (fun H locs hP hD hS => ?_)
  have hP : va_P D vwCl ([(ty_RD rd bt ln tg (0) (0) (0) (0))] ++ ws) H := hP
  have hD : va_D A ([(ty_RD rd bt ln tg (0) (0) (0) (0))] ++ ws) := hD
  exact W.vret hx hb hr (fun t ht hW => ⟨⟨ws, rfl, hT, by rw [ht]; exact hP, by rw [hAe]; exact hD⟩, hS.F ht⟩) hS.2.2 dX6_init_19
theorem dX10_shortest_0 : decode cX10_shortest 0 = .ok (.aload_n 0, 1) := by decide +kernel
theorem dX10_shortest_1 : decode cX10_shortest 1 = .ok (.iload_n 1, 1) := by decide +kernel
theorem dX10_shortest_2 : decode cX10_shortest 2 = .ok (.invokevirtual 172, 3) := by decide +kernel
theorem dX10_shortest_5 : decode cX10_shortest 5 = .ok (.pop, 1) := by decide +kernel
theorem dX10_shortest_6 : decode cX10_shortest 6 = .ok (.iconst (-1), 1) := by decide +kernel
theorem dX10_shortest_7 : decode cX10_shortest 7 = .ok (.istore_n 2, 1) := by decide +kernel
theorem dX10_shortest_8 : decode cX10_shortest 8 = .ok (.iconst 0, 1) := by decide +kernel
theorem dX10_shortest_9 : decode cX10_shortest 9 = .ok (.istore_n 3, 1) := by decide +kernel
theorem dX10_shortest_10 : decode cX10_shortest 10 = .ok (.iconst 0, 1) := by decide +kernel
theorem dX10_shortest_11 : decode cX10_shortest 11 = .ok (.istore 4, 2) := by decide +kernel
theorem dX10_shortest_13 : decode cX10_shortest 13 = .ok (.iload 4, 2) := by decide +kernel
theorem dX10_shortest_15 : decode cX10_shortest 15 = .ok (.aload_n 0, 1) := by decide +kernel
theorem dX10_shortest_16 : decode cX10_shortest 16 = .ok (.getfield 10, 3) := by decide +kernel
theorem dX10_shortest_19 : decode cX10_shortest 19 = .ok (.getfield 85, 3) := by decide +kernel
theorem dX10_shortest_22 : decode cX10_shortest 22 = .ok (.getfield 89, 3) := by decide +kernel
theorem dX10_shortest_25 : decode cX10_shortest 25 = .ok (.if_icmp .ge 46, 3) := by decide +kernel
theorem dX10_shortest_28 : decode cX10_shortest 28 = .ok (.aload_n 0, 1) := by decide +kernel
theorem dX10_shortest_29 : decode cX10_shortest 29 = .ok (.aload_n 0, 1) := by decide +kernel
theorem dX10_shortest_30 : decode cX10_shortest 30 = .ok (.iload_n 1, 1) := by decide +kernel
theorem dX10_shortest_31 : decode cX10_shortest 31 = .ok (.iload 4, 2) := by decide +kernel
theorem dX10_shortest_33 : decode cX10_shortest 33 = .ok (.invokevirtual 336, 3) := by decide +kernel
theorem dX10_shortest_36 : decode cX10_shortest 36 = .ok (.iconst 3, 1) := by decide +kernel
theorem dX10_shortest_37 : decode cX10_shortest 37 = .ok (.invokevirtual 324, 3) := by decide +kernel
theorem dX10_shortest_40 : decode cX10_shortest 40 = .ok (.istore 5, 2) := by decide +kernel
theorem dX10_shortest_42 : decode cX10_shortest 42 = .ok (.iload 5, 2) := by decide +kernel
theorem dX10_shortest_44 : decode cX10_shortest 44 = .ok (.iconst (-1), 1) := by decide +kernel
theorem dX10_shortest_45 : decode cX10_shortest 45 = .ok (.if_icmp .eq 20, 3) := by decide +kernel
theorem dX10_shortest_48 : decode cX10_shortest 48 = .ok (.iload_n 2, 1) := by decide +kernel
theorem dX10_shortest_49 : decode cX10_shortest 49 = .ok (.iconst (-1), 1) := by decide +kernel
theorem dX10_shortest_50 : decode cX10_shortest 50 = .ok (.if_icmp .eq 9, 3) := by decide +kernel
theorem dX10_shortest_53 : decode cX10_shortest 53 = .ok (.iload 5, 2) := by decide +kernel
theorem dX10_shortest_55 : decode cX10_shortest 55 = .ok (.iload_n 3, 1) := by decide +kernel
theorem dX10_shortest_56 : decode cX10_shortest 56 = .ok (.if_icmp .ge 9, 3) := by decide +kernel
theorem dX10_shortest_59 : decode cX10_shortest 59 = .ok (.iload 4, 2) := by decide +kernel
theorem dX10_shortest_61 : decode cX10_shortest 61 = .ok (.istore_n 2, 1) := by decide +kernel
theorem dX10_shortest_62 : decode cX10_shortest 62 = .ok (.iload 5, 2) := by decide +kernel
theorem dX10_shortest_64 : decode cX10_shortest 64 = .ok (.istore_n 3, 1) := by decide +kernel
theorem dX10_shortest_65 : decode cX10_shortest 65 = .ok (.iinc 4 1, 3) := by decide +kernel
theorem dX10_shortest_68 : decode cX10_shortest 68 = .ok (.goto (-55), 3) := by decide +kernel
theorem dX10_shortest_71 : decode cX10_shortest 71 = .ok (.iload_n 2, 1) := by decide +kernel
theorem dX10_shortest_72 : decode cX10_shortest 72 = .ok (.ireturn, 1) := by decide +kernel
set_option maxRecDepth 100000 in
set_option maxHeartbeats 4000000 in
theorem t_X10_shortest (l : Launch) (hfl : l.stackTraces = false) (D : va_G) (ct : Nat → ClassId) (S : ty_S) (ws : va_W) (ph : va_W → Prop) (xx : Nat → Nat → Nat → Prop) (x : Nat) (w : Nat) (sp : Nat) (sv : Nat) (bu : Nat) (ns : Nat) (bl : Int32) (le : Int32) (p1 : Int32) (sz : Nat) (hT : ty_V ct S ph ws) (h_w : S w = some (.inl 9)) (h_sp : S sp = some (.inl 9)) (h_sv : S sv = some (.inr (4, ns))) (hph : ty_C ph xx) (hy1 : ty_y1 xx) (hy2 : ty_y0 xx 2) (hy5 : ty_y0 xx 5) (hy7 : ty_yc xx 7) (hy11 : ty_y0 xx 11) (hys : xx 9 0 sp ∧ xx 9 4 sp) : vx_Met l yX10_shortest (ws_ yX10_shortest cX10_shortest 6 (some .int)) ({ frames := 8, cells := 5, slots := 30, locals := 212 } : Room) (va_Pc [.ref x, .int p1] (cmP D ct sz ([(ty_XO x w sp sv bu bl le)] ++ ws))) (va_Qi (fun (r : Int32) (u9 : va_W) => ty_V ct S ph u9) (cmB D ([(ty_XO x w sp sv bu bl le)] ++ ws) sz (fun (u9 : va_W) => ([(ty_XO x w sp sv bu bl le)] ++ u9))) (va_A ([(ty_XO x w sp sv bu bl le)] ++ ws) sz)) (vx_X (fun (u9 : va_W) => ty_V ct S ph u9) (cmBY D ([(ty_XO x w sp sv bu bl le)] ++ ws) sz ["java/lang/IndexOutOfBoundsException"] (fun (u9 : va_W) => ([(ty_XO x w sp sv bu bl le)] ++ u9))) (va_A ([(ty_XO x w sp sv bu bl le)] ++ ws) sz)) 5 30 (va_A ([(ty_XO x w sp sv bu bl le)] ++ ws) sz) := by
  refine vx_ofW (cc := cX10_shortest) (maxL := 6) (ret := (some .int)) (by decide) rfl ?_
  intro p e s m args below meth c s₁ B hml hex hv
  obtain ⟨rfl, hsz, hP, hK, hD0, hX⟩ := hv
  have hx := B.exec
  have hb := B.bytes
  have hr := B.returns
  have hts := ws_all (atoms_spec (ws := ws_ yX10_shortest cX10_shortest 6 (some .int)) B.pre)
  have hown : s.vm.findClass RX10 = some m.cls := findClass_of_methodNamed B.named
  have hlocks := B.notSynchronized
  subst hsz
  have hD := hD0.self (sz := s.heap.size)
  generalize hAe : va_A ([(ty_XO x w sp sv bu bl le)] ++ ws) s.heap.size = A at hD hX ⊢
  have hA : ∀ q : Nat, s.heap.size ≤ q → A q := fun q h => by rw [← hAe]; exact Or.inr h
  have hS : va_S A s.heap s.heap [] := va_S.rf
  have hl := lv_entry ([.ref x, .int p1]) (n := 6) (Nat.le_of_ble_eq_true rfl)
  rw [lg_entry_eq]
  generalize (lg_sl ([.ref x, .int p1]) ++ List.replicate (6 - (lg_sl ([.ref x, .int p1])).length) Slot.unset).toArray = ls at hl ⊢
  have hl : lv_has ls 6 [(0, .ref x), (1, .int p1)] := hl
  refine lv_aload_n hx hb dX10_shortest_0 rfl (lv_at hl 0 rfl) ?_
  refine lv_iload_n hx hb dX10_shortest_1 rfl (lv_at hl 1 rfl) ?_
  refine ty_xq (wr := []) (wc := ([(ty_XO x w sp sv bu bl le)] ++ ws)) (vx_runV (As := [.int p1]) (rest := []) ⟨hx, hb, hml, hown, hts⟩ (t_X10_needChannel l hfl D ct S ws ph xx x w sp sv bu ns bl le p1 _ hT h_w h_sp h_sv hph hy1) (cm_V 1 hts kc_X10_needChannel ki_RX10 kl_RX10_172 kv_X10_needChannel kx_X10_needChannel kd_X10_needChannel ⟨Nat.le_of_ble_eq_true rfl, Nat.le_of_ble_eq_true rfl⟩) (ty_preE (wr := []) (wc := ([(ty_XO x w sp sv bu bl le)] ++ ws)) (ci := 10) (q0 := 0) hP hK hD hS hA hX rfl rfl) rfl rfl hl.1 rfl (lv_room (Nat.le_of_ble_eq_true rfl)) dX10_shortest_2 ⟨Nat.le_of_ble_eq_true rfl, Nat.le_of_ble_eq_true rfl⟩) hP hD hS hA (fun E ce q9 u H locs hu hE hP hD hS hce hcv hcl => ?_) (fun r_1 u H locs hw_2 hP hD hS => ?_)
  · obtain ⟨ws_3, rfl⟩ : ∃ z, z = u := ⟨_, rfl⟩
    have hT := hu
    have hP : va_P D vwCl ([(ty_XO x w sp sv bu bl le)] ++ ws_3) H := hP
    have hD : va_D A ([(ty_XO x w sp sv bu bl le)] ++ ws_3) := hD
    exact vx_out (fun x hx => (hex x hx).elim) hlocks hce hcv hcl (fun t ht hW => ⟨ws_3, hT, ⟨hE, by rw [ht]; exact hP, by rw [hAe]; exact hD⟩, hS.F ht⟩) hS.2.2 (Nat.le_of_ble_eq_true rfl) (Nat.le_of_ble_eq_true rfl)
  · obtain ⟨ws_4, rfl⟩ : ∃ z, z = u := ⟨_, rfl⟩
    obtain ⟨hT, hq_5⟩ := hw_2
    have hP : va_P D vwCl ([(ty_XO x w sp sv bu bl le)] ++ ws_4) H := hP
    have hD : va_D A ([(ty_XO x w sp sv bu bl le)] ++ ws_4) := hD
    refine W.widen (k := 1) (n := 6) (Nat.le_of_ble_eq_true rfl) (Nat.le_of_ble_eq_true rfl) ?_
    obtain ⟨a_6, rfl, ha_7⟩ := hq_5
    refine W.eq (g2 := F0 m 5 ls (.ref a_6 :: [])) rfl ?_
    refine lv_pop hx hb dX10_shortest_5 rfl ?_
    refine lv_iconst (v := (-1)) hx hb dX10_shortest_6 (by decide) ?_
    refine lv_istore_n (lv' := [(2, .int (-1)), (0, .ref x), (1, .int p1)]) hx hb dX10_shortest_7 rfl hl (by decide) rfl (fun ls hl => ?_)
    refine lv_iconst (v := 0) hx hb dX10_shortest_8 (by decide) ?_
    refine lv_istore_n (lv' := [(3, .int 0), (2, .int (-1)), (0, .ref x), (1, .int p1)]) hx hb dX10_shortest_9 rfl hl (by decide) rfl (fun ls hl => ?_)
    refine lv_iconst (v := 0) hx hb dX10_shortest_10 (by decide) ?_
    refine lv_istore (lv' := [(4, .int 0), (3, .int 0), (2, .int (-1)), (0, .ref x), (1, .int p1)]) hx hb dX10_shortest_11 hl (by decide) rfl (fun ls hl => ?_)
    refine ty_cut (I := fun H locs ls => ∃ (ws : va_W) (y2 y3 : Int32), ty_V ct S ph ws ∧ va_P D vwCl ([(ty_XO x w sp sv bu bl le)] ++ ws) H ∧ va_D A ([(ty_XO x w sp sv bu bl le)] ++ ws) ∧ va_S A s.heap H locs ∧ lv_has ls 6 [(0, .ref x), (1, .int p1), (2, .int y2), (3, .int y3), (4, .int 4)]) (cells' := 5) (slots' := 30) (pc' := 13) (rest' := []) (fun K_4 => ?_) (fun H locs ls hI => ?_)
    · refine ty_cut (I := fun H locs ls => ∃ (ws : va_W) (y2 y3 : Int32), ty_V ct S ph ws ∧ va_P D vwCl ([(ty_XO x w sp sv bu bl le)] ++ ws) H ∧ va_D A ([(ty_XO x w sp sv bu bl le)] ++ ws) ∧ va_S A s.heap H locs ∧ lv_has ls 6 [(0, .ref x), (1, .int p1), (2, .int y2), (3, .int y3), (4, .int 3)]) (cells' := 4) (slots' := 24) (pc' := 13) (rest' := []) (fun K_3 => ?_) (fun H locs ls hI => ?_)
      · refine ty_cut (I := fun H locs ls => ∃ (ws : va_W) (y2 y3 : Int32), ty_V ct S ph ws ∧ va_P D vwCl ([(ty_XO x w sp sv bu bl le)] ++ ws) H ∧ va_D A ([(ty_XO x w sp sv bu bl le)] ++ ws) ∧ va_S A s.heap H locs ∧ lv_has ls 6 [(0, .ref x), (1, .int p1), (2, .int y2), (3, .int y3), (4, .int 2)]) (cells' := 3) (slots' := 18) (pc' := 13) (rest' := []) (fun K_2 => ?_) (fun H locs ls hI => ?_)
        · refine ty_cut (I := fun H locs ls => ∃ (ws : va_W) (y2 y3 : Int32), ty_V ct S ph ws ∧ va_P D vwCl ([(ty_XO x w sp sv bu bl le)] ++ ws) H ∧ va_D A ([(ty_XO x w sp sv bu bl le)] ++ ws) ∧ va_S A s.heap H locs ∧ lv_has ls 6 [(0, .ref x), (1, .int p1), (2, .int y2), (3, .int y3), (4, .int 1)]) (cells' := 2) (slots' := 12) (pc' := 13) (rest' := []) (fun K_1 => ?_) (fun H locs ls hI => ?_)
          · refine lv_iload hx hb dX10_shortest_13 (lv_at hl 0 rfl) ?_
            refine lv_aload_n hx hb dX10_shortest_15 rfl (lv_at hl 3 rfl) ?_
            refine va_get (v := .ref w) (D := D) (ci := 10) (C := RX10) (T := TX10) (N := 6) hx hb hts in_X10 hown hK hP 0 rfl rfl 0 (by decide) (hts _ kl_RX10_10) (fun _ h9 => h9) rfl dX10_shortest_16 ?_
            refine ty_getN (E := [(ty_XO x w sp sv bu bl le)]) (ws := ws_4) (D := D) (ci := 9) (C := RX9) (T := TX9) (N := 8) hx hb hts in_X9 hown hK hP hT h_w rfl 3 (by decide) (hts _ kl_RX10_85) (fun _ h9 => h9) rfl dX10_shortest_19 (fun _ hv_8 hf_9 => ?_)
            obtain ⟨a_10, rfl, ha_11⟩ := hv_8
            refine ty_getN (E := [(ty_XO x w sp sv bu bl le)]) (ws := ws_4) (D := D) (ci := 5) (C := RX5) (T := TX5) (N := 5) hx hb hts in_X5 hown hK hP hT ha_11 rfl 0 (by decide) (hts _ kl_RX10_89) (fun _ h9 => h9) rfl dX10_shortest_22 (fun _ hv_12 hf_13 => ?_)
            obtain ⟨x_14, rfl, hz_15⟩ := hv_12
            refine lv_icmp_ge (tgt := 71) hx hb dX10_shortest_25 (by decide) (fun hc_16 => ?_) (fun hc_16 => ?_)
            · refine lv_iload_n hx hb dX10_shortest_71 rfl (lv_at hl 2 rfl) ?_
              refine W.widen (k := 5) (n := 30) (Nat.le_of_ble_eq_true rfl) (Nat.le_of_ble_eq_true rfl) ?_
              refine vx_ret ?_
              exact W.iret (v := (-1)) hx hb hr (fun t ht hW => ⟨⟨(-1), ws_4, rfl, hT, by rw [ht]; exact hP, by rw [hAe]; exact hD⟩, hS.F ht⟩) hS.2.2 dX10_shortest_72
            · refine lv_aload_n hx hb dX10_shortest_28 rfl (lv_at hl 3 rfl) ?_
              refine lv_aload_n hx hb dX10_shortest_29 rfl (lv_at hl 3 rfl) ?_
              refine lv_iload_n hx hb dX10_shortest_30 rfl (lv_at hl 4 rfl) ?_
              refine lv_iload hx hb dX10_shortest_31 (lv_at hl 0 rfl) ?_
              refine ty_xq (wr := []) (wc := ([(ty_XO x w sp sv bu bl le)] ++ ws_4)) (vx_runV (As := [.int p1, .int 0]) (rest := [.ref x]) ⟨hx, hb, hml, hown, hts⟩ (t_X10_needTrialOf l hfl D ct S ws_4 ph xx x w sp sv bu ns bl le p1 (0 : Int32) _ hT h_w h_sp h_sv hph hy1 hy2 hy5 hy7 hy11 hys) (cm_V 2 hts kc_X10_needTrialOf ki_RX10 kl_RX10_336 kv_X10_needTrialOf kx_X10_needTrialOf kd_X10_needTrialOf ⟨Nat.le_of_ble_eq_true rfl, Nat.le_of_ble_eq_true rfl⟩) (ty_preE (wr := []) (wc := ([(ty_XO x w sp sv bu bl le)] ++ ws_4)) (ci := 10) (q0 := 0) hP hK hD hS hA hX rfl rfl) rfl rfl hl.1 rfl (lv_room (Nat.le_of_ble_eq_true rfl)) dX10_shortest_33 ⟨Nat.le_of_ble_eq_true rfl, Nat.le_of_ble_eq_true rfl⟩) hP hD hS hA (fun E ce q9 u H locs hu hE hP hD hS hce hcv hcl => ?_) (fun r_17 u H locs hw_18 hP hD hS => ?_)
              · obtain ⟨ws_19, rfl⟩ : ∃ z, z = u := ⟨_, rfl⟩
                have hT := hu
                have hP : va_P D vwCl ([(ty_XO x w sp sv bu bl le)] ++ ws_19) H := hP
                have hD : va_D A ([(ty_XO x w sp sv bu bl le)] ++ ws_19) := hD
                exact vx_out (fun x hx => (hex x hx).elim) hlocks hce hcv hcl (fun t ht hW => ⟨ws_19, hT, ⟨hE, by rw [ht]; exact hP, by rw [hAe]; exact hD⟩, hS.F ht⟩) hS.2.2 (Nat.le_of_ble_eq_true rfl) (Nat.le_of_ble_eq_true rfl)
              · obtain ⟨ws_20, rfl⟩ : ∃ z, z = u := ⟨_, rfl⟩
                obtain ⟨hT, hq_21⟩ := hw_18
                have hP : va_P D vwCl ([(ty_XO x w sp sv bu bl le)] ++ ws_20) H := hP
                have hD : va_D A ([(ty_XO x w sp sv bu bl le)] ++ ws_20) := hD
                refine W.widen (k := 2) (n := 12) (Nat.le_of_ble_eq_true rfl) (Nat.le_of_ble_eq_true rfl) ?_
                obtain ⟨a_22, rfl, ha_23⟩ := hq_21
                refine W.eq (g2 := F0 m 36 ls (.ref a_22 :: [.ref x])) rfl ?_
                refine lv_iconst (v := 3) hx hb dX10_shortest_36 (by decide) ?_
                refine ty_ki (wr := []) (wc := ([(ty_XO x w sp sv bu bl le)] ++ ws_20)) (va_runV (As := [.ref a_22, .int 3]) (rest := []) ⟨hx, hb, hml, hown, hts⟩ (t_X10_ticksUntil l D ct S ws_20 ph xx x w sp sv bu ns bl le a_22 (3 : Int32) _ hT h_w h_sp h_sv ha_23 hph hy1) (cm_V 2 hts kc_X10_ticksUntil ki_RX10 kl_RX10_324 kv_X10_ticksUntil kx_X10_ticksUntil kd_X10_ticksUntil ⟨Nat.le_of_ble_eq_true rfl, Nat.le_of_ble_eq_true rfl⟩) (ty_preE (wr := []) (wc := ([(ty_XO x w sp sv bu bl le)] ++ ws_20)) (ci := 10) (q0 := 0) hP hK hD hS hA hX rfl rfl) rfl rfl hl.1 rfl (lv_room (Nat.le_of_ble_eq_true rfl)) dX10_shortest_37 ⟨Nat.le_of_ble_eq_true rfl, Nat.le_of_ble_eq_true rfl⟩) hP hD hS hA (fun r_24 u H locs hw_25 hP hD hS => ?_)
                obtain ⟨ws_26, rfl⟩ : ∃ z, z = u := ⟨_, rfl⟩
                have hT := hw_25
                have hP : va_P D vwCl ([(ty_XO x w sp sv bu bl le)] ++ ws_26) H := hP
                have hD : va_D A ([(ty_XO x w sp sv bu bl le)] ++ ws_26) := hD
                refine lv_istore (lv' := [(5, .int r_24), (4, .int 0), (3, .int 0), (2, .int (-1)), (0, .ref x), (1, .int p1)]) hx hb dX10_shortest_40 hl (by decide) rfl (fun ls hl => ?_)
                refine lv_iload hx hb dX10_shortest_42 (lv_at hl 0 rfl) ?_
                refine lv_iconst (v := (-1)) hx hb dX10_shortest_44 (by decide) ?_
                refine lv_icmp_eq (tgt := 65) hx hb dX10_shortest_45 (by decide) (fun hc_27 => ?_) (fun hc_27 => ?_)
                · refine lv_iinc (v := 1) (lv' := [(4, .int 1), (5, .int r_24), (3, .int 0), (2, .int (-1)), (0, .ref x), (1, .int p1)]) hx hb dX10_shortest_65 hl (k := 1) rfl (by decide) (by decide) rfl (fun ls hl => ?_)
                  refine lv_goto (tgt := 13) hx hb dX10_shortest_68 (by decide) ?_
                  exact K_1 _ _ _ ⟨ws_26, ((-1) : Int32), (0 : Int32), hT, hP, hD, hS, (lv_sub hl [4, 5, 3, 2, 0] rfl)⟩
                · refine lv_iload_n hx hb dX10_shortest_48 rfl (lv_at hl 3 rfl) ?_
                  refine lv_iconst (v := (-1)) hx hb dX10_shortest_49 (by decide) ?_
                  refine lv_icmp_eq (tgt := 59) hx hb dX10_shortest_50 (by decide) (fun _ => ?_) (fun hc => absurd (by decide) hc)
                  refine lv_iload hx hb dX10_shortest_59 (lv_at hl 1 rfl) ?_
                  refine lv_istore_n (lv' := [(2, .int 0), (5, .int r_24), (4, .int 0), (3, .int 0), (0, .ref x), (1, .int p1)]) hx hb dX10_shortest_61 rfl hl (by decide) rfl (fun ls hl => ?_)
                  refine lv_iload hx hb dX10_shortest_62 (lv_at hl 1 rfl) ?_
                  refine lv_istore_n (lv' := [(3, .int r_24), (2, .int 0), (5, .int r_24), (4, .int 0), (0, .ref x), (1, .int p1)]) hx hb dX10_shortest_64 rfl hl (by decide) rfl (fun ls hl => ?_)
                  refine lv_iinc (v := 1) (lv' := [(4, .int 1), (3, .int r_24), (2, .int 0), (5, .int r_24), (0, .ref x), (1, .int p1)]) hx hb dX10_shortest_65 hl (k := 3) rfl (by decide) (by decide) rfl (fun ls hl => ?_)
                  refine lv_goto (tgt := 13) hx hb dX10_shortest_68 (by decide) ?_
                  exact K_1 _ _ _ ⟨ws_26, (0 : Int32), r_24, hT, hP, hD, hS, (lv_sub hl [4, 5, 2, 1, 0] rfl)⟩
          · obtain ⟨ws, y2, y3, hT, hP, hD, hS, hl⟩ := hI
            refine lv_iload hx hb dX10_shortest_13 (lv_at hl 4 rfl) ?_
            refine lv_aload_n hx hb dX10_shortest_15 rfl (lv_at hl 0 rfl) ?_
            refine va_get (v := .ref w) (D := D) (ci := 10) (C := RX10) (T := TX10) (N := 6) hx hb hts in_X10 hown hK hP 0 rfl rfl 0 (by decide) (hts _ kl_RX10_10) (fun _ h9 => h9) rfl dX10_shortest_16 ?_
            refine ty_getN (E := [(ty_XO x w sp sv bu bl le)]) (ws := ws) (D := D) (ci := 9) (C := RX9) (T := TX9) (N := 8) hx hb hts in_X9 hown hK hP hT h_w rfl 3 (by decide) (hts _ kl_RX10_85) (fun _ h9 => h9) rfl dX10_shortest_19 (fun _ hv_28 hf_29 => ?_)
            obtain ⟨a_30, rfl, ha_31⟩ := hv_28
            refine ty_getN (E := [(ty_XO x w sp sv bu bl le)]) (ws := ws) (D := D) (ci := 5) (C := RX5) (T := TX5) (N := 5) hx hb hts in_X5 hown hK hP hT ha_31 rfl 0 (by decide) (hts _ kl_RX10_89) (fun _ h9 => h9) rfl dX10_shortest_22 (fun _ hv_32 hf_33 => ?_)
            obtain ⟨x_34, rfl, hz_35⟩ := hv_32
            refine lv_icmp_ge (tgt := 71) hx hb dX10_shortest_25 (by decide) (fun hc_36 => ?_) (fun hc_36 => ?_)
            · refine lv_iload_n hx hb dX10_shortest_71 rfl (lv_at hl 2 rfl) ?_
              refine W.widen (k := 5) (n := 30) (Nat.le_of_ble_eq_true rfl) (Nat.le_of_ble_eq_true rfl) ?_
              refine vx_ret ?_
              exact W.iret (v := y2) hx hb hr (fun t ht hW => ⟨⟨y2, ws, rfl, hT, by rw [ht]; exact hP, by rw [hAe]; exact hD⟩, hS.F ht⟩) hS.2.2 dX10_shortest_72
            · refine lv_aload_n hx hb dX10_shortest_28 rfl (lv_at hl 0 rfl) ?_
              refine lv_aload_n hx hb dX10_shortest_29 rfl (lv_at hl 0 rfl) ?_
              refine lv_iload_n hx hb dX10_shortest_30 rfl (lv_at hl 1 rfl) ?_
              refine lv_iload hx hb dX10_shortest_31 (lv_at hl 4 rfl) ?_
              refine ty_xq (wr := []) (wc := ([(ty_XO x w sp sv bu bl le)] ++ ws)) (vx_runV (As := [.int p1, .int 1]) (rest := [.ref x]) ⟨hx, hb, hml, hown, hts⟩ (t_X10_needTrialOf l hfl D ct S ws ph xx x w sp sv bu ns bl le p1 (1 : Int32) _ hT h_w h_sp h_sv hph hy1 hy2 hy5 hy7 hy11 hys) (cm_V 2 hts kc_X10_needTrialOf ki_RX10 kl_RX10_336 kv_X10_needTrialOf kx_X10_needTrialOf kd_X10_needTrialOf ⟨Nat.le_of_ble_eq_true rfl, Nat.le_of_ble_eq_true rfl⟩) (ty_preE (wr := []) (wc := ([(ty_XO x w sp sv bu bl le)] ++ ws)) (ci := 10) (q0 := 0) hP hK hD hS hA hX rfl rfl) rfl rfl hl.1 rfl (lv_room (Nat.le_of_ble_eq_true rfl)) dX10_shortest_33 ⟨Nat.le_of_ble_eq_true rfl, Nat.le_of_ble_eq_true rfl⟩) hP hD hS hA (fun E ce q9 u H locs hu hE hP hD hS hce hcv hcl => ?_) (fun r_37 u H locs hw_38 hP hD hS => ?_)
              · obtain ⟨ws_39, rfl⟩ : ∃ z, z = u := ⟨_, rfl⟩
                have hT := hu
                have hP : va_P D vwCl ([(ty_XO x w sp sv bu bl le)] ++ ws_39) H := hP
                have hD : va_D A ([(ty_XO x w sp sv bu bl le)] ++ ws_39) := hD
                exact vx_out (fun x hx => (hex x hx).elim) hlocks hce hcv hcl (fun t ht hW => ⟨ws_39, hT, ⟨hE, by rw [ht]; exact hP, by rw [hAe]; exact hD⟩, hS.F ht⟩) hS.2.2 (Nat.le_of_ble_eq_true rfl) (Nat.le_of_ble_eq_true rfl)
              · obtain ⟨ws_40, rfl⟩ : ∃ z, z = u := ⟨_, rfl⟩
                obtain ⟨hT, hq_41⟩ := hw_38
                have hP : va_P D vwCl ([(ty_XO x w sp sv bu bl le)] ++ ws_40) H := hP
                have hD : va_D A ([(ty_XO x w sp sv bu bl le)] ++ ws_40) := hD
                refine W.widen (k := 3) (n := 18) (Nat.le_of_ble_eq_true rfl) (Nat.le_of_ble_eq_true rfl) ?_
                obtain ⟨a_42, rfl, ha_43⟩ := hq_41
                refine W.eq (g2 := F0 m 36 ls (.ref a_42 :: [.ref x])) rfl ?_
                refine lv_iconst (v := 3) hx hb dX10_shortest_36 (by decide) ?_
                refine ty_ki (wr := []) (wc := ([(ty_XO x w sp sv bu bl le)] ++ ws_40)) (va_runV (As := [.ref a_42, .int 3]) (rest := []) ⟨hx, hb, hml, hown, hts⟩ (t_X10_ticksUntil l D ct S ws_40 ph xx x w sp sv bu ns bl le a_42 (3 : Int32) _ hT h_w h_sp h_sv ha_43 hph hy1) (cm_V 2 hts kc_X10_ticksUntil ki_RX10 kl_RX10_324 kv_X10_ticksUntil kx_X10_ticksUntil kd_X10_ticksUntil ⟨Nat.le_of_ble_eq_true rfl, Nat.le_of_ble_eq_true rfl⟩) (ty_preE (wr := []) (wc := ([(ty_XO x w sp sv bu bl le)] ++ ws_40)) (ci := 10) (q0 := 0) hP hK hD hS hA hX rfl rfl) rfl rfl hl.1 rfl (lv_room (Nat.le_of_ble_eq_true rfl)) dX10_shortest_37 ⟨Nat.le_of_ble_eq_true rfl, Nat.le_of_ble_eq_true rfl⟩) hP hD hS hA (fun r_44 u H locs hw_45 hP hD hS => ?_)
                obtain ⟨ws_46, rfl⟩ : ∃ z, z = u := ⟨_, rfl⟩
                have hT := hw_45
                have hP : va_P D vwCl ([(ty_XO x w sp sv bu bl le)] ++ ws_46) H := hP
                have hD : va_D A ([(ty_XO x w sp sv bu bl le)] ++ ws_46) := hD
                refine lv_istore (lv' := [(5, .int r_44), (0, .ref x), (1, .int p1), (2, .int y2), (3, .int y3), (4, .int 1)]) hx hb dX10_shortest_40 hl (by decide) rfl (fun ls hl => ?_)
                refine lv_iload hx hb dX10_shortest_42 (lv_at hl 0 rfl) ?_
                refine lv_iconst (v := (-1)) hx hb dX10_shortest_44 (by decide) ?_
                refine lv_icmp_eq (tgt := 65) hx hb dX10_shortest_45 (by decide) (fun hc_47 => ?_) (fun hc_47 => ?_)
                · refine lv_iinc (v := 2) (lv' := [(4, .int 2), (5, .int r_44), (0, .ref x), (1, .int p1), (2, .int y2), (3, .int y3)]) hx hb dX10_shortest_65 hl (k := 5) rfl (by decide) (by decide) rfl (fun ls hl => ?_)
                  refine lv_goto (tgt := 13) hx hb dX10_shortest_68 (by decide) ?_
                  exact K_2 _ _ _ ⟨ws_46, y2, y3, hT, hP, hD, hS, (lv_sub hl [2, 3, 4, 5, 0] rfl)⟩
                · refine lv_iload_n hx hb dX10_shortest_48 rfl (lv_at hl 3 rfl) ?_
                  refine lv_iconst (v := (-1)) hx hb dX10_shortest_49 (by decide) ?_
                  refine lv_icmp_eq (tgt := 59) hx hb dX10_shortest_50 (by decide) (fun hc_48 => ?_) (fun hc_48 => ?_)
                  · refine lv_iload hx hb dX10_shortest_59 (lv_at hl 5 rfl) ?_
                    refine lv_istore_n (lv' := [(2, .int 1), (5, .int r_44), (0, .ref x), (1, .int p1), (3, .int y3), (4, .int 1)]) hx hb dX10_shortest_61 rfl hl (by decide) rfl (fun ls hl => ?_)
                    refine lv_iload hx hb dX10_shortest_62 (lv_at hl 1 rfl) ?_
                    refine lv_istore_n (lv' := [(3, .int r_44), (2, .int 1), (5, .int r_44), (0, .ref x), (1, .int p1), (4, .int 1)]) hx hb dX10_shortest_64 rfl hl (by decide) rfl (fun ls hl => ?_)
                    refine lv_iinc (v := 2) (lv' := [(4, .int 2), (3, .int r_44), (2, .int 1), (5, .int r_44), (0, .ref x), (1, .int p1)]) hx hb dX10_shortest_65 hl (k := 5) rfl (by decide) (by decide) rfl (fun ls hl => ?_)
                    refine lv_goto (tgt := 13) hx hb dX10_shortest_68 (by decide) ?_
                    exact K_2 _ _ _ ⟨ws_46, (1 : Int32), r_44, hT, hP, hD, hS, (lv_sub hl [4, 5, 2, 1, 0] rfl)⟩
                  · refine lv_iload hx hb dX10_shortest_53 (lv_at hl 0 rfl) ?_
                    refine lv_iload_n hx hb dX10_shortest_55 rfl (lv_at hl 4 rfl) ?_
                    refine lv_icmp_ge (tgt := 65) hx hb dX10_shortest_56 (by decide) (fun hc_49 => ?_) (fun hc_49 => ?_)
                    · refine lv_iinc (v := 2) (lv' := [(4, .int 2), (5, .int r_44), (0, .ref x), (1, .int p1), (2, .int y2), (3, .int y3)]) hx hb dX10_shortest_65 hl (k := 5) rfl (by decide) (by decide) rfl (fun ls hl => ?_)
                      refine lv_goto (tgt := 13) hx hb dX10_shortest_68 (by decide) ?_
                      exact K_2 _ _ _ ⟨ws_46, y2, y3, hT, hP, hD, hS, (lv_sub hl [2, 3, 4, 5, 0] rfl)⟩
                    · refine lv_iload hx hb dX10_shortest_59 (lv_at hl 5 rfl) ?_
                      refine lv_istore_n (lv' := [(2, .int 1), (5, .int r_44), (0, .ref x), (1, .int p1), (3, .int y3), (4, .int 1)]) hx hb dX10_shortest_61 rfl hl (by decide) rfl (fun ls hl => ?_)
                      refine lv_iload hx hb dX10_shortest_62 (lv_at hl 1 rfl) ?_
                      refine lv_istore_n (lv' := [(3, .int r_44), (2, .int 1), (5, .int r_44), (0, .ref x), (1, .int p1), (4, .int 1)]) hx hb dX10_shortest_64 rfl hl (by decide) rfl (fun ls hl => ?_)
                      refine lv_iinc (v := 2) (lv' := [(4, .int 2), (3, .int r_44), (2, .int 1), (5, .int r_44), (0, .ref x), (1, .int p1)]) hx hb dX10_shortest_65 hl (k := 5) rfl (by decide) (by decide) rfl (fun ls hl => ?_)
                      refine lv_goto (tgt := 13) hx hb dX10_shortest_68 (by decide) ?_
                      exact K_2 _ _ _ ⟨ws_46, (1 : Int32), r_44, hT, hP, hD, hS, (lv_sub hl [4, 5, 2, 1, 0] rfl)⟩
        · obtain ⟨ws, y2, y3, hT, hP, hD, hS, hl⟩ := hI
          refine lv_iload hx hb dX10_shortest_13 (lv_at hl 4 rfl) ?_
          refine lv_aload_n hx hb dX10_shortest_15 rfl (lv_at hl 0 rfl) ?_
          refine va_get (v := .ref w) (D := D) (ci := 10) (C := RX10) (T := TX10) (N := 6) hx hb hts in_X10 hown hK hP 0 rfl rfl 0 (by decide) (hts _ kl_RX10_10) (fun _ h9 => h9) rfl dX10_shortest_16 ?_
          refine ty_getN (E := [(ty_XO x w sp sv bu bl le)]) (ws := ws) (D := D) (ci := 9) (C := RX9) (T := TX9) (N := 8) hx hb hts in_X9 hown hK hP hT h_w rfl 3 (by decide) (hts _ kl_RX10_85) (fun _ h9 => h9) rfl dX10_shortest_19 (fun _ hv_50 hf_51 => ?_)
          obtain ⟨a_52, rfl, ha_53⟩ := hv_50
          refine ty_getN (E := [(ty_XO x w sp sv bu bl le)]) (ws := ws) (D := D) (ci := 5) (C := RX5) (T := TX5) (N := 5) hx hb hts in_X5 hown hK hP hT ha_53 rfl 0 (by decide) (hts _ kl_RX10_89) (fun _ h9 => h9) rfl dX10_shortest_22 (fun _ hv_54 hf_55 => ?_)
          obtain ⟨x_56, rfl, hz_57⟩ := hv_54
          refine lv_icmp_ge (tgt := 71) hx hb dX10_shortest_25 (by decide) (fun hc_58 => ?_) (fun hc_58 => ?_)
          · refine lv_iload_n hx hb dX10_shortest_71 rfl (lv_at hl 2 rfl) ?_
            refine W.widen (k := 5) (n := 30) (Nat.le_of_ble_eq_true rfl) (Nat.le_of_ble_eq_true rfl) ?_
            refine vx_ret ?_
            exact W.iret (v := y2) hx hb hr (fun t ht hW => ⟨⟨y2, ws, rfl, hT, by rw [ht]; exact hP, by rw [hAe]; exact hD⟩, hS.F ht⟩) hS.2.2 dX10_shortest_72
          · refine lv_aload_n hx hb dX10_shortest_28 rfl (lv_at hl 0 rfl) ?_
            refine lv_aload_n hx hb dX10_shortest_29 rfl (lv_at hl 0 rfl) ?_
            refine lv_iload_n hx hb dX10_shortest_30 rfl (lv_at hl 1 rfl) ?_
            refine lv_iload hx hb dX10_shortest_31 (lv_at hl 4 rfl) ?_
            refine ty_xq (wr := []) (wc := ([(ty_XO x w sp sv bu bl le)] ++ ws)) (vx_runV (As := [.int p1, .int 2]) (rest := [.ref x]) ⟨hx, hb, hml, hown, hts⟩ (t_X10_needTrialOf l hfl D ct S ws ph xx x w sp sv bu ns bl le p1 (2 : Int32) _ hT h_w h_sp h_sv hph hy1 hy2 hy5 hy7 hy11 hys) (cm_V 2 hts kc_X10_needTrialOf ki_RX10 kl_RX10_336 kv_X10_needTrialOf kx_X10_needTrialOf kd_X10_needTrialOf ⟨Nat.le_of_ble_eq_true rfl, Nat.le_of_ble_eq_true rfl⟩) (ty_preE (wr := []) (wc := ([(ty_XO x w sp sv bu bl le)] ++ ws)) (ci := 10) (q0 := 0) hP hK hD hS hA hX rfl rfl) rfl rfl hl.1 rfl (lv_room (Nat.le_of_ble_eq_true rfl)) dX10_shortest_33 ⟨Nat.le_of_ble_eq_true rfl, Nat.le_of_ble_eq_true rfl⟩) hP hD hS hA (fun E ce q9 u H locs hu hE hP hD hS hce hcv hcl => ?_) (fun r_59 u H locs hw_60 hP hD hS => ?_)
            · obtain ⟨ws_61, rfl⟩ : ∃ z, z = u := ⟨_, rfl⟩
              have hT := hu
              have hP : va_P D vwCl ([(ty_XO x w sp sv bu bl le)] ++ ws_61) H := hP
              have hD : va_D A ([(ty_XO x w sp sv bu bl le)] ++ ws_61) := hD
              exact vx_out (fun x hx => (hex x hx).elim) hlocks hce hcv hcl (fun t ht hW => ⟨ws_61, hT, ⟨hE, by rw [ht]; exact hP, by rw [hAe]; exact hD⟩, hS.F ht⟩) hS.2.2 (Nat.le_of_ble_eq_true rfl) (Nat.le_of_ble_eq_true rfl)
            · obtain ⟨ws_62, rfl⟩ : ∃ z, z = u := ⟨_, rfl⟩
              obtain ⟨hT, hq_63⟩ := hw_60
              have hP : va_P D vwCl ([(ty_XO x w sp sv bu bl le)] ++ ws_62) H := hP
              have hD : va_D A ([(ty_XO x w sp sv bu bl le)] ++ ws_62) := hD
              refine W.widen (k := 4) (n := 24) (Nat.le_of_ble_eq_true rfl) (Nat.le_of_ble_eq_true rfl) ?_
              obtain ⟨a_64, rfl, ha_65⟩ := hq_63
              refine W.eq (g2 := F0 m 36 ls (.ref a_64 :: [.ref x])) rfl ?_
              refine lv_iconst (v := 3) hx hb dX10_shortest_36 (by decide) ?_
              refine ty_ki (wr := []) (wc := ([(ty_XO x w sp sv bu bl le)] ++ ws_62)) (va_runV (As := [.ref a_64, .int 3]) (rest := []) ⟨hx, hb, hml, hown, hts⟩ (t_X10_ticksUntil l D ct S ws_62 ph xx x w sp sv bu ns bl le a_64 (3 : Int32) _ hT h_w h_sp h_sv ha_65 hph hy1) (cm_V 2 hts kc_X10_ticksUntil ki_RX10 kl_RX10_324 kv_X10_ticksUntil kx_X10_ticksUntil kd_X10_ticksUntil ⟨Nat.le_of_ble_eq_true rfl, Nat.le_of_ble_eq_true rfl⟩) (ty_preE (wr := []) (wc := ([(ty_XO x w sp sv bu bl le)] ++ ws_62)) (ci := 10) (q0 := 0) hP hK hD hS hA hX rfl rfl) rfl rfl hl.1 rfl (lv_room (Nat.le_of_ble_eq_true rfl)) dX10_shortest_37 ⟨Nat.le_of_ble_eq_true rfl, Nat.le_of_ble_eq_true rfl⟩) hP hD hS hA (fun r_66 u H locs hw_67 hP hD hS => ?_)
              obtain ⟨ws_68, rfl⟩ : ∃ z, z = u := ⟨_, rfl⟩
              have hT := hw_67
              have hP : va_P D vwCl ([(ty_XO x w sp sv bu bl le)] ++ ws_68) H := hP
              have hD : va_D A ([(ty_XO x w sp sv bu bl le)] ++ ws_68) := hD
              refine lv_istore (lv' := [(5, .int r_66), (0, .ref x), (1, .int p1), (2, .int y2), (3, .int y3), (4, .int 2)]) hx hb dX10_shortest_40 hl (by decide) rfl (fun ls hl => ?_)
              refine lv_iload hx hb dX10_shortest_42 (lv_at hl 0 rfl) ?_
              refine lv_iconst (v := (-1)) hx hb dX10_shortest_44 (by decide) ?_
              refine lv_icmp_eq (tgt := 65) hx hb dX10_shortest_45 (by decide) (fun hc_69 => ?_) (fun hc_69 => ?_)
              · refine lv_iinc (v := 3) (lv' := [(4, .int 3), (5, .int r_66), (0, .ref x), (1, .int p1), (2, .int y2), (3, .int y3)]) hx hb dX10_shortest_65 hl (k := 5) rfl (by decide) (by decide) rfl (fun ls hl => ?_)
                refine lv_goto (tgt := 13) hx hb dX10_shortest_68 (by decide) ?_
                exact K_3 _ _ _ ⟨ws_68, y2, y3, hT, hP, hD, hS, (lv_sub hl [2, 3, 4, 5, 0] rfl)⟩
              · refine lv_iload_n hx hb dX10_shortest_48 rfl (lv_at hl 3 rfl) ?_
                refine lv_iconst (v := (-1)) hx hb dX10_shortest_49 (by decide) ?_
                refine lv_icmp_eq (tgt := 59) hx hb dX10_shortest_50 (by decide) (fun hc_70 => ?_) (fun hc_70 => ?_)
                · refine lv_iload hx hb dX10_shortest_59 (lv_at hl 5 rfl) ?_
                  refine lv_istore_n (lv' := [(2, .int 2), (5, .int r_66), (0, .ref x), (1, .int p1), (3, .int y3), (4, .int 2)]) hx hb dX10_shortest_61 rfl hl (by decide) rfl (fun ls hl => ?_)
                  refine lv_iload hx hb dX10_shortest_62 (lv_at hl 1 rfl) ?_
                  refine lv_istore_n (lv' := [(3, .int r_66), (2, .int 2), (5, .int r_66), (0, .ref x), (1, .int p1), (4, .int 2)]) hx hb dX10_shortest_64 rfl hl (by decide) rfl (fun ls hl => ?_)
                  refine lv_iinc (v := 3) (lv' := [(4, .int 3), (3, .int r_66), (2, .int 2), (5, .int r_66), (0, .ref x), (1, .int p1)]) hx hb dX10_shortest_65 hl (k := 5) rfl (by decide) (by decide) rfl (fun ls hl => ?_)
                  refine lv_goto (tgt := 13) hx hb dX10_shortest_68 (by decide) ?_
                  exact K_3 _ _ _ ⟨ws_68, (2 : Int32), r_66, hT, hP, hD, hS, (lv_sub hl [4, 5, 2, 1, 0] rfl)⟩
                · refine lv_iload hx hb dX10_shortest_53 (lv_at hl 0 rfl) ?_
                  refine lv_iload_n hx hb dX10_shortest_55 rfl (lv_at hl 4 rfl) ?_
                  refine lv_icmp_ge (tgt := 65) hx hb dX10_shortest_56 (by decide) (fun hc_71 => ?_) (fun hc_71 => ?_)
                  · refine lv_iinc (v := 3) (lv' := [(4, .int 3), (5, .int r_66), (0, .ref x), (1, .int p1), (2, .int y2), (3, .int y3)]) hx hb dX10_shortest_65 hl (k := 5) rfl (by decide) (by decide) rfl (fun ls hl => ?_)
                    refine lv_goto (tgt := 13) hx hb dX10_shortest_68 (by decide) ?_
                    exact K_3 _ _ _ ⟨ws_68, y2, y3, hT, hP, hD, hS, (lv_sub hl [2, 3, 4, 5, 0] rfl)⟩
                  · refine lv_iload hx hb dX10_shortest_59 (lv_at hl 5 rfl) ?_
                    refine lv_istore_n (lv' := [(2, .int 2), (5, .int r_66), (0, .ref x), (1, .int p1), (3, .int y3), (4, .int 2)]) hx hb dX10_shortest_61 rfl hl (by decide) rfl (fun ls hl => ?_)
                    refine lv_iload hx hb dX10_shortest_62 (lv_at hl 1 rfl) ?_
                    refine lv_istore_n (lv' := [(3, .int r_66), (2, .int 2), (5, .int r_66), (0, .ref x), (1, .int p1), (4, .int 2)]) hx hb dX10_shortest_64 rfl hl (by decide) rfl (fun ls hl => ?_)
                    refine lv_iinc (v := 3) (lv' := [(4, .int 3), (3, .int r_66), (2, .int 2), (5, .int r_66), (0, .ref x), (1, .int p1)]) hx hb dX10_shortest_65 hl (k := 5) rfl (by decide) (by decide) rfl (fun ls hl => ?_)
                    refine lv_goto (tgt := 13) hx hb dX10_shortest_68 (by decide) ?_
                    exact K_3 _ _ _ ⟨ws_68, (2 : Int32), r_66, hT, hP, hD, hS, (lv_sub hl [4, 5, 2, 1, 0] rfl)⟩
      · obtain ⟨ws, y2, y3, hT, hP, hD, hS, hl⟩ := hI
        refine lv_iload hx hb dX10_shortest_13 (lv_at hl 4 rfl) ?_
        refine lv_aload_n hx hb dX10_shortest_15 rfl (lv_at hl 0 rfl) ?_
        refine va_get (v := .ref w) (D := D) (ci := 10) (C := RX10) (T := TX10) (N := 6) hx hb hts in_X10 hown hK hP 0 rfl rfl 0 (by decide) (hts _ kl_RX10_10) (fun _ h9 => h9) rfl dX10_shortest_16 ?_
        refine ty_getN (E := [(ty_XO x w sp sv bu bl le)]) (ws := ws) (D := D) (ci := 9) (C := RX9) (T := TX9) (N := 8) hx hb hts in_X9 hown hK hP hT h_w rfl 3 (by decide) (hts _ kl_RX10_85) (fun _ h9 => h9) rfl dX10_shortest_19 (fun _ hv_72 hf_73 => ?_)
        obtain ⟨a_74, rfl, ha_75⟩ := hv_72
        refine ty_getN (E := [(ty_XO x w sp sv bu bl le)]) (ws := ws) (D := D) (ci := 5) (C := RX5) (T := TX5) (N := 5) hx hb hts in_X5 hown hK hP hT ha_75 rfl 0 (by decide) (hts _ kl_RX10_89) (fun _ h9 => h9) rfl dX10_shortest_22 (fun _ hv_76 hf_77 => ?_)
        obtain ⟨x_78, rfl, hz_79⟩ := hv_76
        refine lv_icmp_ge (tgt := 71) hx hb dX10_shortest_25 (by decide) (fun hc_80 => ?_) (fun hc_80 => ?_)
        · refine lv_iload_n hx hb dX10_shortest_71 rfl (lv_at hl 2 rfl) ?_
          refine W.widen (k := 5) (n := 30) (Nat.le_of_ble_eq_true rfl) (Nat.le_of_ble_eq_true rfl) ?_
          refine vx_ret ?_
          exact W.iret (v := y2) hx hb hr (fun t ht hW => ⟨⟨y2, ws, rfl, hT, by rw [ht]; exact hP, by rw [hAe]; exact hD⟩, hS.F ht⟩) hS.2.2 dX10_shortest_72
        · refine lv_aload_n hx hb dX10_shortest_28 rfl (lv_at hl 0 rfl) ?_
          refine lv_aload_n hx hb dX10_shortest_29 rfl (lv_at hl 0 rfl) ?_
          refine lv_iload_n hx hb dX10_shortest_30 rfl (lv_at hl 1 rfl) ?_
          refine lv_iload hx hb dX10_shortest_31 (lv_at hl 4 rfl) ?_
          refine ty_xq (wr := []) (wc := ([(ty_XO x w sp sv bu bl le)] ++ ws)) (vx_runV (As := [.int p1, .int 3]) (rest := [.ref x]) ⟨hx, hb, hml, hown, hts⟩ (t_X10_needTrialOf l hfl D ct S ws ph xx x w sp sv bu ns bl le p1 (3 : Int32) _ hT h_w h_sp h_sv hph hy1 hy2 hy5 hy7 hy11 hys) (cm_V 2 hts kc_X10_needTrialOf ki_RX10 kl_RX10_336 kv_X10_needTrialOf kx_X10_needTrialOf kd_X10_needTrialOf ⟨Nat.le_of_ble_eq_true rfl, Nat.le_of_ble_eq_true rfl⟩) (ty_preE (wr := []) (wc := ([(ty_XO x w sp sv bu bl le)] ++ ws)) (ci := 10) (q0 := 0) hP hK hD hS hA hX rfl rfl) rfl rfl hl.1 rfl (lv_room (Nat.le_of_ble_eq_true rfl)) dX10_shortest_33 ⟨Nat.le_of_ble_eq_true rfl, Nat.le_of_ble_eq_true rfl⟩) hP hD hS hA (fun E ce q9 u H locs hu hE hP hD hS hce hcv hcl => ?_) (fun r_81 u H locs hw_82 hP hD hS => ?_)
          · obtain ⟨ws_83, rfl⟩ : ∃ z, z = u := ⟨_, rfl⟩
            have hT := hu
            have hP : va_P D vwCl ([(ty_XO x w sp sv bu bl le)] ++ ws_83) H := hP
            have hD : va_D A ([(ty_XO x w sp sv bu bl le)] ++ ws_83) := hD
            exact vx_out (fun x hx => (hex x hx).elim) hlocks hce hcv hcl (fun t ht hW => ⟨ws_83, hT, ⟨hE, by rw [ht]; exact hP, by rw [hAe]; exact hD⟩, hS.F ht⟩) hS.2.2 (Nat.le_of_ble_eq_true rfl) (Nat.le_of_ble_eq_true rfl)
          · obtain ⟨ws_84, rfl⟩ : ∃ z, z = u := ⟨_, rfl⟩
            obtain ⟨hT, hq_85⟩ := hw_82
            have hP : va_P D vwCl ([(ty_XO x w sp sv bu bl le)] ++ ws_84) H := hP
            have hD : va_D A ([(ty_XO x w sp sv bu bl le)] ++ ws_84) := hD
            refine W.widen (k := 5) (n := 30) (Nat.le_of_ble_eq_true rfl) (Nat.le_of_ble_eq_true rfl) ?_
            obtain ⟨a_86, rfl, ha_87⟩ := hq_85
            refine W.eq (g2 := F0 m 36 ls (.ref a_86 :: [.ref x])) rfl ?_
            refine lv_iconst (v := 3) hx hb dX10_shortest_36 (by decide) ?_
            refine ty_ki (wr := []) (wc := ([(ty_XO x w sp sv bu bl le)] ++ ws_84)) (va_runV (As := [.ref a_86, .int 3]) (rest := []) ⟨hx, hb, hml, hown, hts⟩ (t_X10_ticksUntil l D ct S ws_84 ph xx x w sp sv bu ns bl le a_86 (3 : Int32) _ hT h_w h_sp h_sv ha_87 hph hy1) (cm_V 2 hts kc_X10_ticksUntil ki_RX10 kl_RX10_324 kv_X10_ticksUntil kx_X10_ticksUntil kd_X10_ticksUntil ⟨Nat.le_of_ble_eq_true rfl, Nat.le_of_ble_eq_true rfl⟩) (ty_preE (wr := []) (wc := ([(ty_XO x w sp sv bu bl le)] ++ ws_84)) (ci := 10) (q0 := 0) hP hK hD hS hA hX rfl rfl) rfl rfl hl.1 rfl (lv_room (Nat.le_of_ble_eq_true rfl)) dX10_shortest_37 ⟨Nat.le_of_ble_eq_true rfl, Nat.le_of_ble_eq_true rfl⟩) hP hD hS hA (fun r_88 u H locs hw_89 hP hD hS => ?_)
            obtain ⟨ws_90, rfl⟩ : ∃ z, z = u := ⟨_, rfl⟩
            have hT := hw_89
            have hP : va_P D vwCl ([(ty_XO x w sp sv bu bl le)] ++ ws_90) H := hP
            have hD : va_D A ([(ty_XO x w sp sv bu bl le)] ++ ws_90) := hD
            refine lv_istore (lv' := [(5, .int r_88), (0, .ref x), (1, .int p1), (2, .int y2), (3, .int y3), (4, .int 3)]) hx hb dX10_shortest_40 hl (by decide) rfl (fun ls hl => ?_)
            refine lv_iload hx hb dX10_shortest_42 (lv_at hl 0 rfl) ?_
            refine lv_iconst (v := (-1)) hx hb dX10_shortest_44 (by decide) ?_
            refine lv_icmp_eq (tgt := 65) hx hb dX10_shortest_45 (by decide) (fun hc_91 => ?_) (fun hc_91 => ?_)
            · refine lv_iinc (v := 4) (lv' := [(4, .int 4), (5, .int r_88), (0, .ref x), (1, .int p1), (2, .int y2), (3, .int y3)]) hx hb dX10_shortest_65 hl (k := 5) rfl (by decide) (by decide) rfl (fun ls hl => ?_)
              refine lv_goto (tgt := 13) hx hb dX10_shortest_68 (by decide) ?_
              exact K_4 _ _ _ ⟨ws_90, y2, y3, hT, hP, hD, hS, (lv_sub hl [2, 3, 4, 5, 0] rfl)⟩
            · refine lv_iload_n hx hb dX10_shortest_48 rfl (lv_at hl 3 rfl) ?_
              refine lv_iconst (v := (-1)) hx hb dX10_shortest_49 (by decide) ?_
              refine lv_icmp_eq (tgt := 59) hx hb dX10_shortest_50 (by decide) (fun hc_92 => ?_) (fun hc_92 => ?_)
              · refine lv_iload hx hb dX10_shortest_59 (lv_at hl 5 rfl) ?_
                refine lv_istore_n (lv' := [(2, .int 3), (5, .int r_88), (0, .ref x), (1, .int p1), (3, .int y3), (4, .int 3)]) hx hb dX10_shortest_61 rfl hl (by decide) rfl (fun ls hl => ?_)
                refine lv_iload hx hb dX10_shortest_62 (lv_at hl 1 rfl) ?_
                refine lv_istore_n (lv' := [(3, .int r_88), (2, .int 3), (5, .int r_88), (0, .ref x), (1, .int p1), (4, .int 3)]) hx hb dX10_shortest_64 rfl hl (by decide) rfl (fun ls hl => ?_)
                refine lv_iinc (v := 4) (lv' := [(4, .int 4), (3, .int r_88), (2, .int 3), (5, .int r_88), (0, .ref x), (1, .int p1)]) hx hb dX10_shortest_65 hl (k := 5) rfl (by decide) (by decide) rfl (fun ls hl => ?_)
                refine lv_goto (tgt := 13) hx hb dX10_shortest_68 (by decide) ?_
                exact K_4 _ _ _ ⟨ws_90, (3 : Int32), r_88, hT, hP, hD, hS, (lv_sub hl [4, 5, 2, 1, 0] rfl)⟩
              · refine lv_iload hx hb dX10_shortest_53 (lv_at hl 0 rfl) ?_
                refine lv_iload_n hx hb dX10_shortest_55 rfl (lv_at hl 4 rfl) ?_
                refine lv_icmp_ge (tgt := 65) hx hb dX10_shortest_56 (by decide) (fun hc_93 => ?_) (fun hc_93 => ?_)
                · refine lv_iinc (v := 4) (lv' := [(4, .int 4), (5, .int r_88), (0, .ref x), (1, .int p1), (2, .int y2), (3, .int y3)]) hx hb dX10_shortest_65 hl (k := 5) rfl (by decide) (by decide) rfl (fun ls hl => ?_)
                  refine lv_goto (tgt := 13) hx hb dX10_shortest_68 (by decide) ?_
                  exact K_4 _ _ _ ⟨ws_90, y2, y3, hT, hP, hD, hS, (lv_sub hl [2, 3, 4, 5, 0] rfl)⟩
                · refine lv_iload hx hb dX10_shortest_59 (lv_at hl 5 rfl) ?_
                  refine lv_istore_n (lv' := [(2, .int 3), (5, .int r_88), (0, .ref x), (1, .int p1), (3, .int y3), (4, .int 3)]) hx hb dX10_shortest_61 rfl hl (by decide) rfl (fun ls hl => ?_)
                  refine lv_iload hx hb dX10_shortest_62 (lv_at hl 1 rfl) ?_
                  refine lv_istore_n (lv' := [(3, .int r_88), (2, .int 3), (5, .int r_88), (0, .ref x), (1, .int p1), (4, .int 3)]) hx hb dX10_shortest_64 rfl hl (by decide) rfl (fun ls hl => ?_)
                  refine lv_iinc (v := 4) (lv' := [(4, .int 4), (3, .int r_88), (2, .int 3), (5, .int r_88), (0, .ref x), (1, .int p1)]) hx hb dX10_shortest_65 hl (k := 5) rfl (by decide) (by decide) rfl (fun ls hl => ?_)
                  refine lv_goto (tgt := 13) hx hb dX10_shortest_68 (by decide) ?_
                  exact K_4 _ _ _ ⟨ws_90, (3 : Int32), r_88, hT, hP, hD, hS, (lv_sub hl [4, 5, 2, 1, 0] rfl)⟩
    · obtain ⟨ws, y2, y3, hT, hP, hD, hS, hl⟩ := hI
      refine lv_iload hx hb dX10_shortest_13 (lv_at hl 4 rfl) ?_
      refine lv_aload_n hx hb dX10_shortest_15 rfl (lv_at hl 0 rfl) ?_
      refine va_get (v := .ref w) (D := D) (ci := 10) (C := RX10) (T := TX10) (N := 6) hx hb hts in_X10 hown hK hP 0 rfl rfl 0 (by decide) (hts _ kl_RX10_10) (fun _ h9 => h9) rfl dX10_shortest_16 ?_
      refine ty_getN (E := [(ty_XO x w sp sv bu bl le)]) (ws := ws) (D := D) (ci := 9) (C := RX9) (T := TX9) (N := 8) hx hb hts in_X9 hown hK hP hT h_w rfl 3 (by decide) (hts _ kl_RX10_85) (fun _ h9 => h9) rfl dX10_shortest_19 (fun _ hv_94 hf_95 => ?_)
      obtain ⟨a_96, rfl, ha_97⟩ := hv_94
      refine ty_getN (E := [(ty_XO x w sp sv bu bl le)]) (ws := ws) (D := D) (ci := 5) (C := RX5) (T := TX5) (N := 5) hx hb hts in_X5 hown hK hP hT ha_97 rfl 0 (by decide) (hts _ kl_RX10_89) (fun _ h9 => h9) rfl dX10_shortest_22 (fun _ hv_98 hf_99 => ?_)
      obtain ⟨x_100, rfl, hz_101⟩ := hv_98
      refine lv_icmp_ge (tgt := 71) hx hb dX10_shortest_25 (by decide) (fun _ => ?_) (fun hc => absurd (ty_le4 hz_101) hc)
      refine lv_iload_n hx hb dX10_shortest_71 rfl (lv_at hl 2 rfl) ?_
      refine vx_ret ?_
      exact W.iret (v := y2) hx hb hr (fun t ht hW => ⟨⟨y2, ws, rfl, hT, by rw [ht]; exact hP, by rw [hAe]; exact hD⟩, hS.F ht⟩) hS.2.2 dX10_shortest_72
