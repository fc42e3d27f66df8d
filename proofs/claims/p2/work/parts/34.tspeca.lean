theorem dX10_init_0 : decode cX10_init 0 = .ok (.aload_n 0, 1) := by decide +kernel
theorem dX10_init_1 : decode cX10_init 1 = .ok (.invokespecial 1, 3) := by decide +kernel
theorem dX10_init_4 : decode cX10_init 4 = .ok (.aload_n 0, 1) := by decide +kernel
theorem dX10_init_5 : decode cX10_init 5 = .ok (.new 7, 3) := by decide +kernel
theorem dX10_init_8 : decode cX10_init 8 = .ok (.dup, 1) := by decide +kernel
theorem dX10_init_9 : decode cX10_init 9 = .ok (.invokespecial 9, 3) := by decide +kernel
theorem dX10_init_12 : decode cX10_init 12 = .ok (.putfield 10, 3) := by decide +kernel
theorem dX10_init_15 : decode cX10_init 15 = .ok (.aload_n 0, 1) := by decide +kernel
theorem dX10_init_16 : decode cX10_init 16 = .ok (.new 7, 3) := by decide +kernel
theorem dX10_init_19 : decode cX10_init 19 = .ok (.dup, 1) := by decide +kernel
theorem dX10_init_20 : decode cX10_init 20 = .ok (.invokespecial 9, 3) := by decide +kernel
theorem dX10_init_23 : decode cX10_init 23 = .ok (.putfield 16, 3) := by decide +kernel
theorem dX10_init_26 : decode cX10_init 26 = .ok (.aload_n 0, 1) := by decide +kernel
theorem dX10_init_27 : decode cX10_init 27 = .ok (.iconst 2, 1) := by decide +kernel
theorem dX10_init_28 : decode cX10_init 28 = .ok (.anewarray 7, 3) := by decide +kernel
theorem dX10_init_31 : decode cX10_init 31 = .ok (.putfield 19, 3) := by decide +kernel
theorem dX10_init_34 : decode cX10_init 34 = .ok (.aload_n 0, 1) := by decide +kernel
theorem dX10_init_35 : decode cX10_init 35 = .ok (.sipush 800, 3) := by decide +kernel
theorem dX10_init_38 : decode cX10_init 38 = .ok (.newarray .int, 2) := by decide +kernel
theorem dX10_init_40 : decode cX10_init 40 = .ok (.putfield 23, 3) := by decide +kernel
theorem dX10_init_43 : decode cX10_init 43 = .ok (.aload_n 0, 1) := by decide +kernel
theorem dX10_init_44 : decode cX10_init 44 = .ok (.iconst 0, 1) := by decide +kernel
theorem dX10_init_45 : decode cX10_init 45 = .ok (.putfield 27, 3) := by decide +kernel
theorem dX10_init_48 : decode cX10_init 48 = .ok (.aload_n 0, 1) := by decide +kernel
theorem dX10_init_49 : decode cX10_init 49 = .ok (.iconst 0, 1) := by decide +kernel
theorem dX10_init_50 : decode cX10_init 50 = .ok (.putfield 31, 3) := by decide +kernel
theorem dX10_init_53 : decode cX10_init 53 = .ok (.return_, 1) := by decide +kernel
set_option maxRecDepth 100000 in
set_option maxHeartbeats 4000000 in
theorem t_X10_init (l : Launch) (D : va_G) (ct : Nat → ClassId) (S : ty_S) (ws : va_W) (x : Nat) (sz : Nat) (hT : ty_W ct S ws) : Met l yX10_init (ws_ yX10_init cX10_init 1 none) ({ frames := 5, cells := 130, slots := 3008, locals := 94 } : Room) (va_Pc [.ref x] (cmP D ct sz ([(x, .inr (10, [.null, .null, .null, .null, .int 0, .int 0]))] ++ ws))) (va_Qv (fun (u : va_W × ty_S × Nat × Nat × Nat × Nat) => match u with | (u9, S9, w, sp, sv, bu) => ty_W ct S9 u9 ∧ ty_le S S9 ∧ S9 w = some (.inl 9) ∧ S9 sp = some (.inl 9) ∧ S9 sv = some (.inr (4, 2)) ∧ S9 bu = some (.inr (0, 800))) (cmB D ([(x, .inr (10, [.null, .null, .null, .null, .int 0, .int 0]))] ++ ws) sz (fun (u : va_W × ty_S × Nat × Nat × Nat × Nat) => match u with | (u9, S9, w, sp, sv, bu) => ([(x, .inr (10, [.ref w, .ref sp, .ref sv, .ref bu, .int 0, .int 0]))] ++ u9))) (va_A ([(x, .inr (10, [.null, .null, .null, .null, .int 0, .int 0]))] ++ ws) sz)) 130 3008 (va_A ([(x, .inr (10, [.null, .null, .null, .null, .int 0, .int 0]))] ++ ws) sz) := by
  refine Met.ofW (cc := cX10_init) (maxL := 1) (ret := none) (by decide) rfl ?_
  intro p e s m args below meth c s₁ B hml hv
  obtain ⟨rfl, hsz, hP, hK, hD0, hX⟩ := hv
  have hx := B.exec
  have hb := B.bytes
  have hr := B.returns
  have hts := ws_all (atoms_spec (ws := ws_ yX10_init cX10_init 1 none) B.pre)
  have hown : s.vm.findClass RX10 = some m.cls := findClass_of_methodNamed B.named
  have hlocks := B.notSynchronized
  have hin : meth.name = "<init>" := (name_of_methodNamed B.named B.method).1
  subst hsz
  have hD := hD0.self (sz := s.heap.size)
  generalize hAe : va_A ([(x, .inr (10, [.null, .null, .null, .null, .int 0, .int 0]))] ++ ws) s.heap.size = A at hD hX ⊢
  have hA : ∀ q : Nat, s.heap.size ≤ q → A q := fun q h => by rw [← hAe]; exact Or.inr h
  have hS : va_S A s.heap s.heap [] := va_S.rf
  have hl := lv_entry ([.ref x]) (n := 1) (Nat.le_of_ble_eq_true rfl)
  rw [lg_entry_eq]
  generalize (lg_sl ([.ref x]) ++ List.replicate (1 - (lg_sl ([.ref x])).length) Slot.unset).toArray = ls at hl ⊢
  have hl : lv_has ls 1 [(0, .ref x)] := hl
  refine lv_aload_n hx hb dX10_init_0 rfl (lv_at hl 0 rfl) ?_
  refine W.objInit hx hb hown (hts _ kl_RX10_1) (hts _ kv_java_lang_Object_init) (hts _ kc_java_lang_Object_init) rfl (by rw [hml]; exact hl.1) rfl dX10_init_1 (Nat.le_of_ble_eq_true rfl) (Nat.le_of_ble_eq_true rfl) ?_
  refine W.eq (g2 := F0 m 4 ls []) rfl ?_
  refine lv_aload_n hx hb dX10_init_4 rfl (lv_at hl 0 rfl) ?_
  refine va_new (ci := 9) (fs := [.int 0, .null, .null, .null, .int 0, .null, .null, .null]) (C := RX9) (T := TX9) (N := 8) hx hb hts in_X9 tyX9 tyX9_ok hown (hts _ kl_RX10_7) (hts _ kn_RX9) (hts _ ki_RX9) hK hP hD hS hA rfl fs0_X9 (Nat.le_of_ble_eq_true rfl) (Nat.le_of_ble_eq_true rfl) dX10_init_5 (fun q_1 H hP hD hS => ?_)
  have hP : va_P D vwCl ([(x, .inr (10, [.null, .null, .null, .null, .int 0, .int 0])), (q_1, .inr (9, [.int 0, .null, .null, .null, .int 0, .null, .null, .null]))] ++ ws) H := ty_permP hP ty_mvp
  have hD : va_D A ([(x, .inr (10, [.null, .null, .null, .null, .int 0, .int 0])), (q_1, .inr (9, [.int 0, .null, .null, .null, .int 0, .null, .null, .null]))] ++ ws) := ty_permD hD ty_mvp
  refine W.widen (k := 1) (n := 8) (Nat.le_of_ble_eq_true rfl) (Nat.le_of_ble_eq_true rfl) ?_
  refine lv_dup hx hb dX10_init_8 rfl ?_
  refine ty_kv (wr := [(x, .inr (10, [.null, .null, .null, .null, .int 0, .int 0]))]) (wc := ([(q_1, .inr (9, [.int 0, .null, .null, .null, .int 0, .null, .null, .null]))] ++ ws)) (va_runIN (As := []) (rest := [.ref q_1, .ref x]) ⟨hx, hb, hml, hown, hts⟩ (t_X9_init l D ct S ws q_1 _ hT) (cm_IN 0 hts kc_X9_init ki_RX9 kl_RX10_9 kv_X9_init rfl kd_X9_init ⟨Nat.le_of_ble_eq_true rfl, Nat.le_of_ble_eq_true rfl⟩) (ty_preS (wr := [(x, .inr (10, [.null, .null, .null, .null, .int 0, .int 0]))]) (wc := ([(q_1, .inr (9, [.int 0, .null, .null, .null, .int 0, .null, .null, .null]))] ++ ws)) hP hK hD hS hA hX) rfl rfl hl.1 rfl (lv_room (Nat.le_of_ble_eq_true rfl)) dX10_init_9 ⟨Nat.le_of_ble_eq_true rfl, Nat.le_of_ble_eq_true rfl⟩) hP hD hS hA (fun u H locs hw_3 hP hD hS => ?_)
  obtain ⟨ws_4, S_5⟩ := u
  obtain ⟨hT, hle_6, hp_7⟩ := hw_3
  have hp_7 : S_5 q_1 = some (.inl 9) := hp_7
  have hP : va_P D vwCl ([(x, .inr (10, [.null, .null, .null, .null, .int 0, .int 0]))] ++ ws_4) H := hP
  have hD : va_D A ([(x, .inr (10, [.null, .null, .null, .null, .int 0, .int 0]))] ++ ws_4) := hD
  refine W.widen (k := 64) (n := 1103) (Nat.le_of_ble_eq_true rfl) (Nat.le_of_ble_eq_true rfl) ?_
  refine va_putF (v := .ref q_1) (ty := (tyX10 0)) (D := D) (ci := 10) (C := RX10) (T := TX10) (N := 6) hx hb hts in_X10 tyX10 tyX10_ok nmX10 hown hK hP hD hS 0 rfl rfl 0 (by decide) (hts _ kl_RX10_10) (fun _ h9 => h9) rfl hin rfl (by decide +kernel) rfl rfl (Nat.le_of_ble_eq_true rfl) dX10_init_12 (fun H locs hP hD hS => ?_)
  have hP : va_P D vwCl ([(x, .inr (10, [.ref q_1, .null, .null, .null, .int 0, .int 0]))] ++ ws_4) H := hP
  have hD : va_D A ([(x, .inr (10, [.ref q_1, .null, .null, .null, .int 0, .int 0]))] ++ ws_4) := hD
  refine lv_aload_n hx hb dX10_init_15 rfl (lv_at hl 0 rfl) ?_
  refine va_new (ci := 9) (fs := [.int 0, .null, .null, .null, .int 0, .null, .null, .null]) (C := RX9) (T := TX9) (N := 8) hx hb hts in_X9 tyX9 tyX9_ok hown (hts _ kl_RX10_7) (hts _ kn_RX9) (hts _ ki_RX9) hK hP hD hS hA rfl fs0_X9 (Nat.le_of_ble_eq_true rfl) (Nat.le_of_ble_eq_true rfl) dX10_init_16 (fun q_8 H hP hD hS => ?_)
  have hP : va_P D vwCl ([(x, .inr (10, [.ref q_1, .null, .null, .null, .int 0, .int 0])), (q_8, .inr (9, [.int 0, .null, .null, .null, .int 0, .null, .null, .null]))] ++ ws_4) H := ty_permP hP ty_mvp
  have hD : va_D A ([(x, .inr (10, [.ref q_1, .null, .null, .null, .int 0, .int 0])), (q_8, .inr (9, [.int 0, .null, .null, .null, .int 0, .null, .null, .null]))] ++ ws_4) := ty_permD hD ty_mvp
  refine W.widen (k := 65) (n := 1111) (Nat.le_of_ble_eq_true rfl) (Nat.le_of_ble_eq_true rfl) ?_
  refine lv_dup hx hb dX10_init_19 rfl ?_
  refine ty_kv (wr := [(x, .inr (10, [.ref q_1, .null, .null, .null, .int 0, .int 0]))]) (wc := ([(q_8, .inr (9, [.int 0, .null, .null, .null, .int 0, .null, .null, .null]))] ++ ws_4)) (va_runIN (As := []) (rest := [.ref q_8, .ref x]) ⟨hx, hb, hml, hown, hts⟩ (t_X9_init l D ct S_5 ws_4 q_8 _ hT) (cm_IN 0 hts kc_X9_init ki_RX9 kl_RX10_9 kv_X9_init rfl kd_X9_init ⟨Nat.le_of_ble_eq_true rfl, Nat.le_of_ble_eq_true rfl⟩) (ty_preS (wr := [(x, .inr (10, [.ref q_1, .null, .null, .null, .int 0, .int 0]))]) (wc := ([(q_8, .inr (9, [.int 0, .null, .null, .null, .int 0, .null, .null, .null]))] ++ ws_4)) hP hK hD hS hA hX) rfl rfl hl.1 rfl (lv_room (Nat.le_of_ble_eq_true rfl)) dX10_init_20 ⟨Nat.le_of_ble_eq_true rfl, Nat.le_of_ble_eq_true rfl⟩) hP hD hS hA (fun u H locs hw_10 hP hD hS => ?_)
  obtain ⟨ws_11, S_12⟩ := u
  obtain ⟨hT, hle_13, hp_14⟩ := hw_10
  have hp_14 : S_12 q_8 = some (.inl 9) := hp_14
  have hg_15 := hle_13 _ _ hp_7
  have hP : va_P D vwCl ([(x, .inr (10, [.ref q_1, .null, .null, .null, .int 0, .int 0]))] ++ ws_11) H := hP
  have hD : va_D A ([(x, .inr (10, [.ref q_1, .null, .null, .null, .int 0, .int 0]))] ++ ws_11) := hD
  refine W.widen (k := 128) (n := 2206) (Nat.le_of_ble_eq_true rfl) (Nat.le_of_ble_eq_true rfl) ?_
  refine va_putF (v := .ref q_8) (ty := (tyX10 1)) (D := D) (ci := 10) (C := RX10) (T := TX10) (N := 6) hx hb hts in_X10 tyX10 tyX10_ok nmX10 hown hK hP hD hS 0 rfl rfl 1 (by decide) (hts _ kl_RX10_16) (fun _ h9 => h9) rfl hin rfl (by decide +kernel) rfl rfl (Nat.le_of_ble_eq_true rfl) dX10_init_23 (fun H locs hP hD hS => ?_)
  have hP : va_P D vwCl ([(x, .inr (10, [.ref q_1, .ref q_8, .null, .null, .int 0, .int 0]))] ++ ws_11) H := hP
  have hD : va_D A ([(x, .inr (10, [.ref q_1, .ref q_8, .null, .null, .int 0, .int 0]))] ++ ws_11) := hD
  refine lv_aload_n hx hb dX10_init_26 rfl (lv_at hl 0 rfl) ?_
  refine lv_iconst (v := 2) hx hb dX10_init_27 (by decide) ?_
  refine cm_newq (C := "CellCycler$World") (N' := 2) hx hb hown (hts _ kl_RX10_7) (va_AO.of (hts _ kao_RX9)) hK 4 rfl hP hD hS hA (by decide) (by decide) (Nat.le_of_ble_eq_true rfl) (Nat.le_of_ble_eq_true rfl) (Nat.le_of_ble_eq_true rfl) dX10_init_28 (fun q_16 H hP hD hS => ?_)
  have hP : va_P D vwCl ([(x, .inr (10, [.ref q_1, .ref q_8, .null, .null, .int 0, .int 0])), (q_16, .inl (ct 4, 2, .inr (.inr (.inr (.inr (fun _ => none))))))] ++ ws_11) H := ty_permP hP ty_mvp
  have hD : va_D A ([(x, .inr (10, [.ref q_1, .ref q_8, .null, .null, .int 0, .int 0])), (q_16, .inl (ct 4, 2, .inr (.inr (.inr (.inr (fun _ => none))))))] ++ ws_11) := ty_permD hD ty_mvp
  refine W.widen (k := 129) (n := 2208) (Nat.le_of_ble_eq_true rfl) (Nat.le_of_ble_eq_true rfl) ?_
  obtain ⟨ws_17, S_18, hT, hle_19, hk_20, hP, hD⟩ := ty_abs (κ := .inr (4, 2)) (E1 := [(x, .inr (10, [.ref q_1, .ref q_8, .null, .null, .int 0, .int 0]))]) hP hD hT ⟨by decide, _, rfl, fun j b h => by cases h⟩
  have hg_21 := hle_19 _ _ hg_15
  have hg_22 := hle_19 _ _ hp_14
  refine va_putF (v := .ref q_16) (ty := (tyX10 2)) (D := D) (ci := 10) (C := RX10) (T := TX10) (N := 6) hx hb hts in_X10 tyX10 tyX10_ok nmX10 hown hK hP hD hS 0 rfl rfl 2 (by decide) (hts _ kl_RX10_19) (fun _ h9 => h9) rfl hin rfl (by decide +kernel) rfl rfl (Nat.le_of_ble_eq_true rfl) dX10_init_31 (fun H locs hP hD hS => ?_)
  have hP : va_P D vwCl ([(x, .inr (10, [.ref q_1, .ref q_8, .ref q_16, .null, .int 0, .int 0]))] ++ ws_17) H := hP
  have hD : va_D A ([(x, .inr (10, [.ref q_1, .ref q_8, .ref q_16, .null, .int 0, .int 0]))] ++ ws_17) := hD
  refine lv_aload_n hx hb dX10_init_34 rfl (lv_at hl 0 rfl) ?_
  refine lv_sipush (v := 800) hx hb dX10_init_35 (by decide) ?_
  refine cm_newa (atype := .int) (ty := .int) (a0 := (800, .inl (fun _ => 0))) hx hb (hts _ ka_int) rfl hK 0 rfl cm_raI hP hD hS hA (fun _ => rfl) (by decide) (by decide) (Nat.le_of_ble_eq_true rfl) (Nat.le_of_ble_eq_true rfl) (Nat.le_of_ble_eq_true rfl) dX10_init_38 (fun q_23 H hP hD hS => ?_)
  have hP : va_P D vwCl ([(x, .inr (10, [.ref q_1, .ref q_8, .ref q_16, .null, .int 0, .int 0])), (q_23, .inl (ct 0, 800, .inl (fun _ => 0)))] ++ ws_17) H := ty_permP hP ty_mvp
  have hD : va_D A ([(x, .inr (10, [.ref q_1, .ref q_8, .ref q_16, .null, .int 0, .int 0])), (q_23, .inl (ct 0, 800, .inl (fun _ => 0)))] ++ ws_17) := ty_permD hD ty_mvp
  refine W.widen (k := 130) (n := 3008) (Nat.le_of_ble_eq_true rfl) (Nat.le_of_ble_eq_true rfl) ?_
  obtain ⟨ws_24, S_25, hT, hle_26, hk_27, hP, hD⟩ := ty_abs (κ := .inr (0, 800)) (E1 := [(x, .inr (10, [.ref q_1, .ref q_8, .ref q_16, .null, .int 0, .int 0]))]) hP hD hT ⟨by decide, _, rfl⟩
  have hg_28 := hle_26 _ _ hg_21
  have hg_29 := hle_26 _ _ hg_22
  have hg_30 := hle_26 _ _ hk_20
  refine va_putF (v := .ref q_23) (ty := (tyX10 3)) (D := D) (ci := 10) (C := RX10) (T := TX10) (N := 6) hx hb hts in_X10 tyX10 tyX10_ok nmX10 hown hK hP hD hS 0 rfl rfl 3 (by decide) (hts _ kl_RX10_23) (fun _ h9 => h9) rfl hin rfl (by decide +kernel) rfl rfl (Nat.le_of_ble_eq_true rfl) dX10_init_40 (fun H locs hP hD hS => ?_)
  have hP : va_P D vwCl ([(x, .inr (10, [.ref q_1, .ref q_8, .ref q_16, .ref q_23, .int 0, .int 0]))] ++ ws_24) H := hP
  have hD : va_D A ([(x, .inr (10, [.ref q_1, .ref q_8, .ref q_16, .ref q_23, .int 0, .int 0]))] ++ ws_24) := hD
  refine lv_aload_n hx hb dX10_init_43 rfl (lv_at hl 0 rfl) ?_
  refine lv_iconst (v := 0) hx hb dX10_init_44 (by decide) ?_
  refine va_put (v := .int 0) (ty := .int) (D := D) (ci := 10) (C := RX10) (T := TX10) (N := 6) hx hb hts in_X10 tyX10 tyX10_ok nmX10 hown hK hP hD hS 0 rfl rfl 4 (by decide) (hts _ kl_RX10_27) (fun _ h9 => h9) rfl (by decide +kernel) rfl rfl (Nat.le_of_ble_eq_true rfl) dX10_init_45 (fun H locs hP hD hS => ?_)
  have hP : va_P D vwCl ([(x, .inr (10, [.ref q_1, .ref q_8, .ref q_16, .ref q_23, .int 0, .int 0]))] ++ ws_24) H := hP
  have hD : va_D A ([(x, .inr (10, [.ref q_1, .ref q_8, .ref q_16, .ref q_23, .int 0, .int 0]))] ++ ws_24) := hD
  refine lv_aload_n hx hb dX10_init_48 rfl (lv_at hl 0 rfl) ?_
  refine lv_iconst (v := 0) hx hb dX10_init_49 (by decide) ?_
  refine va_put (v := .int 0) (ty := .int) (D := D) (ci := 10) (C := RX10) (T := TX10) (N := 6) hx hb hts in_X10 tyX10 tyX10_ok nmX10 hown hK hP hD hS 0 rfl rfl 5 (by decide) (hts _ kl_RX10_31) (fun _ h9 => h9) rfl (by decide +kernel) rfl rfl (Nat.le_of_ble_eq_true rfl) dX10_init_50 (fun H locs hP hD hS => ?_)
  have hP : va_P D vwCl ([(x, .inr (10, [.ref q_1, .ref q_8, .ref q_16, .ref q_23, .int 0, .int 0]))] ++ ws_24) H := hP
  have hD : va_D A ([(x, .inr (10, [.ref q_1, .ref q_8, .ref q_16, .ref q_23, .int 0, .int 0]))] ++ ws_24) := hD
  exact W.vret hx hb hr (fun t ht hW => ⟨⟨(ws_24, S_25, q_1, q_8, q_16, q_23), rfl, ⟨hT, (fun a9 k9 h9 => hle_26 _ _ ((fun a9 k9 h9 => hle_19 _ _ ((fun a9 k9 h9 => hle_13 _ _ ((fun a9 k9 h9 => hle_6 _ _ ((fun _ _ h9 => h9) a9 k9 h9)) a9 k9 h9)) a9 k9 h9)) a9 k9 h9)), ⟨hg_28, hg_29, hg_30, hk_27⟩⟩, by rw [ht]; exact hP, by rw [hAe]; exact hD⟩, hS.F ht⟩) hS.2.2 dX10_init_53
theorem dX10_curveNamed_0 : decode cX10_curveNamed 0 = .ok (.aload_n 0, 1) := by decide +kernel
theorem dX10_curveNamed_1 : decode cX10_curveNamed 1 = .ok (.getfield 27, 3) := by decide +kernel
theorem dX10_curveNamed_4 : decode cX10_curveNamed 4 = .ok (.istore_n 1, 1) := by decide +kernel
theorem dX10_curveNamed_5 : decode cX10_curveNamed 5 = .ok (.aload_n 0, 1) := by decide +kernel
theorem dX10_curveNamed_6 : decode cX10_curveNamed 6 = .ok (.iconst 0, 1) := by decide +kernel
theorem dX10_curveNamed_7 : decode cX10_curveNamed 7 = .ok (.putfield 27, 3) := by decide +kernel
theorem dX10_curveNamed_10 : decode cX10_curveNamed 10 = .ok (.iload_n 1, 1) := by decide +kernel
theorem dX10_curveNamed_11 : decode cX10_curveNamed 11 = .ok (.iconst 1, 1) := by decide +kernel
theorem dX10_curveNamed_12 : decode cX10_curveNamed 12 = .ok (.if_icmp .lt 9, 3) := by decide +kernel
theorem dX10_curveNamed_15 : decode cX10_curveNamed 15 = .ok (.iload_n 1, 1) := by decide +kernel
theorem dX10_curveNamed_16 : decode cX10_curveNamed 16 = .ok (.bipush 6, 2) := by decide +kernel
theorem dX10_curveNamed_18 : decode cX10_curveNamed 18 = .ok (.if_icmp .le 5, 3) := by decide +kernel
theorem dX10_curveNamed_21 : decode cX10_curveNamed 21 = .ok (.iconst (-1), 1) := by decide +kernel
theorem dX10_curveNamed_22 : decode cX10_curveNamed 22 = .ok (.ireturn, 1) := by decide +kernel
theorem dX10_curveNamed_23 : decode cX10_curveNamed 23 = .ok (.aload_n 0, 1) := by decide +kernel
theorem dX10_curveNamed_24 : decode cX10_curveNamed 24 = .ok (.getfield 10, 3) := by decide +kernel
theorem dX10_curveNamed_27 : decode cX10_curveNamed 27 = .ok (.getfield 67, 3) := by decide +kernel
theorem dX10_curveNamed_30 : decode cX10_curveNamed 30 = .ok (.aload_n 0, 1) := by decide +kernel
theorem dX10_curveNamed_31 : decode cX10_curveNamed 31 = .ok (.getfield 23, 3) := by decide +kernel
theorem dX10_curveNamed_34 : decode cX10_curveNamed 34 = .ok (.iconst 0, 1) := by decide +kernel
theorem dX10_curveNamed_35 : decode cX10_curveNamed 35 = .ok (.iload_n 1, 1) := by decide +kernel
theorem dX10_curveNamed_36 : decode cX10_curveNamed 36 = .ok (.invokestatic 71, 3) := by decide +kernel
theorem dX10_curveNamed_39 : decode cX10_curveNamed 39 = .ok (.invokevirtual 75, 3) := by decide +kernel
theorem dX10_curveNamed_42 : decode cX10_curveNamed 42 = .ok (.ireturn, 1) := by decide +kernel
set_option maxRecDepth 100000 in
set_option maxHeartbeats 4000000 in
theorem t_X10_curveNamed (l : Launch) (D : va_G) (ct : Nat → ClassId) (S : ty_S) (ws : va_W) (x : Nat) (w : Nat) (sp : Nat) (sv : Nat) (bu : Nat) (ns : Nat) (nb : Nat) (bl : Int32) (le : Int32) (sz : Nat) (hT : ty_W ct S ws) (h_w : S w = some (.inl 9)) (h_sp : S sp = some (.inl 9)) (h_sv : S sv = some (.inr (4, ns))) (h_bu : S bu = some (.inr (0, nb))) : Met l yX10_curveNamed (ws_ yX10_curveNamed cX10_curveNamed 2 (some .int)) ({ frames := 2, cells := 0, slots := 0, locals := 46 } : Room) (va_Pc [.ref x] (cmP D ct sz ([(x, .inr (10, [.ref w, .ref sp, .ref sv, .ref bu, .int bl, .int le]))] ++ ws))) (va_Qi (fun (r : Int32) (u9 : va_W) => ty_W ct S u9) (cmB D ([(x, .inr (10, [.ref w, .ref sp, .ref sv, .ref bu, .int bl, .int le]))] ++ ws) sz (fun (u9 : va_W) => ([(x, .inr (10, [.ref w, .ref sp, .ref sv, .ref bu, .int 0, .int le]))] ++ u9))) (va_A ([(x, .inr (10, [.ref w, .ref sp, .ref sv, .ref bu, .int bl, .int le]))] ++ ws) sz)) 0 0 (va_A ([(x, .inr (10, [.ref w, .ref sp, .ref sv, .ref bu, .int bl, .int le]))] ++ ws) sz) := by
  refine Met.ofW (cc := cX10_curveNamed) (maxL := 2) (ret := (some .int)) (by decide) rfl ?_
  intro p e s m args below meth c s₁ B hml hv
  obtain ⟨rfl, hsz, hP, hK, hD0, hX⟩ := hv
  have hx := B.exec
  have hb := B.bytes
  have hr := B.returns
  have hts := ws_all (atoms_spec (ws := ws_ yX10_curveNamed cX10_curveNamed 2 (some .int)) B.pre)
  have hown : s.vm.findClass RX10 = some m.cls := findClass_of_methodNamed B.named
  have hlocks := B.notSynchronized
  subst hsz
  have hD := hD0.self (sz := s.heap.size)
  generalize hAe : va_A ([(x, .inr (10, [.ref w, .ref sp, .ref sv, .ref bu, .int bl, .int le]))] ++ ws) s.heap.size = A at hD hX ⊢
  have hA : ∀ q : Nat, s.heap.size ≤ q → A q := fun q h => by rw [← hAe]; exact Or.inr h
  have hS : va_S A s.heap s.heap [] := va_S.rf
  have hl := lv_entry ([.ref x]) (n := 2) (Nat.le_of_ble_eq_true rfl)
  rw [lg_entry_eq]
  generalize (lg_sl ([.ref x]) ++ List.replicate (2 - (lg_sl ([.ref x])).length) Slot.unset).toArray = ls at hl ⊢
  have hl : lv_has ls 2 [(0, .ref x)] := hl
  refine lv_aload_n hx hb dX10_curveNamed_0 rfl (lv_at hl 0 rfl) ?_
  refine va_get (v := .int bl) (D := D) (ci := 10) (C := RX10) (T := TX10) (N := 6) hx hb hts in_X10 hown hK hP 0 rfl rfl 4 (by decide) (hts _ kl_RX10_27) (fun _ h9 => h9) rfl dX10_curveNamed_1 ?_
  refine lv_istore_n (lv' := [(1, .int bl), (0, .ref x)]) hx hb dX10_curveNamed_4 rfl hl (by decide) rfl (fun ls hl => ?_)
  refine lv_aload_n hx hb dX10_curveNamed_5 rfl (lv_at hl 1 rfl) ?_
  refine lv_iconst (v := 0) hx hb dX10_curveNamed_6 (by decide) ?_
  refine va_put (v := .int 0) (ty := .int) (D := D) (ci := 10) (C := RX10) (T := TX10) (N := 6) hx hb hts in_X10 tyX10 tyX10_ok nmX10 hown hK hP hD hS 0 rfl rfl 4 (by decide) (hts _ kl_RX10_27) (fun _ h9 => h9) rfl (by decide +kernel) rfl rfl (Nat.le_of_ble_eq_true rfl) dX10_curveNamed_7 (fun H locs hP hD hS => ?_)
  have hP : va_P D vwCl ([(x, .inr (10, [.ref w, .ref sp, .ref sv, .ref bu, .int 0, .int le]))] ++ ws) H := hP
  have hD : va_D A ([(x, .inr (10, [.ref w, .ref sp, .ref sv, .ref bu, .int 0, .int le]))] ++ ws) := hD
  refine lv_iload_n hx hb dX10_curveNamed_10 rfl (lv_at hl 0 rfl) ?_
  refine lv_iconst (v := 1) hx hb dX10_curveNamed_11 (by decide) ?_
  refine lv_icmp_lt (tgt := 21) hx hb dX10_curveNamed_12 (by decide) (fun hc_1 => ?_) (fun hc_1 => ?_)
  · refine lv_iconst (v := (-1)) hx hb dX10_curveNamed_21 (by decide) ?_
    exact W.iret (v := (-1)) hx hb hr (fun t ht hW => ⟨⟨(-1), ws, rfl, hT, by rw [ht]; exact hP, by rw [hAe]; exact hD⟩, hS.F ht⟩) hS.2.2 dX10_curveNamed_22
  · refine lv_iload_n hx hb dX10_curveNamed_15 rfl (lv_at hl 0 rfl) ?_
    refine lv_bipush (v := 6) hx hb dX10_curveNamed_16 (by decide) ?_
    refine lv_icmp_le (tgt := 23) hx hb dX10_curveNamed_18 (by decide) (fun hc_2 => ?_) (fun hc_2 => ?_)
    · refine lv_aload_n hx hb dX10_curveNamed_23 rfl (lv_at hl 1 rfl) ?_
      refine va_get (v := .ref w) (D := D) (ci := 10) (C := RX10) (T := TX10) (N := 6) hx hb hts in_X10 hown hK hP 0 rfl rfl 0 (by decide) (hts _ kl_RX10_10) (fun _ h9 => h9) rfl dX10_curveNamed_24 ?_
      refine ty_getN (E := [(x, .inr (10, [.ref w, .ref sp, .ref sv, .ref bu, .int 0, .int le]))]) (ws := ws) (D := D) (ci := 9) (C := RX9) (T := TX9) (N := 8) hx hb hts in_X9 hown hK hP hT h_w rfl 2 (by decide) (hts _ kl_RX10_67) (fun _ h9 => h9) rfl dX10_curveNamed_27 (fun _ hv_3 hf_4 => ?_)
      obtain ⟨a_5, rfl, ha_6⟩ := hv_3
      refine lv_aload_n hx hb dX10_curveNamed_30 rfl (lv_at hl 1 rfl) ?_
      refine va_get (v := .ref bu) (D := D) (ci := 10) (C := RX10) (T := TX10) (N := 6) hx hb hts in_X10 hown hK hP 0 rfl rfl 3 (by decide) (hts _ kl_RX10_23) (fun _ h9 => h9) rfl dX10_curveNamed_31 ?_
      refine lv_iconst (v := 0) hx hb dX10_curveNamed_34 (by decide) ?_
      refine lv_iload_n hx hb dX10_curveNamed_35 rfl (lv_at hl 0 rfl) ?_
      refine ty_kl (wr := [(x, .inr (10, [.ref w, .ref sp, .ref sv, .ref bu, .int 0, .int le]))]) (wc := ([] ++ ws)) (va_runS (As := [.ref bu, .int 0, .int bl]) (rest := [.ref a_5]) ⟨hx, hb, hml, hown, hts⟩ (t_X10_nameCode l D ct S ws bu nb (0 : Int32) bl _ hT h_bu) (cm_S 3 hts kc_X10_nameCode ki_RX10 kl_RX10_71 ks_X10_nameCode kd_X10_nameCode ⟨Nat.le_of_ble_eq_true rfl, Nat.le_of_ble_eq_true rfl⟩) (ty_preS (wr := [(x, .inr (10, [.ref w, .ref sp, .ref sv, .ref bu, .int 0, .int le]))]) (wc := ([] ++ ws)) hP hK hD hS hA hX) rfl rfl hl.1 rfl (lv_room (Nat.le_of_ble_eq_true rfl)) dX10_curveNamed_36 ⟨Nat.le_of_ble_eq_true rfl, Nat.le_of_ble_eq_true rfl⟩) hP hD hS hA (fun r_7 u H locs hw_8 hP hD hS => ?_)
      obtain ⟨ws_9, rfl⟩ : ∃ z, z = u := ⟨_, rfl⟩
      have hT := hw_8
      have hP : va_P D vwCl ([(x, .inr (10, [.ref w, .ref sp, .ref sv, .ref bu, .int 0, .int le]))] ++ ws_9) H := hP
      have hD : va_D A ([(x, .inr (10, [.ref w, .ref sp, .ref sv, .ref bu, .int 0, .int le]))] ++ ws_9) := hD
      refine ty_ki (wr := [(x, .inr (10, [.ref w, .ref sp, .ref sv, .ref bu, .int 0, .int le]))]) (wc := ([] ++ ws_9)) (va_runVN (As := [.long r_7]) (rest := []) ⟨hx, hb, hml, hown, hts⟩ (t_X2_find l D ct S ws_9 a_5 r_7 _ hT ha_6) (cm_VN 1 hts kc_X2_find ki_RX2 kl_RX10_75 kv_X2_find kx_X2_find kd_X2_find ⟨Nat.le_of_ble_eq_true rfl, Nat.le_of_ble_eq_true rfl⟩) (ty_preV (wr := [(x, .inr (10, [.ref w, .ref sp, .ref sv, .ref bu, .int 0, .int le]))]) (E := []) (ws := ws_9) (ci := 2) hP hK hD hS hA hX hT rfl ha_6) rfl rfl hl.1 rfl (lv_room (Nat.le_of_ble_eq_true rfl)) dX10_curveNamed_39 ⟨Nat.le_of_ble_eq_true rfl, Nat.le_of_ble_eq_true rfl⟩) hP hD hS hA (fun r_10 u H locs hw_11 hP hD hS => ?_)
      obtain ⟨ws_12, rfl⟩ : ∃ z, z = u := ⟨_, rfl⟩
      have hT := hw_11
      have hP : va_P D vwCl ([(x, .inr (10, [.ref w, .ref sp, .ref sv, .ref bu, .int 0, .int le]))] ++ ws_12) H := hP
      have hD : va_D A ([(x, .inr (10, [.ref w, .ref sp, .ref sv, .ref bu, .int 0, .int le]))] ++ ws_12) := hD
      exact W.iret (v := r_10) hx hb hr (fun t ht hW => ⟨⟨r_10, ws_12, rfl, hT, by rw [ht]; exact hP, by rw [hAe]; exact hD⟩, hS.F ht⟩) hS.2.2 dX10_curveNamed_42
    · refine lv_iconst (v := (-1)) hx hb dX10_curveNamed_21 (by decide) ?_
      exact W.iret (v := (-1)) hx hb hr (fun t ht hW => ⟨⟨(-1), ws, rfl, hT, by rw [ht]; exact hP, by rw [hAe]; exact hD⟩, hS.F ht⟩) hS.2.2 dX10_curveNamed_22
theorem dX10_saveSnapshot_0 : decode cX10_saveSnapshot 0 = .ok (.iload_n 1, 1) := by decide +kernel
theorem dX10_saveSnapshot_1 : decode cX10_saveSnapshot 1 = .ok (.iconst 0, 1) := by decide +kernel
theorem dX10_saveSnapshot_2 : decode cX10_saveSnapshot 2 = .ok (.iconst 1, 1) := by decide +kernel
theorem dX10_saveSnapshot_3 : decode cX10_saveSnapshot 3 = .ok (.invokestatic 81, 3) := by decide +kernel
theorem dX10_saveSnapshot_6 : decode cX10_saveSnapshot 6 = .ok (.aload_n 0, 1) := by decide +kernel
theorem dX10_saveSnapshot_7 : decode cX10_saveSnapshot 7 = .ok (.iload_n 1, 1) := by decide +kernel
theorem dX10_saveSnapshot_8 : decode cX10_saveSnapshot 8 = .ok (.invokevirtual 347, 3) := by decide +kernel
theorem dX10_saveSnapshot_11 : decode cX10_saveSnapshot 11 = .ok (.astore_n 2, 1) := by decide +kernel
theorem dX10_saveSnapshot_12 : decode cX10_saveSnapshot 12 = .ok (.aload_n 2, 1) := by decide +kernel
theorem dX10_saveSnapshot_13 : decode cX10_saveSnapshot 13 = .ok (.ifnonnull 17, 3) := by decide +kernel
theorem dX10_saveSnapshot_16 : decode cX10_saveSnapshot 16 = .ok (.new 7, 3) := by decide +kernel
theorem dX10_saveSnapshot_19 : decode cX10_saveSnapshot 19 = .ok (.dup, 1) := by decide +kernel
theorem dX10_saveSnapshot_20 : decode cX10_saveSnapshot 20 = .ok (.invokespecial 9, 3) := by decide +kernel
theorem dX10_saveSnapshot_23 : decode cX10_saveSnapshot 23 = .ok (.astore_n 2, 1) := by decide +kernel
theorem dX10_saveSnapshot_24 : decode cX10_saveSnapshot 24 = .ok (.aload_n 0, 1) := by decide +kernel
theorem dX10_saveSnapshot_25 : decode cX10_saveSnapshot 25 = .ok (.iload_n 1, 1) := by decide +kernel
theorem dX10_saveSnapshot_26 : decode cX10_saveSnapshot 26 = .ok (.aload_n 2, 1) := by decide +kernel
theorem dX10_saveSnapshot_27 : decode cX10_saveSnapshot 27 = .ok (.invokevirtual 351, 3) := by decide +kernel
theorem dX10_saveSnapshot_30 : decode cX10_saveSnapshot 30 = .ok (.aload_n 2, 1) := by decide +kernel
theorem dX10_saveSnapshot_31 : decode cX10_saveSnapshot 31 = .ok (.aload_n 0, 1) := by decide +kernel
theorem dX10_saveSnapshot_32 : decode cX10_saveSnapshot 32 = .ok (.getfield 10, 3) := by decide +kernel
theorem dX10_saveSnapshot_35 : decode cX10_saveSnapshot 35 = .ok (.invokevirtual 60, 3) := by decide +kernel
theorem dX10_saveSnapshot_38 : decode cX10_saveSnapshot 38 = .ok (.aload_n 0, 1) := by decide +kernel
theorem dX10_saveSnapshot_39 : decode cX10_saveSnapshot 39 = .ok (.getfield 10, 3) := by decide +kernel
theorem dX10_saveSnapshot_42 : decode cX10_saveSnapshot 42 = .ok (.getfield 164, 3) := by decide +kernel
theorem dX10_saveSnapshot_45 : decode cX10_saveSnapshot 45 = .ok (.ireturn, 1) := by decide +kernel
set_option maxRecDepth 100000 in
set_option maxHeartbeats 4000000 in
theorem t_X10_saveSnapshot (l : Launch) (hfl : l.stackTraces = false) (D : va_G) (ct : Nat → ClassId) (S : ty_S) (ws : va_W) (x : Nat) (w : Nat) (sp : Nat) (sv : Nat) (bu : Nat) (ns : Nat) (nb : Nat) (bl : Int32) (le : Int32) (p1 : Int32) (sz : Nat) (hT : ty_W ct S ws) (h_w : S w = some (.inl 9)) (h_sp : S sp = some (.inl 9)) (h_sv : S sv = some (.inr (4, ns))) (h_bu : S bu = some (.inr (0, nb))) : vx_Met l yX10_saveSnapshot (ws_ yX10_saveSnapshot cX10_saveSnapshot 3 (some .int)) ({ frames := 7, cells := 65, slots := 1109, locals := 167 } : Room) (va_Pc [.ref x, .int p1] (cmP D ct sz ([(x, .inr (10, [.ref w, .ref sp, .ref sv, .ref bu, .int bl, .int le]))] ++ ws))) (va_Qi (fun (r : Int32) (u : va_W × ty_S) => match u with | (u9, S9) => ty_W ct S9 u9 ∧ ty_le S S9) (cmB D ([(x, .inr (10, [.ref w, .ref sp, .ref sv, .ref bu, .int bl, .int le]))] ++ ws) sz (fun (u : va_W × ty_S) => match u with | (u9, S9) => ([(x, .inr (10, [.ref w, .ref sp, .ref sv, .ref bu, .int bl, .int le]))] ++ u9))) (va_A ([(x, .inr (10, [.ref w, .ref sp, .ref sv, .ref bu, .int bl, .int le]))] ++ ws) sz)) (vx_X (fun (u9 : va_W) => ty_W ct S u9) (cmBY D ([(x, .inr (10, [.ref w, .ref sp, .ref sv, .ref bu, .int bl, .int le]))] ++ ws) sz ["java/lang/IllegalArgumentException"] (fun (u9 : va_W) => ([(x, .inr (10, [.ref w, .ref sp, .ref sv, .ref bu, .int bl, .int le]))] ++ u9))) (va_A ([(x, .inr (10, [.ref w, .ref sp, .ref sv, .ref bu, .int bl, .int le]))] ++ ws) sz)) 65 1109 (va_A ([(x, .inr (10, [.ref w, .ref sp, .ref sv, .ref bu, .int bl, .int le]))] ++ ws) sz) := by
  refine vx_ofW (cc := cX10_saveSnapshot) (maxL := 3) (ret := (some .int)) (by decide) rfl ?_
  intro p e s m args below meth c s₁ B hml hex hv
  obtain ⟨rfl, hsz, hP, hK, hD0, hX⟩ := hv
  have hx := B.exec
  have hb := B.bytes
  have hr := B.returns
  have hts := ws_all (atoms_spec (ws := ws_ yX10_saveSnapshot cX10_saveSnapshot 3 (some .int)) B.pre)
  have hown : s.vm.findClass RX10 = some m.cls := findClass_of_methodNamed B.named
  have hlocks := B.notSynchronized
  subst hsz
  have hD := hD0.self (sz := s.heap.size)
  generalize hAe : va_A ([(x, .inr (10, [.ref w, .ref sp, .ref sv, .ref bu, .int bl, .int le]))] ++ ws) s.heap.size = A at hD hX ⊢
  have hA : ∀ q : Nat, s.heap.size ≤ q → A q := fun q h => by rw [← hAe]; exact Or.inr h
  have hS : va_S A s.heap s.heap [] := va_S.rf
  have hl := lv_entry ([.ref x, .int p1]) (n := 3) (Nat.le_of_ble_eq_true rfl)
  rw [lg_entry_eq]
  generalize (lg_sl ([.ref x, .int p1]) ++ List.replicate (3 - (lg_sl ([.ref x, .int p1])).length) Slot.unset).toArray = ls at hl ⊢
  have hl : lv_has ls 3 [(0, .ref x), (1, .int p1)] := hl
  refine lv_iload_n hx hb dX10_saveSnapshot_0 rfl (lv_at hl 1 rfl) ?_
  refine lv_iconst (v := 0) hx hb dX10_saveSnapshot_1 (by decide) ?_
  refine lv_iconst (v := 1) hx hb dX10_saveSnapshot_2 (by decide) ?_
  refine ty_xv (wr := [(x, .inr (10, [.ref w, .ref sp, .ref sv, .ref bu, .int bl, .int le]))]) (wc := ([] ++ ws)) (vx_runS (As := [.int p1, .int 0, .int 1]) (rest := []) ⟨hx, hb, hml, hown, hts⟩ (t_X10_needRange l hfl D ct S ws p1 (0 : Int32) (1 : Int32) _ hT) (cm_S 3 hts kc_X10_needRange ki_RX10 kl_RX10_81 ks_X10_needRange kd_X10_needRange ⟨Nat.le_of_ble_eq_true rfl, Nat.le_of_ble_eq_true rfl⟩) (ty_preS (wr := [(x, .inr (10, [.ref w, .ref sp, .ref sv, .ref bu, .int bl, .int le]))]) (wc := ([] ++ ws)) hP hK hD hS hA hX) rfl rfl hl.1 rfl (lv_room (Nat.le_of_ble_eq_true rfl)) dX10_saveSnapshot_3 ⟨Nat.le_of_ble_eq_true rfl, Nat.le_of_ble_eq_true rfl⟩) hP hD hS hA (fun E ce q9 u H locs hu hE hP hD hS hce hcv hcl => ?_) (fun u H locs hw_2 hP hD hS => ?_)
  · obtain ⟨ws_3, rfl⟩ : ∃ z, z = u := ⟨_, rfl⟩
    have hT := hu
    have hP : va_P D vwCl ([(x, .inr (10, [.ref w, .ref sp, .ref sv, .ref bu, .int bl, .int le]))] ++ ws_3) H := hP
    have hD : va_D A ([(x, .inr (10, [.ref w, .ref sp, .ref sv, .ref bu, .int bl, .int le]))] ++ ws_3) := hD
    exact vx_out (fun x hx => (hex x hx).elim) hlocks hce hcv hcl (fun t ht hW => ⟨ws_3, hT, ⟨hE, by rw [ht]; exact hP, by rw [hAe]; exact hD⟩, hS.F ht⟩) hS.2.2 (Nat.le_of_ble_eq_true rfl) (Nat.le_of_ble_eq_true rfl)
  · obtain ⟨ws_4, rfl⟩ : ∃ z, z = u := ⟨_, rfl⟩
    have hT := hw_2
    have hP : va_P D vwCl ([(x, .inr (10, [.ref w, .ref sp, .ref sv, .ref bu, .int bl, .int le]))] ++ ws_4) H := hP
    have hD : va_D A ([(x, .inr (10, [.ref w, .ref sp, .ref sv, .ref bu, .int bl, .int le]))] ++ ws_4) := hD
    refine W.widen (k := 1) (n := 6) (Nat.le_of_ble_eq_true rfl) (Nat.le_of_ble_eq_true rfl) ?_
    refine lv_aload_n hx hb dX10_saveSnapshot_6 rfl (lv_at hl 0 rfl) ?_
    refine lv_iload_n hx hb dX10_saveSnapshot_7 rfl (lv_at hl 1 rfl) ?_
    refine ty_kq (wr := []) (wc := ([(x, .inr (10, [.ref w, .ref sp, .ref sv, .ref bu, .int bl, .int le]))] ++ ws_4)) (va_runV (As := [.int p1]) (rest := []) ⟨hx, hb, hml, hown, hts⟩ (t_X10_savedAt l D ct S ws_4 x w sp sv bu ns nb bl le p1 _ hT h_w h_sp h_sv h_bu) (cm_V 1 hts kc_X10_savedAt ki_RX10 kl_RX10_347 kv_X10_savedAt kx_X10_savedAt kd_X10_savedAt ⟨Nat.le_of_ble_eq_true rfl, Nat.le_of_ble_eq_true rfl⟩) (ty_preE (wr := []) (wc := ([(x, .inr (10, [.ref w, .ref sp, .ref sv, .ref bu, .int bl, .int le]))] ++ ws_4)) (ci := 10) (q0 := 0) hP hK hD hS hA hX rfl rfl) rfl rfl hl.1 rfl (lv_room (Nat.le_of_ble_eq_true rfl)) dX10_saveSnapshot_8 ⟨Nat.le_of_ble_eq_true rfl, Nat.le_of_ble_eq_true rfl⟩) hP hD hS hA (fun r_5 u H locs hw_6 hP hD hS => ?_)
    obtain ⟨ws_7, rfl⟩ : ∃ z, z = u := ⟨_, rfl⟩
    obtain ⟨hT, hq_8⟩ := hw_6
    have hP : va_P D vwCl ([(x, .inr (10, [.ref w, .ref sp, .ref sv, .ref bu, .int bl, .int le]))] ++ ws_7) H := hP
    have hD : va_D A ([(x, .inr (10, [.ref w, .ref sp, .ref sv, .ref bu, .int bl, .int le]))] ++ ws_7) := hD
    rcases hq_8 with rfl | ⟨a_9, rfl, ha_10⟩
    · refine W.eq (g2 := F0 m 11 ls (.null :: [])) rfl ?_
      refine lv_astore_nN (lv' := [(2, .null), (0, .ref x), (1, .int p1)]) hx hb dX10_saveSnapshot_11 rfl hl (by decide) rfl (fun ls hl => ?_)
      refine lv_aload_nN hx hb dX10_saveSnapshot_12 rfl (lv_at hl 0 rfl) ?_
      refine lv_ifnonnullN hx hb dX10_saveSnapshot_13 ?_
      refine va_new (ci := 9) (fs := [.int 0, .null, .null, .null, .int 0, .null, .null, .null]) (C := RX9) (T := TX9) (N := 8) hx hb hts in_X9 tyX9 tyX9_ok hown (hts _ kl_RX10_7) (hts _ kn_RX9) (hts _ ki_RX9) hK hP hD hS hA rfl fs0_X9 (Nat.le_of_ble_eq_true rfl) (Nat.le_of_ble_eq_true rfl) dX10_saveSnapshot_16 (fun q_11 H hP hD hS => ?_)
      have hP : va_P D vwCl ([(x, .inr (10, [.ref w, .ref sp, .ref sv, .ref bu, .int bl, .int le])), (q_11, .inr (9, [.int 0, .null, .null, .null, .int 0, .null, .null, .null]))] ++ ws_7) H := ty_permP hP ty_mvp
      have hD : va_D A ([(x, .inr (10, [.ref w, .ref sp, .ref sv, .ref bu, .int bl, .int le])), (q_11, .inr (9, [.int 0, .null, .null, .null, .int 0, .null, .null, .null]))] ++ ws_7) := ty_permD hD ty_mvp
      refine W.widen (k := 2) (n := 14) (Nat.le_of_ble_eq_true rfl) (Nat.le_of_ble_eq_true rfl) ?_
      refine lv_dup hx hb dX10_saveSnapshot_19 rfl ?_
      refine ty_kv (wr := [(x, .inr (10, [.ref w, .ref sp, .ref sv, .ref bu, .int bl, .int le]))]) (wc := ([(q_11, .inr (9, [.int 0, .null, .null, .null, .int 0, .null, .null, .null]))] ++ ws_7)) (va_runIN (As := []) (rest := [.ref q_11]) ⟨hx, hb, hml, hown, hts⟩ (t_X9_init l D ct S ws_7 q_11 _ hT) (cm_IN 0 hts kc_X9_init ki_RX9 kl_RX10_9 kv_X9_init rfl kd_X9_init ⟨Nat.le_of_ble_eq_true rfl, Nat.le_of_ble_eq_true rfl⟩) (ty_preS (wr := [(x, .inr (10, [.ref w, .ref sp, .ref sv, .ref bu, .int bl, .int le]))]) (wc := ([(q_11, .inr (9, [.int 0, .null, .null, .null, .int 0, .null, .null, .null]))] ++ ws_7)) hP hK hD hS hA hX) rfl rfl hl.1 rfl (lv_room (Nat.le_of_ble_eq_true rfl)) dX10_saveSnapshot_20 ⟨Nat.le_of_ble_eq_true rfl, Nat.le_of_ble_eq_true rfl⟩) hP hD hS hA (fun u H locs hw_13 hP hD hS => ?_)
      obtain ⟨ws_14, S_15⟩ := u
      obtain ⟨hT, hle_16, hp_17⟩ := hw_13
      have hp_17 : S_15 q_11 = some (.inl 9) := hp_17
      have hg_18 := hle_16 _ _ h_w
      have hg_19 := hle_16 _ _ h_sp
      have hg_20 := hle_16 _ _ h_sv
      have hg_21 := hle_16 _ _ h_bu
      have hP : va_P D vwCl ([(x, .inr (10, [.ref w, .ref sp, .ref sv, .ref bu, .int bl, .int le]))] ++ ws_14) H := hP
      have hD : va_D A ([(x, .inr (10, [.ref w, .ref sp, .ref sv, .ref bu, .int bl, .int le]))] ++ ws_14) := hD
      refine W.widen (k := 65) (n := 1109) (Nat.le_of_ble_eq_true rfl) (Nat.le_of_ble_eq_true rfl) ?_
      refine lv_astore_n (lv' := [(2, .ref q_11), (0, .ref x), (1, .int p1)]) hx hb dX10_saveSnapshot_23 rfl hl (by decide) rfl (fun ls hl => ?_)
      refine lv_aload_n hx hb dX10_saveSnapshot_24 rfl (lv_at hl 1 rfl) ?_
      refine lv_iload_n hx hb dX10_saveSnapshot_25 rfl (lv_at hl 2 rfl) ?_
      refine lv_aload_n hx hb dX10_saveSnapshot_26 rfl (lv_at hl 0 rfl) ?_
      refine ty_kv (wr := []) (wc := ([(x, .inr (10, [.ref w, .ref sp, .ref sv, .ref bu, .int bl, .int le]))] ++ ws_14)) (va_runV (As := [.int p1, .ref q_11]) (rest := []) ⟨hx, hb, hml, hown, hts⟩ (t_X10_keepAt l D ct S_15 ws_14 x w sp sv bu ns nb bl le p1 q_11 _ hT hg_18 hg_19 hg_20 hg_21 hp_17) (cm_V 2 hts kc_X10_keepAt ki_RX10 kl_RX10_351 kv_X10_keepAt kx_X10_keepAt kd_X10_keepAt ⟨Nat.le_of_ble_eq_true rfl, Nat.le_of_ble_eq_true rfl⟩) (ty_preE (wr := []) (wc := ([(x, .inr (10, [.ref w, .ref sp, .ref sv, .ref bu, .int bl, .int le]))] ++ ws_14)) (ci := 10) (q0 := 0) hP hK hD hS hA hX rfl rfl) rfl rfl hl.1 rfl (lv_room (Nat.le_of_ble_eq_true rfl)) dX10_saveSnapshot_27 ⟨Nat.le_of_ble_eq_true rfl, Nat.le_of_ble_eq_true rfl⟩) hP hD hS hA (fun u H locs hw_23 hP hD hS => ?_)
      obtain ⟨ws_24, rfl⟩ : ∃ z, z = u := ⟨_, rfl⟩
      have hT := hw_23
      have hP : va_P D vwCl ([(x, .inr (10, [.ref w, .ref sp, .ref sv, .ref bu, .int bl, .int le]))] ++ ws_24) H := hP
      have hD : va_D A ([(x, .inr (10, [.ref w, .ref sp, .ref sv, .ref bu, .int bl, .int le]))] ++ ws_24) := hD
      refine lv_aload_n hx hb dX10_saveSnapshot_30 rfl (lv_at hl 0 rfl) ?_
      refine lv_aload_n hx hb dX10_saveSnapshot_31 rfl (lv_at hl 1 rfl) ?_
      refine va_get (v := .ref w) (D := D) (ci := 10) (C := RX10) (T := TX10) (N := 6) hx hb hts in_X10 hown hK hP 0 rfl rfl 0 (by decide) (hts _ kl_RX10_10) (fun _ h9 => h9) rfl dX10_saveSnapshot_32 ?_
      refine ty_kv (wr := [(x, .inr (10, [.ref w, .ref sp, .ref sv, .ref bu, .int bl, .int le]))]) (wc := ([] ++ ws_24)) (va_runVN (As := [.ref w]) (rest := []) ⟨hx, hb, hml, hown, hts⟩ (t_X9_copyFrom l D ct S_15 ws_24 q_11 w _ hT hp_17 hg_18) (cm_VN 1 hts kc_X9_copyFrom ki_RX9 kl_RX10_60 kv_X9_copyFrom kx_X9_copyFrom kd_X9_copyFrom ⟨Nat.le_of_ble_eq_true rfl, Nat.le_of_ble_eq_true rfl⟩) (ty_preV (wr := [(x, .inr (10, [.ref w, .ref sp, .ref sv, .ref bu, .int bl, .int le]))]) (E := []) (ws := ws_24) (ci := 9) hP hK hD hS hA hX hT rfl hp_17) rfl rfl hl.1 rfl (lv_room (Nat.le_of_ble_eq_true rfl)) dX10_saveSnapshot_35 ⟨Nat.le_of_ble_eq_true rfl, Nat.le_of_ble_eq_true rfl⟩) hP hD hS hA (fun u H locs hw_26 hP hD hS => ?_)
      obtain ⟨ws_27, rfl⟩ : ∃ z, z = u := ⟨_, rfl⟩
      have hT := hw_26
      have hP : va_P D vwCl ([(x, .inr (10, [.ref w, .ref sp, .ref sv, .ref bu, .int bl, .int le]))] ++ ws_27) H := hP
      have hD : va_D A ([(x, .inr (10, [.ref w, .ref sp, .ref sv, .ref bu, .int bl, .int le]))] ++ ws_27) := hD
      refine lv_aload_n hx hb dX10_saveSnapshot_38 rfl (lv_at hl 1 rfl) ?_
      refine va_get (v := .ref w) (D := D) (ci := 10) (C := RX10) (T := TX10) (N := 6) hx hb hts in_X10 hown hK hP 0 rfl rfl 0 (by decide) (hts _ kl_RX10_10) (fun _ h9 => h9) rfl dX10_saveSnapshot_39 ?_
      refine ty_getN (E := [(x, .inr (10, [.ref w, .ref sp, .ref sv, .ref bu, .int bl, .int le]))]) (ws := ws_27) (D := D) (ci := 9) (C := RX9) (T := TX9) (N := 8) hx hb hts in_X9 hown hK hP hT hg_18 rfl 0 (by decide) (hts _ kl_RX10_164) (fun _ h9 => h9) rfl dX10_saveSnapshot_42 (fun _ hv_28 hf_29 => ?_)
      obtain ⟨x_30, rfl⟩ := hv_28
      refine vx_ret ?_
      exact W.iret (v := x_30) hx hb hr (fun t ht hW => ⟨⟨x_30, (ws_27, S_15), rfl, ⟨hT, (fun a9 k9 h9 => hle_16 _ _ ((fun _ _ h9 => h9) a9 k9 h9))⟩, by rw [ht]; exact hP, by rw [hAe]; exact hD⟩, hS.F ht⟩) hS.2.2 dX10_saveSnapshot_45
    · refine W.eq (g2 := F0 m 11 ls (.ref a_9 :: [])) rfl ?_
      refine lv_astore_n (lv' := [(2, .ref a_9), (0, .ref x), (1, .int p1)]) hx hb dX10_saveSnapshot_11 rfl hl (by decide) rfl (fun ls hl => ?_)
      refine lv_aload_n hx hb dX10_saveSnapshot_12 rfl (lv_at hl 0 rfl) ?_
      refine lv_ifnonnull (tgt := 30) hx hb dX10_saveSnapshot_13 (by decide) ?_
      refine lv_aload_n hx hb dX10_saveSnapshot_30 rfl (lv_at hl 0 rfl) ?_
      refine lv_aload_n hx hb dX10_saveSnapshot_31 rfl (lv_at hl 1 rfl) ?_
      refine va_get (v := .ref w) (D := D) (ci := 10) (C := RX10) (T := TX10) (N := 6) hx hb hts in_X10 hown hK hP 0 rfl rfl 0 (by decide) (hts _ kl_RX10_10) (fun _ h9 => h9) rfl dX10_saveSnapshot_32 ?_
      refine ty_kv (wr := [(x, .inr (10, [.ref w, .ref sp, .ref sv, .ref bu, .int bl, .int le]))]) (wc := ([] ++ ws_7)) (va_runVN (As := [.ref w]) (rest := []) ⟨hx, hb, hml, hown, hts⟩ (t_X9_copyFrom l D ct S ws_7 a_9 w _ hT ha_10 h_w) (cm_VN 1 hts kc_X9_copyFrom ki_RX9 kl_RX10_60 kv_X9_copyFrom kx_X9_copyFrom kd_X9_copyFrom ⟨Nat.le_of_ble_eq_true rfl, Nat.le_of_ble_eq_true rfl⟩) (ty_preV (wr := [(x, .inr (10, [.ref w, .ref sp, .ref sv, .ref bu, .int bl, .int le]))]) (E := []) (ws := ws_7) (ci := 9) hP hK hD hS hA hX hT rfl ha_10) rfl rfl hl.1 rfl (lv_room (Nat.le_of_ble_eq_true rfl)) dX10_saveSnapshot_35 ⟨Nat.le_of_ble_eq_true rfl, Nat.le_of_ble_eq_true rfl⟩) hP hD hS hA (fun u H locs hw_32 hP hD hS => ?_)
      obtain ⟨ws_33, rfl⟩ : ∃ z, z = u := ⟨_, rfl⟩
      have hT := hw_32
      have hP : va_P D vwCl ([(x, .inr (10, [.ref w, .ref sp, .ref sv, .ref bu, .int bl, .int le]))] ++ ws_33) H := hP
      have hD : va_D A ([(x, .inr (10, [.ref w, .ref sp, .ref sv, .ref bu, .int bl, .int le]))] ++ ws_33) := hD
      refine lv_aload_n hx hb dX10_saveSnapshot_38 rfl (lv_at hl 1 rfl) ?_
      refine va_get (v := .ref w) (D := D) (ci := 10) (C := RX10) (T := TX10) (N := 6) hx hb hts in_X10 hown hK hP 0 rfl rfl 0 (by decide) (hts _ kl_RX10_10) (fun _ h9 => h9) rfl dX10_saveSnapshot_39 ?_
      refine ty_getN (E := [(x, .inr (10, [.ref w, .ref sp, .ref sv, .ref bu, .int bl, .int le]))]) (ws := ws_33) (D := D) (ci := 9) (C := RX9) (T := TX9) (N := 8) hx hb hts in_X9 hown hK hP hT h_w rfl 0 (by decide) (hts _ kl_RX10_164) (fun _ h9 => h9) rfl dX10_saveSnapshot_42 (fun _ hv_34 hf_35 => ?_)
      obtain ⟨x_36, rfl⟩ := hv_34
      refine W.widen (k := 65) (n := 1109) (Nat.le_of_ble_eq_true rfl) (Nat.le_of_ble_eq_true rfl) ?_
      refine vx_ret ?_
      exact W.iret (v := x_36) hx hb hr (fun t ht hW => ⟨⟨x_36, (ws_33, S), rfl, ⟨hT, (fun _ _ h9 => h9)⟩, by rw [ht]; exact hP, by rw [hAe]; exact hD⟩, hS.F ht⟩) hS.2.2 dX10_saveSnapshot_45
theorem dX6_init_0 : decode cX6_init 0 = .ok (.aload_n 0, 1) := by decide +kernel
theorem dX6_init_1 : decode cX6_init 1 = .ok (.invokespecial 3, 3) := by decide +kernel
theorem dX6_init_4 : decode cX6_init 4 = .ok (.aload_n 0, 1) := by decide +kernel
theorem dX6_init_5 : decode cX6_init 5 = .ok (.aload_n 1, 1) := by decide +kernel
theorem dX6_init_6 : decode cX6_init 6 = .ok (.putfield 9, 3) := by decide +kernel
theorem dX6_init_9 : decode cX6_init 9 = .ok (.aload_n 0, 1) := by decide +kernel
theorem dX6_init_10 : decode cX6_init 10 = .ok (.iload_n 2, 1) := by decide +kernel
theorem dX6_init_11 : decode cX6_init 11 = .ok (.putfield 15, 3) := by decide +kernel
theorem dX6_init_14 : decode cX6_init 14 = .ok (.aload_n 0, 1) := by decide +kernel
theorem dX6_init_15 : decode cX6_init 15 = .ok (.aload_n 3, 1) := by decide +kernel
theorem dX6_init_16 : decode cX6_init 16 = .ok (.putfield 19, 3) := by decide +kernel
theorem dX6_init_19 : decode cX6_init 19 = .ok (.return_, 1) := by decide +kernel
set_option maxRecDepth 100000 in
set_option maxHeartbeats 4000000 in
theorem t_X6_init (l : Launch) (D : va_G) (ct : Nat → ClassId) (S : ty_S) (ws : va_W) (rd : Nat) (bt : Nat) (tg : Nat) (nb : Nat) (ln : Int32) (sz : Nat) (hT : ty_W ct S ws) (h_bt : S bt = some (.inr (0, nb))) (h_tg : S tg = some (.inl 9)) : Met l yX6_init (ws_ yX6_init cX6_init 4 none) ({ frames := 1, cells := 0, slots := 0, locals := 12 } : Room) (va_Pc [.ref rd, .ref bt, .int ln, .ref tg] (cmP D ct sz ([(rd, .inr (6, [.null, .int 0, .null, .int 0, .int 0, .int 0, .int 0]))] ++ ws))) (va_Qv (fun (u9 : va_W) => ty_W ct S u9) (cmB D ([(rd, .inr (6, [.null, .int 0, .null, .int 0, .int 0, .int 0, .int 0]))] ++ ws) sz (fun (u9 : va_W) => ([(rd, .inr (6, [.ref bt, .int ln, .ref tg, .int 0, .int 0, .int 0, .int 0]))] ++ u9))) (va_A ([(rd, .inr (6, [.null, .int 0, .null, .int 0, .int 0, .int 0, .int 0]))] ++ ws) sz)) 0 0 (va_A ([(rd, .inr (6, [.null, .int 0, .null, .int 0, .int 0, .int 0, .int 0]))] ++ ws) sz) := by
  refine Met.ofW (cc := cX6_init) (maxL := 4) (ret := none) (by decide) rfl ?_
  intro p e s m args below meth c s₁ B hml hv
  obtain ⟨rfl, hsz, hP, hK, hD0, hX⟩ := hv
  have hx := B.exec
  have hb := B.bytes
  have hr := B.returns
  have hts := ws_all (atoms_spec (ws := ws_ yX6_init cX6_init 4 none) B.pre)
  have hown : s.vm.findClass RX6 = some m.cls := findClass_of_methodNamed B.named
  have hlocks := B.notSynchronized
  have hin : meth.name = "<init>" := (name_of_methodNamed B.named B.method).1
  subst hsz
  have hD := hD0.self (sz := s.heap.size)
  generalize hAe : va_A ([(rd, .inr (6, [.null, .int 0, .null, .int 0, .int 0, .int 0, .int 0]))] ++ ws) s.heap.size = A at hD hX ⊢
  have hA : ∀ q : Nat, s.heap.size ≤ q → A q := fun q h => by rw [← hAe]; exact Or.inr h
  have hS : va_S A s.heap s.heap [] := va_S.rf
  have hl := lv_entry ([.ref rd, .ref bt, .int ln, .ref tg]) (n := 4) (Nat.le_of_ble_eq_true rfl)
  rw [lg_entry_eq]
  generalize (lg_sl ([.ref rd, .ref bt, .int ln, .ref tg]) ++ List.replicate (4 - (lg_sl ([.ref rd, .ref bt, .int ln, .ref tg])).length) Slot.unset).toArray = ls at hl ⊢
  have hl : lv_has ls 4 [(0, .ref rd), (1, .ref bt), (2, .int ln), (3, .ref tg)] := hl
  refine lv_aload_n hx hb dX6_init_0 rfl (lv_at hl 0 rfl) ?_
  refine W.objInit hx hb hown (hts _ kl_RX6_3) (hts _ kv_java_lang_Object_init) (hts _ kc_java_lang_Object_init) rfl (by rw [hml]; exact hl.1) rfl dX6_init_1 (Nat.le_of_ble_eq_true rfl) (Nat.le_of_ble_eq_true rfl) ?_
  refine W.eq (g2 := F0 m 4 ls []) rfl ?_
  refine lv_aload_n hx hb dX6_init_4 rfl (lv_at hl 0 rfl) ?_
  refine lv_aload_n hx hb dX6_init_5 rfl (lv_at hl 1 rfl) ?_
  refine va_putF (v := .ref bt) (ty := (tyX6 0)) (D := D) (ci := 6) (C := RX6) (T := TX6) (N := 7) hx hb hts in_X6 tyX6 tyX6_ok nmX6 hown hK hP hD hS 0 rfl rfl 0 (by decide) (hts _ kl_RX6_9) (fun _ h9 => h9) rfl hin rfl (by decide +kernel) rfl rfl (Nat.le_of_ble_eq_true rfl) dX6_init_6 (fun H locs hP hD hS => ?_)
  have hP : va_P D vwCl ([(rd, .inr (6, [.ref bt, .int 0, .null, .int 0, .int 0, .int 0, .int 0]))] ++ ws) H := hP
  have hD : va_D A ([(rd, .inr (6, [.ref bt, .int 0, .null, .int 0, .int 0, .int 0, .int 0]))] ++ ws) := hD
  refine lv_aload_n hx hb dX6_init_9 rfl (lv_at hl 0 rfl) ?_
  refine lv_iload_n hx hb dX6_init_10 rfl (lv_at hl 2 rfl) ?_
  refine va_putF (v := .int ln) (ty := .int) (D := D) (ci := 6) (C := RX6) (T := TX6) (N := 7) hx hb hts in_X6 tyX6 tyX6_ok nmX6 hown hK hP hD hS 0 rfl rfl 1 (by decide) (hts _ kl_RX6_15) (fun _ h9 => h9) rfl hin rfl (by decide +kernel) rfl rfl (Nat.le_of_ble_eq_true rfl) dX6_init_11 (fun H locs hP hD hS => ?_)
  have hP : va_P D vwCl ([(rd, .inr (6, [.ref bt, .int ln, .null, .int 0, .int 0, .int 0, .int 0]))] ++ ws) H := hP
  have hD : va_D A ([(rd, .inr (6, [.ref bt, .int ln, .null, .int 0, .int 0, .int 0, .int 0]))] ++ ws) := hD
  refine lv_aload_n hx hb dX6_init_14 rfl (lv_at hl 0 rfl) ?_
  refine lv_aload_n hx hb dX6_init_15 rfl (lv_at hl 3 rfl) ?_
  refine va_putF (v := .ref tg) (ty := (tyX6 2)) (D := D) (ci := 6) (C := RX6) (T := TX6) (N := 7) hx hb hts in_X6 tyX6 tyX6_ok nmX6 hown hK hP hD hS 0 rfl rfl 2 (by decide) (hts _ kl_RX6_19) (fun _ h9 => h9) rfl hin rfl (by decide +kernel) rfl rfl (Nat.le_of_ble_eq_true rfl) dX6_init_16 (fun H locs hP hD hS => ?_)
  have hP : va_P D vwCl ([(rd, .inr (6, [.ref bt, .int ln, .ref tg, .int 0, .int 0, .int 0, .int 0]))] ++ ws) H := hP
  have hD : va_D A ([(rd, .inr (6, [.ref bt, .int ln, .ref tg, .int 0, .int 0, .int 0, .int 0]))] ++ ws) := hD
  exact W.vret hx hb hr (fun t ht hW => ⟨⟨ws, rfl, hT, by rw [ht]; exact hP, by rw [hAe]; exact hD⟩, hS.F ht⟩) hS.2.2 dX6_init_19
theorem dX10_load_0 : decode cX10_load 0 = .ok (.aload_n 0, 1) := by decide +kernel
theorem dX10_load_1 : decode cX10_load 1 = .ok (.getfield 16, 3) := by decide +kernel
theorem dX10_load_4 : decode cX10_load 4 = .ok (.invokevirtual 40, 3) := by decide +kernel
theorem dX10_load_7 : decode cX10_load 7 = .ok (.new 43, 3) := by decide +kernel
theorem dX10_load_10 : decode cX10_load 10 = .ok (.dup, 1) := by decide +kernel
theorem dX10_load_11 : decode cX10_load 11 = .ok (.aload_n 0, 1) := by decide +kernel
theorem dX10_load_12 : decode cX10_load 12 = .ok (.getfield 23, 3) := by decide +kernel
theorem dX10_load_15 : decode cX10_load 15 = .ok (.aload_n 0, 1) := by decide +kernel
theorem dX10_load_16 : decode cX10_load 16 = .ok (.getfield 27, 3) := by decide +kernel
theorem dX10_load_19 : decode cX10_load 19 = .ok (.aload_n 0, 1) := by decide +kernel
theorem dX10_load_20 : decode cX10_load 20 = .ok (.getfield 16, 3) := by decide +kernel
theorem dX10_load_23 : decode cX10_load 23 = .ok (.invokespecial 45, 3) := by decide +kernel
theorem dX10_load_26 : decode cX10_load 26 = .ok (.astore_n 1, 1) := by decide +kernel
theorem dX10_load_27 : decode cX10_load 27 = .ok (.aload_n 0, 1) := by decide +kernel
theorem dX10_load_28 : decode cX10_load 28 = .ok (.iconst 0, 1) := by decide +kernel
theorem dX10_load_29 : decode cX10_load 29 = .ok (.putfield 27, 3) := by decide +kernel
theorem dX10_load_32 : decode cX10_load 32 = .ok (.aload_n 1, 1) := by decide +kernel
theorem dX10_load_33 : decode cX10_load 33 = .ok (.invokevirtual 48, 3) := by decide +kernel
theorem dX10_load_36 : decode cX10_load 36 = .ok (.aload_n 0, 1) := by decide +kernel
theorem dX10_load_37 : decode cX10_load 37 = .ok (.aload_n 1, 1) := by decide +kernel
theorem dX10_load_38 : decode cX10_load 38 = .ok (.getfield 51, 3) := by decide +kernel
theorem dX10_load_41 : decode cX10_load 41 = .ok (.putfield 31, 3) := by decide +kernel
theorem dX10_load_44 : decode cX10_load 44 = .ok (.aload_n 1, 1) := by decide +kernel
theorem dX10_load_45 : decode cX10_load 45 = .ok (.getfield 51, 3) := by decide +kernel
theorem dX10_load_48 : decode cX10_load 48 = .ok (.ifCond .eq 11, 3) := by decide +kernel
theorem dX10_load_51 : decode cX10_load 51 = .ok (.bipush (-100), 2) := by decide +kernel
theorem dX10_load_53 : decode cX10_load 53 = .ok (.aload_n 1, 1) := by decide +kernel
theorem dX10_load_54 : decode cX10_load 54 = .ok (.getfield 54, 3) := by decide +kernel
theorem dX10_load_57 : decode cX10_load 57 = .ok (.isub, 1) := by decide +kernel
theorem dX10_load_58 : decode cX10_load 58 = .ok (.ireturn, 1) := by decide +kernel
theorem dX10_load_59 : decode cX10_load 59 = .ok (.aload_n 0, 1) := by decide +kernel
theorem dX10_load_60 : decode cX10_load 60 = .ok (.getfield 16, 3) := by decide +kernel
theorem dX10_load_63 : decode cX10_load 63 = .ok (.invokevirtual 57, 3) := by decide +kernel
theorem dX10_load_66 : decode cX10_load 66 = .ok (.aload_n 0, 1) := by decide +kernel
theorem dX10_load_67 : decode cX10_load 67 = .ok (.getfield 10, 3) := by decide +kernel
theorem dX10_load_70 : decode cX10_load 70 = .ok (.aload_n 0, 1) := by decide +kernel
theorem dX10_load_71 : decode cX10_load 71 = .ok (.getfield 16, 3) := by decide +kernel
theorem dX10_load_74 : decode cX10_load 74 = .ok (.invokevirtual 60, 3) := by decide +kernel
theorem dX10_load_77 : decode cX10_load 77 = .ok (.aload_n 0, 1) := by decide +kernel
theorem dX10_load_78 : decode cX10_load 78 = .ok (.getfield 10, 3) := by decide +kernel
theorem dX10_load_81 : decode cX10_load 81 = .ok (.getfield 64, 3) := by decide +kernel
theorem dX10_load_84 : decode cX10_load 84 = .ok (.ireturn, 1) := by decide +kernel
set_option maxRecDepth 100000 in
set_option maxHeartbeats 4000000 in
theorem t_X10_load (l : Launch) (D : va_G) (ct : Nat → ClassId) (S : ty_S) (ws : va_W) (x : Nat) (w : Nat) (sp : Nat) (sv : Nat) (bu : Nat) (ns : Nat) (nb : Nat) (bl : Int32) (le : Int32) (sz : Nat) (hT : ty_W ct S ws) (h_w : S w = some (.inl 9)) (h_sp : S sp = some (.inl 9)) (h_sv : S sv = some (.inr (4, ns))) (h_bu : S bu = some (.inr (0, nb))) (hbl : 0 ≤ bl.toInt ∧ bl.toInt ≤ 800) : Met l yX10_load (ws_ yX10_load cX10_load 2 (some .int)) ({ frames := 8, cells := 1, slots := 7, locals := 173 } : Room) (va_Pc [.ref x] (cmP D ct sz ([(x, .inr (10, [.ref w, .ref sp, .ref sv, .ref bu, .int bl, .int le]))] ++ ws))) (va_Qi (fun (r : Int32) (u : va_W × Int32) => match u with | (u9, le1) => ty_W ct S u9) (cmB D ([(x, .inr (10, [.ref w, .ref sp, .ref sv, .ref bu, .int bl, .int le]))] ++ ws) sz (fun (u : va_W × Int32) => match u with | (u9, le1) => ([(x, .inr (10, [.ref w, .ref sp, .ref sv, .ref bu, .int 0, .int le1]))] ++ u9))) (va_A ([(x, .inr (10, [.ref w, .ref sp, .ref sv, .ref bu, .int bl, .int le]))] ++ ws) sz)) 1 7 (va_A ([(x, .inr (10, [.ref w, .ref sp, .ref sv, .ref bu, .int bl, .int le]))] ++ ws) sz) := by
  refine Met.ofW (cc := cX10_load) (maxL := 2) (ret := (some .int)) (by decide) rfl ?_
  intro p e s m args below meth c s₁ B hml hv
  obtain ⟨rfl, hsz, hP, hK, hD0, hX⟩ := hv
  have hx := B.exec
  have hb := B.bytes
  have hr := B.returns
  have hts := ws_all (atoms_spec (ws := ws_ yX10_load cX10_load 2 (some .int)) B.pre)
  have hown : s.vm.findClass RX10 = some m.cls := findClass_of_methodNamed B.named
  have hlocks := B.notSynchronized
  subst hsz
  have hD := hD0.self (sz := s.heap.size)
  generalize hAe : va_A ([(x, .inr (10, [.ref w, .ref sp, .ref sv, .ref bu, .int bl, .int le]))] ++ ws) s.heap.size = A at hD hX ⊢
  have hA : ∀ q : Nat, s.heap.size ≤ q → A q := fun q h => by rw [← hAe]; exact Or.inr h
  have hS : va_S A s.heap s.heap [] := va_S.rf
  have hl := lv_entry ([.ref x]) (n := 2) (Nat.le_of_ble_eq_true rfl)
  rw [lg_entry_eq]
  generalize (lg_sl ([.ref x]) ++ List.replicate (2 - (lg_sl ([.ref x])).length) Slot.unset).toArray = ls at hl ⊢
  have hl : lv_has ls 2 [(0, .ref x)] := hl
  refine lv_aload_n hx hb dX10_load_0 rfl (lv_at hl 0 rfl) ?_
  refine va_get (v := .ref sp) (D := D) (ci := 10) (C := RX10) (T := TX10) (N := 6) hx hb hts in_X10 hown hK hP 0 rfl rfl 1 (by decide) (hts _ kl_RX10_16) (fun _ h9 => h9) rfl dX10_load_1 ?_
  refine ty_kv (wr := [(x, .inr (10, [.ref w, .ref sp, .ref sv, .ref bu, .int bl, .int le]))]) (wc := ([] ++ ws)) (va_runVN (As := []) (rest := []) ⟨hx, hb, hml, hown, hts⟩ (t_X9_clear l D ct S ws sp _ hT h_sp) (cm_VN 0 hts kc_X9_clear ki_RX9 kl_RX10_40 kv_X9_clear kx_X9_clear kd_X9_clear ⟨Nat.le_of_ble_eq_true rfl, Nat.le_of_ble_eq_true rfl⟩) (ty_preV (wr := [(x, .inr (10, [.ref w, .ref sp, .ref sv, .ref bu, .int bl, .int le]))]) (E := []) (ws := ws) (ci := 9) hP hK hD hS hA hX hT rfl h_sp) rfl rfl hl.1 rfl (lv_room (Nat.le_of_ble_eq_true rfl)) dX10_load_4 ⟨Nat.le_of_ble_eq_true rfl, Nat.le_of_ble_eq_true rfl⟩) hP hD hS hA (fun u H locs hw_2 hP hD hS => ?_)
  obtain ⟨ws_3, rfl⟩ : ∃ z, z = u := ⟨_, rfl⟩
  have hT := hw_2
  have hP : va_P D vwCl ([(x, .inr (10, [.ref w, .ref sp, .ref sv, .ref bu, .int bl, .int le]))] ++ ws_3) H := hP
  have hD : va_D A ([(x, .inr (10, [.ref w, .ref sp, .ref sv, .ref bu, .int bl, .int le]))] ++ ws_3) := hD
  refine va_new (ci := 6) (fs := [.null, .int 0, .null, .int 0, .int 0, .int 0, .int 0]) (C := RX6) (T := TX6) (N := 7) hx hb hts in_X6 tyX6 tyX6_ok hown (hts _ kl_RX10_43) (hts _ kn_RX6) (hts _ ki_RX6) hK hP hD hS hA rfl fs0_X6 (Nat.le_of_ble_eq_true rfl) (Nat.le_of_ble_eq_true rfl) dX10_load_7 (fun q_4 H hP hD hS => ?_)
  have hP : va_P D vwCl ([(x, .inr (10, [.ref w, .ref sp, .ref sv, .ref bu, .int bl, .int le])), (q_4, .inr (6, [.null, .int 0, .null, .int 0, .int 0, .int 0, .int 0]))] ++ ws_3) H := ty_permP hP ty_mvp
  have hD : va_D A ([(x, .inr (10, [.ref w, .ref sp, .ref sv, .ref bu, .int bl, .int le])), (q_4, .inr (6, [.null, .int 0, .null, .int 0, .int 0, .int 0, .int 0]))] ++ ws_3) := ty_permD hD ty_mvp
  refine W.widen (k := 1) (n := 7) (Nat.le_of_ble_eq_true rfl) (Nat.le_of_ble_eq_true rfl) ?_
  refine lv_dup hx hb dX10_load_10 rfl ?_
  refine lv_aload_n hx hb dX10_load_11 rfl (lv_at hl 0 rfl) ?_
  refine va_get (v := .ref bu) (D := D) (ci := 10) (C := RX10) (T := TX10) (N := 6) hx hb hts in_X10 hown hK hP 0 rfl rfl 3 (by decide) (hts _ kl_RX10_23) (fun _ h9 => h9) rfl dX10_load_12 ?_
  refine lv_aload_n hx hb dX10_load_15 rfl (lv_at hl 0 rfl) ?_
  refine va_get (v := .int bl) (D := D) (ci := 10) (C := RX10) (T := TX10) (N := 6) hx hb hts in_X10 hown hK hP 0 rfl rfl 4 (by decide) (hts _ kl_RX10_27) (fun _ h9 => h9) rfl dX10_load_16 ?_
  refine lv_aload_n hx hb dX10_load_19 rfl (lv_at hl 0 rfl) ?_
  refine va_get (v := .ref sp) (D := D) (ci := 10) (C := RX10) (T := TX10) (N := 6) hx hb hts in_X10 hown hK hP 0 rfl rfl 1 (by decide) (hts _ kl_RX10_16) (fun _ h9 => h9) rfl dX10_load_20 ?_
  refine ty_kv (wr := [(x, .inr (10, [.ref w, .ref sp, .ref sv, .ref bu, .int bl, .int le]))]) (wc := ([(q_4, .inr (6, [.null, .int 0, .null, .int 0, .int 0, .int 0, .int 0]))] ++ ws_3)) (va_runIN (As := [.ref bu, .int bl, .ref sp]) (rest := [.ref q_4]) ⟨hx, hb, hml, hown, hts⟩ (t_X6_init l D ct S ws_3 q_4 bu sp nb bl _ hT h_bu h_sp) (cm_IN 3 hts kc_X6_init ki_RX6 kl_RX10_45 kv_X6_init rfl kd_X6_init ⟨Nat.le_of_ble_eq_true rfl, Nat.le_of_ble_eq_true rfl⟩) (ty_preS (wr := [(x, .inr (10, [.ref w, .ref sp, .ref sv, .ref bu, .int bl, .int le]))]) (wc := ([(q_4, .inr (6, [.null, .int 0, .null, .int 0, .int 0, .int 0, .int 0]))] ++ ws_3)) hP hK hD hS hA hX) rfl rfl hl.1 rfl (lv_room (Nat.le_of_ble_eq_true rfl)) dX10_load_23 ⟨Nat.le_of_ble_eq_true rfl, Nat.le_of_ble_eq_true rfl⟩) hP hD hS hA (fun u H locs hw_6 hP hD hS => ?_)
  obtain ⟨ws_7, rfl⟩ : ∃ z, z = u := ⟨_, rfl⟩
  have hT := hw_6
  have hP : va_P D vwCl ([(x, .inr (10, [.ref w, .ref sp, .ref sv, .ref bu, .int bl, .int le])), (q_4, .inr (6, [.ref bu, .int bl, .ref sp, .int 0, .int 0, .int 0, .int 0]))] ++ ws_7) H := hP
  have hD : va_D A ([(x, .inr (10, [.ref w, .ref sp, .ref sv, .ref bu, .int bl, .int le])), (q_4, .inr (6, [.ref bu, .int bl, .ref sp, .int 0, .int 0, .int 0, .int 0]))] ++ ws_7) := hD
  refine lv_astore_n (lv' := [(1, .ref q_4), (0, .ref x)]) hx hb dX10_load_26 rfl hl (by decide) rfl (fun ls hl => ?_)
  refine lv_aload_n hx hb dX10_load_27 rfl (lv_at hl 1 rfl) ?_
  refine lv_iconst (v := 0) hx hb dX10_load_28 (by decide) ?_
  refine va_put (v := .int 0) (ty := .int) (D := D) (ci := 10) (C := RX10) (T := TX10) (N := 6) hx hb hts in_X10 tyX10 tyX10_ok nmX10 hown hK hP hD hS 0 rfl rfl 4 (by decide) (hts _ kl_RX10_27) (fun _ h9 => h9) rfl (by decide +kernel) rfl rfl (Nat.le_of_ble_eq_true rfl) dX10_load_29 (fun H locs hP hD hS => ?_)
  have hP : va_P D vwCl ([(x, .inr (10, [.ref w, .ref sp, .ref sv, .ref bu, .int 0, .int le])), (q_4, .inr (6, [.ref bu, .int bl, .ref sp, .int 0, .int 0, .int 0, .int 0]))] ++ ws_7) H := hP
  have hD : va_D A ([(x, .inr (10, [.ref w, .ref sp, .ref sv, .ref bu, .int 0, .int le])), (q_4, .inr (6, [.ref bu, .int bl, .ref sp, .int 0, .int 0, .int 0, .int 0]))] ++ ws_7) := hD
  refine lv_aload_n hx hb dX10_load_32 rfl (lv_at hl 0 rfl) ?_
  refine ty_kv (wr := [(x, .inr (10, [.ref w, .ref sp, .ref sv, .ref bu, .int 0, .int le]))]) (wc := ([(q_4, .inr (6, [.ref bu, .int bl, .ref sp, .int 0, .int 0, .int 0, .int 0]))] ++ ws_7)) (va_runVN (As := []) (rest := []) ⟨hx, hb, hml, hown, hts⟩ (t_X6_readText l D ct S ws_7 q_4 bu sp nb bl (0 : Int32) (0 : Int32) (0 : Int32) (0 : Int32) _ hT h_bu h_sp (ty_bl hbl)) (cm_VN 0 hts kc_X6_readText ki_RX6 kl_RX10_48 kv_X6_readText kx_X6_readText kd_X6_readText ⟨Nat.le_of_ble_eq_true rfl, Nat.le_of_ble_eq_true rfl⟩) (ty_preE (wr := [(x, .inr (10, [.ref w, .ref sp, .ref sv, .ref bu, .int 0, .int le]))]) (wc := ([(q_4, .inr (6, [.ref bu, .int bl, .ref sp, .int 0, .int 0, .int 0, .int 0]))] ++ ws_7)) (ci := 6) (q0 := 1) hP hK hD hS hA hX rfl rfl) rfl rfl hl.1 rfl (lv_room (Nat.le_of_ble_eq_true rfl)) dX10_load_33 ⟨Nat.le_of_ble_eq_true rfl, Nat.le_of_ble_eq_true rfl⟩) hP hD hS hA (fun u H locs hw_9 hP hD hS => ?_)
  obtain ⟨ws_10, pl1_11, ws1_12, er1_13, ep1_14⟩ := u
  have hT := hw_9
  have hP : va_P D vwCl ([(x, .inr (10, [.ref w, .ref sp, .ref sv, .ref bu, .int 0, .int le])), (q_4, .inr (6, [.ref bu, .int bl, .ref sp, .int pl1_11, .int ws1_12, .int er1_13, .int ep1_14]))] ++ ws_10) H := hP
  have hD : va_D A ([(x, .inr (10, [.ref w, .ref sp, .ref sv, .ref bu, .int 0, .int le])), (q_4, .inr (6, [.ref bu, .int bl, .ref sp, .int pl1_11, .int ws1_12, .int er1_13, .int ep1_14]))] ++ ws_10) := hD
  refine lv_aload_n hx hb dX10_load_36 rfl (lv_at hl 1 rfl) ?_
  refine lv_aload_n hx hb dX10_load_37 rfl (lv_at hl 0 rfl) ?_
  refine va_getN (v := .int er1_13) (D := D) (ci := 6) (C := RX6) (T := TX6) (N := 7) hx hb hts in_X6 hown hK hP 1 rfl rfl 5 (by decide) (hts _ kl_RX10_51) (fun _ h9 => h9) rfl dX10_load_38 ?_
  refine va_put (v := .int er1_13) (ty := .int) (D := D) (ci := 10) (C := RX10) (T := TX10) (N := 6) hx hb hts in_X10 tyX10 tyX10_ok nmX10 hown hK hP hD hS 0 rfl rfl 5 (by decide) (hts _ kl_RX10_31) (fun _ h9 => h9) rfl (by decide +kernel) rfl rfl (Nat.le_of_ble_eq_true rfl) dX10_load_41 (fun H locs hP hD hS => ?_)
  have hP : va_P D vwCl ([(x, .inr (10, [.ref w, .ref sp, .ref sv, .ref bu, .int 0, .int er1_13])), (q_4, .inr (6, [.ref bu, .int bl, .ref sp, .int pl1_11, .int ws1_12, .int er1_13, .int ep1_14]))] ++ ws_10) H := hP
  have hD : va_D A ([(x, .inr (10, [.ref w, .ref sp, .ref sv, .ref bu, .int 0, .int er1_13])), (q_4, .inr (6, [.ref bu, .int bl, .ref sp, .int pl1_11, .int ws1_12, .int er1_13, .int ep1_14]))] ++ ws_10) := hD
  refine lv_aload_n hx hb dX10_load_44 rfl (lv_at hl 0 rfl) ?_
  refine va_getN (v := .int er1_13) (D := D) (ci := 6) (C := RX6) (T := TX6) (N := 7) hx hb hts in_X6 hown hK hP 1 rfl rfl 5 (by decide) (hts _ kl_RX10_51) (fun _ h9 => h9) rfl dX10_load_45 ?_
  refine lv_if_eq (tgt := 59) hx hb dX10_load_48 (by decide) (fun hc_15 => ?_) (fun hc_15 => ?_)
  · refine lv_aload_n hx hb dX10_load_59 rfl (lv_at hl 1 rfl) ?_
    refine va_get (v := .ref sp) (D := D) (ci := 10) (C := RX10) (T := TX10) (N := 6) hx hb hts in_X10 hown hK hP 0 rfl rfl 1 (by decide) (hts _ kl_RX10_16) (fun _ h9 => h9) rfl dX10_load_60 ?_
    refine ty_kv (wr := [(x, .inr (10, [.ref w, .ref sp, .ref sv, .ref bu, .int 0, .int er1_13])), (q_4, .inr (6, [.ref bu, .int bl, .ref sp, .int pl1_11, .int ws1_12, .int er1_13, .int ep1_14]))]) (wc := ([] ++ ws_10)) (va_runVN (As := []) (rest := []) ⟨hx, hb, hml, hown, hts⟩ (t_X9_insertCells l D ct S ws_10 sp _ hT h_sp) (cm_VN 0 hts kc_X9_insertCells ki_RX9 kl_RX10_57 kv_X9_insertCells kx_X9_insertCells kd_X9_insertCells ⟨Nat.le_of_ble_eq_true rfl, Nat.le_of_ble_eq_true rfl⟩) (ty_preV (wr := [(x, .inr (10, [.ref w, .ref sp, .ref sv, .ref bu, .int 0, .int er1_13])), (q_4, .inr (6, [.ref bu, .int bl, .ref sp, .int pl1_11, .int ws1_12, .int er1_13, .int ep1_14]))]) (E := []) (ws := ws_10) (ci := 9) hP hK hD hS hA hX hT rfl h_sp) rfl rfl hl.1 rfl (lv_room (Nat.le_of_ble_eq_true rfl)) dX10_load_63 ⟨Nat.le_of_ble_eq_true rfl, Nat.le_of_ble_eq_true rfl⟩) hP hD hS hA (fun u H locs hw_17 hP hD hS => ?_)
    obtain ⟨ws_18, rfl⟩ : ∃ z, z = u := ⟨_, rfl⟩
    have hT := hw_17
    have hP : va_P D vwCl ([(x, .inr (10, [.ref w, .ref sp, .ref sv, .ref bu, .int 0, .int er1_13])), (q_4, .inr (6, [.ref bu, .int bl, .ref sp, .int pl1_11, .int ws1_12, .int er1_13, .int ep1_14]))] ++ ws_18) H := hP
    have hD : va_D A ([(x, .inr (10, [.ref w, .ref sp, .ref sv, .ref bu, .int 0, .int er1_13])), (q_4, .inr (6, [.ref bu, .int bl, .ref sp, .int pl1_11, .int ws1_12, .int er1_13, .int ep1_14]))] ++ ws_18) := hD
    refine lv_aload_n hx hb dX10_load_66 rfl (lv_at hl 1 rfl) ?_
    refine va_get (v := .ref w) (D := D) (ci := 10) (C := RX10) (T := TX10) (N := 6) hx hb hts in_X10 hown hK hP 0 rfl rfl 0 (by decide) (hts _ kl_RX10_10) (fun _ h9 => h9) rfl dX10_load_67 ?_
    refine lv_aload_n hx hb dX10_load_70 rfl (lv_at hl 1 rfl) ?_
    refine va_get (v := .ref sp) (D := D) (ci := 10) (C := RX10) (T := TX10) (N := 6) hx hb hts in_X10 hown hK hP 0 rfl rfl 1 (by decide) (hts _ kl_RX10_16) (fun _ h9 => h9) rfl dX10_load_71 ?_
    refine ty_kv (wr := [(x, .inr (10, [.ref w, .ref sp, .ref sv, .ref bu, .int 0, .int er1_13])), (q_4, .inr (6, [.ref bu, .int bl, .ref sp, .int pl1_11, .int ws1_12, .int er1_13, .int ep1_14]))]) (wc := ([] ++ ws_18)) (va_runVN (As := [.ref sp]) (rest := []) ⟨hx, hb, hml, hown, hts⟩ (t_X9_copyFrom l D ct S ws_18 w sp _ hT h_w h_sp) (cm_VN 1 hts kc_X9_copyFrom ki_RX9 kl_RX10_60 kv_X9_copyFrom kx_X9_copyFrom kd_X9_copyFrom ⟨Nat.le_of_ble_eq_true rfl, Nat.le_of_ble_eq_true rfl⟩) (ty_preV (wr := [(x, .inr (10, [.ref w, .ref sp, .ref sv, .ref bu, .int 0, .int er1_13])), (q_4, .inr (6, [.ref bu, .int bl, .ref sp, .int pl1_11, .int ws1_12, .int er1_13, .int ep1_14]))]) (E := []) (ws := ws_18) (ci := 9) hP hK hD hS hA hX hT rfl h_w) rfl rfl hl.1 rfl (lv_room (Nat.le_of_ble_eq_true rfl)) dX10_load_74 ⟨Nat.le_of_ble_eq_true rfl, Nat.le_of_ble_eq_true rfl⟩) hP hD hS hA (fun u H locs hw_20 hP hD hS => ?_)
    obtain ⟨ws_21, rfl⟩ : ∃ z, z = u := ⟨_, rfl⟩
    have hT := hw_20
    have hP : va_P D vwCl ([(x, .inr (10, [.ref w, .ref sp, .ref sv, .ref bu, .int 0, .int er1_13])), (q_4, .inr (6, [.ref bu, .int bl, .ref sp, .int pl1_11, .int ws1_12, .int er1_13, .int ep1_14]))] ++ ws_21) H := hP
    have hD : va_D A ([(x, .inr (10, [.ref w, .ref sp, .ref sv, .ref bu, .int 0, .int er1_13])), (q_4, .inr (6, [.ref bu, .int bl, .ref sp, .int pl1_11, .int ws1_12, .int er1_13, .int ep1_14]))] ++ ws_21) := hD
    refine lv_aload_n hx hb dX10_load_77 rfl (lv_at hl 1 rfl) ?_
    refine va_get (v := .ref w) (D := D) (ci := 10) (C := RX10) (T := TX10) (N := 6) hx hb hts in_X10 hown hK hP 0 rfl rfl 0 (by decide) (hts _ kl_RX10_10) (fun _ h9 => h9) rfl dX10_load_78 ?_
    refine ty_getN (E := [(x, .inr (10, [.ref w, .ref sp, .ref sv, .ref bu, .int 0, .int er1_13])), (q_4, .inr (6, [.ref bu, .int bl, .ref sp, .int pl1_11, .int ws1_12, .int er1_13, .int ep1_14]))]) (ws := ws_21) (D := D) (ci := 9) (C := RX9) (T := TX9) (N := 8) hx hb hts in_X9 hown hK hP hT h_w rfl 4 (by decide) (hts _ kl_RX10_64) (fun _ h9 => h9) rfl dX10_load_81 (fun _ hv_22 hf_23 => ?_)
    obtain ⟨x_24, rfl⟩ := hv_22
    have hP : va_P D vwCl ([(x, .inr (10, [.ref w, .ref sp, .ref sv, .ref bu, .int 0, .int er1_13]))] ++ ws_21) H := ty_subP hP (ty_dr1 (E := [(x, .inr (10, [.ref w, .ref sp, .ref sv, .ref bu, .int 0, .int er1_13]))]) (x := (q_4, .inr (6, [.ref bu, .int bl, .ref sp, .int pl1_11, .int ws1_12, .int er1_13, .int ep1_14]))))
    have hD : va_D A ([(x, .inr (10, [.ref w, .ref sp, .ref sv, .ref bu, .int 0, .int er1_13]))] ++ ws_21) := ty_subD hD (ty_dr1 (E := [(x, .inr (10, [.ref w, .ref sp, .ref sv, .ref bu, .int 0, .int er1_13]))]) (x := (q_4, .inr (6, [.ref bu, .int bl, .ref sp, .int pl1_11, .int ws1_12, .int er1_13, .int ep1_14]))))
    exact W.iret (v := x_24) hx hb hr (fun t ht hW => ⟨⟨x_24, (ws_21, er1_13), rfl, hT, by rw [ht]; exact hP, by rw [hAe]; exact hD⟩, hS.F ht⟩) hS.2.2 dX10_load_84
  · refine lv_bipush (v := (-100)) hx hb dX10_load_51 (by decide) ?_
    refine lv_aload_n hx hb dX10_load_53 rfl (lv_at hl 0 rfl) ?_
    refine va_getN (v := .int ep1_14) (D := D) (ci := 6) (C := RX6) (T := TX6) (N := 7) hx hb hts in_X6 hown hK hP 1 rfl rfl 6 (by decide) (hts _ kl_RX10_54) (fun _ h9 => h9) rfl dX10_load_54 ?_
    refine lv_isub hx hb dX10_load_57 ?_
    refine lv_topi (fun x_25 _ => ?_)
    have hP : va_P D vwCl ([(x, .inr (10, [.ref w, .ref sp, .ref sv, .ref bu, .int 0, .int er1_13]))] ++ ws_10) H := ty_subP hP (ty_dr1 (E := [(x, .inr (10, [.ref w, .ref sp, .ref sv, .ref bu, .int 0, .int er1_13]))]) (x := (q_4, .inr (6, [.ref bu, .int bl, .ref sp, .int pl1_11, .int ws1_12, .int er1_13, .int ep1_14]))))
    have hD : va_D A ([(x, .inr (10, [.ref w, .ref sp, .ref sv, .ref bu, .int 0, .int er1_13]))] ++ ws_10) := ty_subD hD (ty_dr1 (E := [(x, .inr (10, [.ref w, .ref sp, .ref sv, .ref bu, .int 0, .int er1_13]))]) (x := (q_4, .inr (6, [.ref bu, .int bl, .ref sp, .int pl1_11, .int ws1_12, .int er1_13, .int ep1_14]))))
    exact W.iret (v := x_25) hx hb hr (fun t ht hW => ⟨⟨x_25, (ws_10, er1_13), rfl, hT, by rw [ht]; exact hP, by rw [hAe]; exact hD⟩, hS.F ht⟩) hS.2.2 dX10_load_58
/-! append: what the two loops over the bytes of a long leave -/
def ty_apr (bl : Int32) (b : Int64) : Int32 := if bl + cm_cnt b 8 ≤ 800 then bl + cm_cn2 b 8 else -2
def ty_apb (bl : Int32) (b : Int64) : Int32 := if bl + cm_cnt b 8 ≤ 800 then bl + cm_cn2 b 8 else bl
theorem ty_ap0 {y4 : Int32} {i : Nat} (hi : i ≤ 8) (e : y4 = cm_sh i) (hg : ¬ y4 < 0) : i < 8 := by
  rcases Nat.lt_or_ge i 8 with h | h
  · exact h
  · have e8 : i = 8 := by omega
    subst e8
    rw [e] at hg
    exact absurd (by decide : cm_sh 8 < 0) hg
theorem ty_ap9 {y4 : Int32} {i : Nat} (hi : i ≤ 8) (e : y4 = cm_sh i) (hn : y4 < 0) : i = 8 := by
  rcases Nat.lt_or_ge i 8 with h | h
  · rw [e] at hn
    exact absurd hn (cm_sh_nn i h)
  · omega
theorem ty_ap1 {b : Int64} {y3 y4 : Int32} (h : ∃ i9 : Nat, i9 ≤ 8 ∧ y4 = cm_sh i9 ∧ y3 = cm_cnt b i9) (hg : ¬ y4 < 0) (hb : lg_cmp (cm_byte b y4) 0 = 0) : ∃ i9 : Nat, i9 ≤ 8 ∧ y4 + Int32.ofInt (-8) = cm_sh i9 ∧ y3 = cm_cnt b i9 := by
  obtain ⟨i, hi, e4, e3⟩ := h
  have hlt := ty_ap0 hi e4 hg
  subst e4
  exact ⟨i + 1, hlt, rfl, e3.trans (show (if lg_cmp (cm_byte b (cm_sh i)) 0 = 0 then cm_cnt b i else cm_cnt b i + 1) = cm_cnt b i from if_pos hb).symm⟩
theorem ty_ap2 {b : Int64} {y3 y4 : Int32} (h : ∃ i9 : Nat, i9 ≤ 8 ∧ y4 = cm_sh i9 ∧ y3 = cm_cnt b i9) (hg : ¬ y4 < 0) (hb : ¬ lg_cmp (cm_byte b y4) 0 = 0) : ∃ i9 : Nat, i9 ≤ 8 ∧ y4 + Int32.ofInt (-8) = cm_sh i9 ∧ y3 + Int32.ofInt 1 = cm_cnt b i9 := by
  obtain ⟨i, hi, e4, e3⟩ := h
  have hlt := ty_ap0 hi e4 hg
  subst e4
  refine ⟨i + 1, hlt, rfl, ?_⟩
  rw [e3]
  exact (show (if lg_cmp (cm_byte b (cm_sh i)) 0 = 0 then cm_cnt b i else cm_cnt b i + 1) = cm_cnt b i + 1 from if_neg hb).symm
theorem ty_ap3 {b : Int64} {y3 y4 : Int32} (h : ∃ i9 : Nat, i9 ≤ 8 ∧ y4 = cm_sh i9 ∧ y3 = cm_cnt b i9) (hn : y4 < 0) : y3 = cm_cnt b 8 := by
  obtain ⟨i, hi, e4, e3⟩ := h
  have e8 := ty_ap9 hi e4 hn
  subst e8
  exact e3
theorem ty_ap4 {b : Int64} {bl yb y4 : Int32} (h : ∃ i9 : Nat, i9 ≤ 8 ∧ y4 = cm_sh i9 ∧ yb = bl + cm_cn2 b i9) (hg : ¬ y4 < 0) (hb : (cm_byte b y4).toInt32 = 0) : ∃ i9 : Nat, i9 ≤ 8 ∧ y4 + Int32.ofInt (-8) = cm_sh i9 ∧ yb = bl + cm_cn2 b i9 := by
  obtain ⟨i, hi, e4, e3⟩ := h
  have hlt := ty_ap0 hi e4 hg
  subst e4
  refine ⟨i + 1, hlt, rfl, ?_⟩
  rw [e3]
  exact congrArg (bl + ·) (show (if (cm_byte b (cm_sh i)).toInt32 = 0 then cm_cn2 b i else cm_cn2 b i + 1) = cm_cn2 b i from if_pos hb).symm
theorem ty_ap5 {b : Int64} {bl yb y4 : Int32} (h : ∃ i9 : Nat, i9 ≤ 8 ∧ y4 = cm_sh i9 ∧ yb = bl + cm_cn2 b i9) (hg : ¬ y4 < 0) (hb : ¬ (cm_byte b y4).toInt32 = 0) : ∃ i9 : Nat, i9 ≤ 8 ∧ y4 + Int32.ofInt (-8) = cm_sh i9 ∧ yb + 1 = bl + cm_cn2 b i9 := by
  obtain ⟨i, hi, e4, e3⟩ := h
  have hlt := ty_ap0 hi e4 hg
  subst e4
  refine ⟨i + 1, hlt, rfl, ?_⟩
  rw [e3, Int32.add_assoc]
  exact congrArg (bl + ·) (show (if (cm_byte b (cm_sh i)).toInt32 = 0 then cm_cn2 b i else cm_cn2 b i + 1) = cm_cn2 b i + 1 from if_neg hb).symm
theorem ty_ap6 {b : Int64} {bl yb y4 : Int32} (h : ∃ i9 : Nat, i9 ≤ 8 ∧ y4 = cm_sh i9 ∧ yb = bl + cm_cn2 b i9) (hn : y4 < 0) : yb = bl + cm_cn2 b 8 := by
  obtain ⟨i, hi, e4, e3⟩ := h
  have e8 := ty_ap9 hi e4 hn
  subst e8
  exact e3
theorem ty_ap7 {b : Int64} {bl : Int32} (h : bl + cm_cnt b 8 ≤ 800) : bl + cm_cn2 b 8 = ty_apr bl b ∧ bl + cm_cn2 b 8 = ty_apb bl b := ⟨(if_pos h).symm, (if_pos h).symm⟩
theorem ty_ap8 {b : Int64} {bl : Int32} (h : ¬ bl + cm_cnt b 8 ≤ 800) : -2 = ty_apr bl b ∧ bl = ty_apb bl b := ⟨(if_neg h).symm, (if_neg h).symm⟩
theorem dX10_append_0 : decode cX10_append 0 = .ok (.iconst 0, 1) := by decide +kernel
theorem dX10_append_1 : decode cX10_append 1 = .ok (.istore_n 3, 1) := by decide +kernel
theorem dX10_append_2 : decode cX10_append 2 = .ok (.bipush 56, 2) := by decide +kernel
theorem dX10_append_4 : decode cX10_append 4 = .ok (.istore 4, 2) := by decide +kernel
theorem dX10_append_6 : decode cX10_append 6 = .ok (.iload 4, 2) := by decide +kernel
theorem dX10_append_8 : decode cX10_append 8 = .ok (.ifCond .lt 25, 3) := by decide +kernel
theorem dX10_append_11 : decode cX10_append 11 = .ok (.lload_n 1, 1) := by decide +kernel
theorem dX10_append_12 : decode cX10_append 12 = .ok (.iload 4, 2) := by decide +kernel
theorem dX10_append_14 : decode cX10_append 14 = .ok (.lushr, 1) := by decide +kernel
theorem dX10_append_15 : decode cX10_append 15 = .ok (.ldc2_w 34, 3) := by decide +kernel
theorem dX10_append_18 : decode cX10_append 18 = .ok (.land, 1) := by decide +kernel
theorem dX10_append_19 : decode cX10_append 19 = .ok (.lconst 0, 1) := by decide +kernel
theorem dX10_append_20 : decode cX10_append 20 = .ok (.lcmp, 1) := by decide +kernel
theorem dX10_append_21 : decode cX10_append 21 = .ok (.ifCond .eq 6, 3) := by decide +kernel
theorem dX10_append_24 : decode cX10_append 24 = .ok (.iinc 3 1, 3) := by decide +kernel
theorem dX10_append_27 : decode cX10_append 27 = .ok (.iinc 4 (-8), 3) := by decide +kernel
theorem dX10_append_30 : decode cX10_append 30 = .ok (.goto (-24), 3) := by decide +kernel
theorem dX10_append_33 : decode cX10_append 33 = .ok (.aload_n 0, 1) := by decide +kernel
theorem dX10_append_34 : decode cX10_append 34 = .ok (.getfield 27, 3) := by decide +kernel
theorem dX10_append_37 : decode cX10_append 37 = .ok (.iload_n 3, 1) := by decide +kernel
theorem dX10_append_38 : decode cX10_append 38 = .ok (.iadd, 1) := by decide +kernel
theorem dX10_append_39 : decode cX10_append 39 = .ok (.sipush 800, 3) := by decide +kernel
theorem dX10_append_42 : decode cX10_append 42 = .ok (.if_icmp .le 6, 3) := by decide +kernel
theorem dX10_append_45 : decode cX10_append 45 = .ok (.bipush (-2), 2) := by decide +kernel
theorem dX10_append_47 : decode cX10_append 47 = .ok (.ireturn, 1) := by decide +kernel
theorem dX10_append_48 : decode cX10_append 48 = .ok (.bipush 56, 2) := by decide +kernel
theorem dX10_append_50 : decode cX10_append 50 = .ok (.istore 4, 2) := by decide +kernel
theorem dX10_append_52 : decode cX10_append 52 = .ok (.iload 4, 2) := by decide +kernel
theorem dX10_append_54 : decode cX10_append 54 = .ok (.ifCond .lt 48, 3) := by decide +kernel
theorem dX10_append_57 : decode cX10_append 57 = .ok (.lload_n 1, 1) := by decide +kernel
theorem dX10_append_58 : decode cX10_append 58 = .ok (.iload 4, 2) := by decide +kernel
theorem dX10_append_60 : decode cX10_append 60 = .ok (.lushr, 1) := by decide +kernel
theorem dX10_append_61 : decode cX10_append 61 = .ok (.ldc2_w 34, 3) := by decide +kernel
theorem dX10_append_64 : decode cX10_append 64 = .ok (.land, 1) := by decide +kernel
theorem dX10_append_65 : decode cX10_append 65 = .ok (.l2i, 1) := by decide +kernel
theorem dX10_append_66 : decode cX10_append 66 = .ok (.istore 5, 2) := by decide +kernel
theorem dX10_append_68 : decode cX10_append 68 = .ok (.iload 5, 2) := by decide +kernel
theorem dX10_append_70 : decode cX10_append 70 = .ok (.ifCond .eq 26, 3) := by decide +kernel
theorem dX10_append_73 : decode cX10_append 73 = .ok (.aload_n 0, 1) := by decide +kernel
theorem dX10_append_74 : decode cX10_append 74 = .ok (.getfield 23, 3) := by decide +kernel
theorem dX10_append_77 : decode cX10_append 77 = .ok (.aload_n 0, 1) := by decide +kernel
theorem dX10_append_78 : decode cX10_append 78 = .ok (.getfield 27, 3) := by decide +kernel
theorem dX10_append_81 : decode cX10_append 81 = .ok (.iload 5, 2) := by decide +kernel
theorem dX10_append_83 : decode cX10_append 83 = .ok (.invokestatic 36, 3) := by decide +kernel
theorem dX10_append_86 : decode cX10_append 86 = .ok (.aload_n 0, 1) := by decide +kernel
theorem dX10_append_87 : decode cX10_append 87 = .ok (.dup, 1) := by decide +kernel
theorem dX10_append_88 : decode cX10_append 88 = .ok (.getfield 27, 3) := by decide +kernel
theorem dX10_append_91 : decode cX10_append 91 = .ok (.iconst 1, 1) := by decide +kernel
theorem dX10_append_92 : decode cX10_append 92 = .ok (.iadd, 1) := by decide +kernel
theorem dX10_append_93 : decode cX10_append 93 = .ok (.putfield 27, 3) := by decide +kernel
theorem dX10_append_96 : decode cX10_append 96 = .ok (.iinc 4 (-8), 3) := by decide +kernel
theorem dX10_append_99 : decode cX10_append 99 = .ok (.goto (-47), 3) := by decide +kernel
theorem dX10_append_102 : decode cX10_append 102 = .ok (.aload_n 0, 1) := by decide +kernel
theorem dX10_append_103 : decode cX10_append 103 = .ok (.getfield 27, 3) := by decide +kernel
theorem dX10_append_106 : decode cX10_append 106 = .ok (.ireturn, 1) := by decide +kernel
set_option maxRecDepth 100000 in
set_option maxHeartbeats 4000000 in
theorem t_X10_append (l : Launch) (D : va_G) (ct : Nat → ClassId) (S : ty_S) (ws : va_W) (x : Nat) (w : Nat) (sp : Nat) (sv : Nat) (bu : Nat) (ns : Nat) (nb : Nat) (bl : Int32) (le : Int32) (p1 : Int64) (sz : Nat) (hT : ty_W ct S ws) (h_w : S w = some (.inl 9)) (h_sp : S sp = some (.inl 9)) (h_sv : S sv = some (.inr (4, ns))) (h_bu : S bu = some (.inr (0, nb))) (hbl : 0 ≤ bl.toInt ∧ bl.toInt ≤ 800) : Met l yX10_append (ws_ yX10_append cX10_append 6 (some .int)) ({ frames := 1, cells := 0, slots := 0, locals := 22 } : Room) (va_Pc [.ref x, .long p1] (cmP D ct sz ([(x, .inr (10, [.ref w, .ref sp, .ref sv, .ref bu, .int bl, .int le]))] ++ ws))) (va_Qi (fun (r : Int32) (u : va_W × Int32) => match u with | (u9, bl1) => ty_W ct S u9 ∧ r = ty_apr bl p1 ∧ bl1 = ty_apb bl p1) (cmB D ([(x, .inr (10, [.ref w, .ref sp, .ref sv, .ref bu, .int bl, .int le]))] ++ ws) sz (fun (u : va_W × Int32) => match u with | (u9, bl1) => ([(x, .inr (10, [.ref w, .ref sp, .ref sv, .ref bu, .int bl1, .int le]))] ++ u9))) (va_A ([(x, .inr (10, [.ref w, .ref sp, .ref sv, .ref bu, .int bl, .int le]))] ++ ws) sz)) 0 0 (va_A ([(x, .inr (10, [.ref w, .ref sp, .ref sv, .ref bu, .int bl, .int le]))] ++ ws) sz) := by
  refine Met.ofW (cc := cX10_append) (maxL := 6) (ret := (some .int)) (by decide) rfl ?_
  intro p e s m args below meth c s₁ B hml hv
  obtain ⟨rfl, hsz, hP, hK, hD0, hX⟩ := hv
  have hx := B.exec
  have hb := B.bytes
  have hr := B.returns
  have hts := ws_all (atoms_spec (ws := ws_ yX10_append cX10_append 6 (some .int)) B.pre)
  have hown : s.vm.findClass RX10 = some m.cls := findClass_of_methodNamed B.named
  have hlocks := B.notSynchronized
  subst hsz
  have hD := hD0.self (sz := s.heap.size)
  generalize hAe : va_A ([(x, .inr (10, [.ref w, .ref sp, .ref sv, .ref bu, .int bl, .int le]))] ++ ws) s.heap.size = A at hD hX ⊢
  have hA : ∀ q : Nat, s.heap.size ≤ q → A q := fun q h => by rw [← hAe]; exact Or.inr h
  have hS : va_S A s.heap s.heap [] := va_S.rf
  have hl := lv_entry ([.ref x, .long p1]) (n := 6) (Nat.le_of_ble_eq_true rfl)
  rw [lg_entry_eq]
  generalize (lg_sl ([.ref x, .long p1]) ++ List.replicate (6 - (lg_sl ([.ref x, .long p1])).length) Slot.unset).toArray = ls at hl ⊢
  have hl : lv_has ls 6 [(0, .ref x), (1, .long p1)] := hl
  refine lv_iconst (v := 0) hx hb dX10_append_0 (by decide) ?_
  refine lv_istore_n (lv' := [(3, .int 0), (0, .ref x), (1, .long p1)]) hx hb dX10_append_1 rfl hl (by decide) rfl (fun ls hl => ?_)
  refine lv_bipush (v := 56) hx hb dX10_append_2 (by decide) ?_
  refine lv_istore (lv' := [(4, .int 56), (3, .int 0), (0, .ref x), (1, .long p1)]) hx hb dX10_append_4 hl (by decide) rfl (fun ls hl => ?_)
  refine ty_loop (I := fun μ H locs ls => ∃ (ws : va_W) (y_1 : Int32) (y_2 : Int32), μ = (y_2.toInt + 2147483648).toNat ∧ ty_W ct S ws ∧ va_P D vwCl ([(x, .inr (10, [.ref w, .ref sp, .ref sv, .ref bu, .int bl, .int le]))] ++ ws) H ∧ va_D A ([(x, .inr (10, [.ref w, .ref sp, .ref sv, .ref bu, .int bl, .int le]))] ++ ws) ∧ va_S A s.heap H locs ∧ lv_has ls 6 [(0, .ref x), (1, .long p1), (3, .int y_1), (4, .int y_2)] ∧ ∃ i9 : Nat, i9 ≤ 8 ∧ y_2 = cm_sh i9 ∧ y_1 = cm_cnt p1 i9) ⟨_, ws, (0 : Int32), (56 : Int32), rfl, hT, hP, hD, hS, (lv_sub hl [2, 3, 1, 0] rfl), ⟨0, by decide, rfl, rfl⟩⟩ (fun μ H locs ls hI ih_6 => ?_)
  obtain ⟨ws, y_1, y_2, rfl, hT, hP, hD, hS, hl, hex_6⟩ := hI
  refine lv_iload hx hb dX10_append_6 (lv_at hl 3 rfl) ?_
  refine lv_if_lt (tgt := 33) hx hb dX10_append_8 (by decide) (fun hc_3 => ?_) (fun hc_3 => ?_)
  · obtain rfl := ty_ap3 hex_6 hc_3
    have hl : lv_has ls 6 [(0, .ref x), (1, .long p1), (3, .int (cm_cnt p1 8)), (4, .int y_2)] := hl
    refine lv_aload_n hx hb dX10_append_33 rfl (lv_at hl 0 rfl) ?_
    refine va_get (v := .int bl) (D := D) (ci := 10) (C := RX10) (T := TX10) (N := 6) hx hb hts in_X10 hown hK hP 0 rfl rfl 4 (by decide) (hts _ kl_RX10_27) (fun _ h9 => h9) rfl dX10_append_34 ?_
    refine lv_iload_n hx hb dX10_append_37 rfl (lv_at hl 2 rfl) ?_
    refine lv_iadd hx hb dX10_append_38 ?_
    refine lv_sipush (v := 800) hx hb dX10_append_39 (by decide) ?_
    refine lv_icmp_le (tgt := 48) hx hb dX10_append_42 (by decide) (fun hc_4 => ?_) (fun hc_4 => ?_)
    · refine lv_bipush (v := 56) hx hb dX10_append_48 (by decide) ?_
      refine lv_istore (lv' := [(4, .int 56), (0, .ref x), (1, .long p1), (3, .int (cm_cnt p1 8))]) hx hb dX10_append_50 hl (by decide) rfl (fun ls hl => ?_)
      refine ty_loop (I := fun μ H locs ls => ∃ (ws : va_W) (y_5 : Int32) (y_6 : Int32), μ = (y_5.toInt + 2147483648).toNat ∧ ty_W ct S ws ∧ va_P D vwCl ([(x, .inr (10, [.ref w, .ref sp, .ref sv, .ref bu, .int y_6, .int le]))] ++ ws) H ∧ va_D A ([(x, .inr (10, [.ref w, .ref sp, .ref sv, .ref bu, .int y_6, .int le]))] ++ ws) ∧ va_S A s.heap H locs ∧ lv_has ls 6 [(0, .ref x), (1, .long p1), (3, .int (cm_cnt p1 8)), (4, .int y_5)] ∧ ∃ i9 : Nat, i9 ≤ 8 ∧ y_5 = cm_sh i9 ∧ y_6 = bl + cm_cn2 p1 i9) ⟨_, ws, (56 : Int32), bl, rfl, hT, hP, hD, hS, (lv_sub hl [1, 2, 3, 0] rfl), ⟨0, by decide, rfl, (Int32.add_zero _).symm⟩⟩ (fun μ H locs ls hI ih_52 => ?_)
      obtain ⟨ws, y_5, y_6, rfl, hT, hP, hD, hS, hl, hex_52⟩ := hI
      refine lv_iload hx hb dX10_append_52 (lv_at hl 3 rfl) ?_
      refine lv_if_lt (tgt := 102) hx hb dX10_append_54 (by decide) (fun hc_7 => ?_) (fun hc_7 => ?_)
      · obtain rfl := ty_ap6 hex_52 hc_7
        have hP : va_P D vwCl ([(x, .inr (10, [.ref w, .ref sp, .ref sv, .ref bu, .int (bl + cm_cn2 p1 8), .int le]))] ++ ws) H := hP
        have hD : va_D A ([(x, .inr (10, [.ref w, .ref sp, .ref sv, .ref bu, .int (bl + cm_cn2 p1 8), .int le]))] ++ ws) := hD
        refine lv_aload_n hx hb dX10_append_102 rfl (lv_at hl 0 rfl) ?_
        refine va_get (v := .int (bl + cm_cn2 p1 8)) (D := D) (ci := 10) (C := RX10) (T := TX10) (N := 6) hx hb hts in_X10 hown hK hP 0 rfl rfl 4 (by decide) (hts _ kl_RX10_27) (fun _ h9 => h9) rfl dX10_append_103 ?_
        exact W.iret (v := (bl + cm_cn2 p1 8)) hx hb hr (fun t ht hW => ⟨⟨(bl + cm_cn2 p1 8), (ws, (bl + cm_cn2 p1 8)), rfl, ⟨hT, ⟨(ty_ap7 hc_4).1, (ty_ap7 hc_4).2⟩⟩, by rw [ht]; exact hP, by rw [hAe]; exact hD⟩, hS.F ht⟩) hS.2.2 dX10_append_106
      · refine lv_lload_n hx hb dX10_append_57 rfl (lv_at hl 1 rfl) ?_
        refine lv_iload hx hb dX10_append_58 (lv_at hl 3 rfl) ?_
        refine lv_lushr (v := (p1.toUInt64 >>> (y_5.toInt64.toUInt64 &&& Int64.toUInt64 63)).toInt64) hx hb dX10_append_60 rfl ?_
        refine lv_ldc2 hx hb hown (hts _ kl_RX10_34) dX10_append_61 ?_
        refine lv_land hx hb dX10_append_64 ?_
        refine cm_cstl (y := (cm_byte p1 y_5)) rfl ?_
        refine lv_l2i hx hb dX10_append_65 rfl ?_
        refine lv_istore (lv' := [(5, .int ((cm_byte p1 y_5).toInt32)), (0, .ref x), (1, .long p1), (3, .int (cm_cnt p1 8)), (4, .int y_5)]) hx hb dX10_append_66 hl (by decide) rfl (fun ls hl => ?_)
        refine lv_iload hx hb dX10_append_68 (lv_at hl 0 rfl) ?_
        refine lv_if_eq (tgt := 96) hx hb dX10_append_70 (by decide) (fun hc_8 => ?_) (fun hc_8 => ?_)
        · refine lv_iinc (v := (y_5 + Int32.ofInt (-8))) (lv' := [(4, .int (y_5 + Int32.ofInt (-8))), (5, .int ((cm_byte p1 y_5).toInt32)), (0, .ref x), (1, .long p1), (3, .int (cm_cnt p1 8))]) hx hb dX10_append_96 hl (k := 4) rfl rfl (by decide) rfl (fun ls hl => ?_)
          refine lv_goto (tgt := 52) hx hb dX10_append_99 (by decide) ?_
          exact ih_52 _ _ _ _ (ty_decn hc_7) ⟨ws, (y_5 + Int32.ofInt (-8)), y_6, rfl, hT, hP, hD, hS, (lv_sub hl [2, 3, 4, 0] rfl), (ty_ap4 hex_52 hc_7 hc_8)⟩
        · refine lv_aload_n hx hb dX10_append_73 rfl (lv_at hl 1 rfl) ?_
          refine va_get (v := .ref bu) (D := D) (ci := 10) (C := RX10) (T := TX10) (N := 6) hx hb hts in_X10 hown hK hP 0 rfl rfl 3 (by decide) (hts _ kl_RX10_23) (fun _ h9 => h9) rfl dX10_append_74 ?_
          refine lv_aload_n hx hb dX10_append_77 rfl (lv_at hl 1 rfl) ?_
          refine va_get (v := .int y_6) (D := D) (ci := 10) (C := RX10) (T := TX10) (N := 6) hx hb hts in_X10 hown hK hP 0 rfl rfl 4 (by decide) (hts _ kl_RX10_27) (fun _ h9 => h9) rfl dX10_append_78 ?_
          refine lv_iload hx hb dX10_append_81 (lv_at hl 0 rfl) ?_
          refine ty_kv (wr := [(x, .inr (10, [.ref w, .ref sp, .ref sv, .ref bu, .int y_6, .int le]))]) (wc := ([] ++ ws)) (va_runS (As := [.ref bu, .int y_6, .int ((cm_byte p1 y_5).toInt32)]) (rest := []) ⟨hx, hb, hml, hown, hts⟩ (t_X10_put l D ct S ws bu nb y_6 ((cm_byte p1 y_5).toInt32) _ hT h_bu) (cm_S 3 hts kc_X10_put ki_RX10 kl_RX10_36 ks_X10_put kd_X10_put ⟨Nat.le_of_ble_eq_true rfl, Nat.le_of_ble_eq_true rfl⟩) (ty_preS (wr := [(x, .inr (10, [.ref w, .ref sp, .ref sv, .ref bu, .int y_6, .int le]))]) (wc := ([] ++ ws)) hP hK hD hS hA hX) rfl rfl hl.1 rfl (lv_room (Nat.le_of_ble_eq_true rfl)) dX10_append_83 ⟨Nat.le_of_ble_eq_true rfl, Nat.le_of_ble_eq_true rfl⟩) hP hD hS hA (fun u H locs hw_10 hP hD hS => ?_)
          obtain ⟨ws_11, rfl⟩ : ∃ z, z = u := ⟨_, rfl⟩
          obtain ⟨hT, hp_12⟩ := hw_10
          have hp_12 : ty_fdle ws ws_11 := hp_12
          have hP : va_P D vwCl ([(x, .inr (10, [.ref w, .ref sp, .ref sv, .ref bu, .int y_6, .int le]))] ++ ws_11) H := hP
          have hD : va_D A ([(x, .inr (10, [.ref w, .ref sp, .ref sv, .ref bu, .int y_6, .int le]))] ++ ws_11) := hD
          refine lv_aload_n hx hb dX10_append_86 rfl (lv_at hl 1 rfl) ?_
          refine lv_dup hx hb dX10_append_87 rfl ?_
          refine va_get (v := .int y_6) (D := D) (ci := 10) (C := RX10) (T := TX10) (N := 6) hx hb hts in_X10 hown hK hP 0 rfl rfl 4 (by decide) (hts _ kl_RX10_27) (fun _ h9 => h9) rfl dX10_append_88 ?_
          refine lv_iconst (v := 1) hx hb dX10_append_91 (by decide) ?_
          refine lv_iadd hx hb dX10_append_92 ?_
          refine va_put (v := .int (y_6 + 1)) (ty := .int) (D := D) (ci := 10) (C := RX10) (T := TX10) (N := 6) hx hb hts in_X10 tyX10 tyX10_ok nmX10 hown hK hP hD hS 0 rfl rfl 4 (by decide) (hts _ kl_RX10_27) (fun _ h9 => h9) rfl (by decide +kernel) rfl rfl (Nat.le_of_ble_eq_true rfl) dX10_append_93 (fun H locs hP hD hS => ?_)
          have hP : va_P D vwCl ([(x, .inr (10, [.ref w, .ref sp, .ref sv, .ref bu, .int (y_6 + 1), .int le]))] ++ ws_11) H := hP
          have hD : va_D A ([(x, .inr (10, [.ref w, .ref sp, .ref sv, .ref bu, .int (y_6 + 1), .int le]))] ++ ws_11) := hD
          refine lv_iinc (v := (y_5 + Int32.ofInt (-8))) (lv' := [(4, .int (y_5 + Int32.ofInt (-8))), (5, .int ((cm_byte p1 y_5).toInt32)), (0, .ref x), (1, .long p1), (3, .int (cm_cnt p1 8))]) hx hb dX10_append_96 hl (k := 4) rfl rfl (by decide) rfl (fun ls hl => ?_)
          refine lv_goto (tgt := 52) hx hb dX10_append_99 (by decide) ?_
          exact ih_52 _ _ _ _ (ty_decn hc_7) ⟨ws_11, (y_5 + Int32.ofInt (-8)), (y_6 + 1), rfl, hT, hP, hD, hS, (lv_sub hl [2, 3, 4, 0] rfl), (ty_ap5 hex_52 hc_7 hc_8)⟩
    · refine lv_bipush (v := (-2)) hx hb dX10_append_45 (by decide) ?_
      exact W.iret (v := (-2)) hx hb hr (fun t ht hW => ⟨⟨(-2), (ws, bl), rfl, ⟨hT, ⟨(ty_ap8 hc_4).1, (ty_ap8 hc_4).2⟩⟩, by rw [ht]; exact hP, by rw [hAe]; exact hD⟩, hS.F ht⟩) hS.2.2 dX10_append_47
  · refine lv_lload_n hx hb dX10_append_11 rfl (lv_at hl 1 rfl) ?_
    refine lv_iload hx hb dX10_append_12 (lv_at hl 3 rfl) ?_
    refine lv_lushr (v := (p1.toUInt64 >>> (y_2.toInt64.toUInt64 &&& Int64.toUInt64 63)).toInt64) hx hb dX10_append_14 rfl ?_
    refine lv_ldc2 hx hb hown (hts _ kl_RX10_34) dX10_append_15 ?_
    refine lv_land hx hb dX10_append_18 ?_
    refine cm_cstl (y := (cm_byte p1 y_2)) rfl ?_
    refine lv_lconst (v := 0) hx hb dX10_append_19 (by decide) ?_
    refine W.lcmp hx hb dX10_append_20 ?_
    refine lv_if_eq (tgt := 27) hx hb dX10_append_21 (by decide) (fun hc_13 => ?_) (fun hc_13 => ?_)
    · refine lv_iinc (v := (y_2 + Int32.ofInt (-8))) (lv' := [(4, .int (y_2 + Int32.ofInt (-8))), (0, .ref x), (1, .long p1), (3, .int y_1)]) hx hb dX10_append_27 hl (k := 3) rfl rfl (by decide) rfl (fun ls hl => ?_)
      refine lv_goto (tgt := 6) hx hb dX10_append_30 (by decide) ?_
      exact ih_6 _ _ _ _ (ty_decn hc_3) ⟨ws, y_1, (y_2 + Int32.ofInt (-8)), rfl, hT, hP, hD, hS, (lv_sub hl [1, 2, 3, 0] rfl), (ty_ap1 hex_6 hc_3 hc_13)⟩
    · refine lv_iinc (v := (y_1 + Int32.ofInt 1)) (lv' := [(3, .int (y_1 + Int32.ofInt 1)), (0, .ref x), (1, .long p1), (4, .int y_2)]) hx hb dX10_append_24 hl (k := 2) rfl rfl (by decide) rfl (fun ls hl => ?_)
      refine lv_iinc (v := (y_2 + Int32.ofInt (-8))) (lv' := [(4, .int (y_2 + Int32.ofInt (-8))), (3, .int (y_1 + Int32.ofInt 1)), (0, .ref x), (1, .long p1)]) hx hb dX10_append_27 hl (k := 3) rfl rfl (by decide) rfl (fun ls hl => ?_)
      refine lv_goto (tgt := 6) hx hb dX10_append_30 (by decide) ?_
      exact ih_6 _ _ _ _ (ty_decn hc_3) ⟨ws, (y_1 + Int32.ofInt 1), (y_2 + Int32.ofInt (-8)), rfl, hT, hP, hD, hS, (lv_sub hl [2, 3, 1, 0] rfl), (ty_ap2 hex_6 hc_3 hc_13)⟩
theorem dX10_shortest_0 : decode cX10_shortest 0 = .ok (.aload_n 0, 1) := by decide +kernel
theorem dX10_shortest_1 : decode cX10_shortest 1 = .ok (.iload_n 1, 1) := by decide +kernel
theorem dX10_shortest_2 : decode cX10_shortest 2 = .ok (.invokevirtual 172, 3) := by decide +kernel
theorem dX10_shortest_5 : decode cX10_shortest 5 = .ok (.pop, 1) := by decide +kernel
theorem dX10_shortest_6 : decode cX10_shortest 6 = .ok (.iconst (-1), 1) := by decide +kernel
theorem dX10_shortest_7 : decode cX10_shortest 7 = .ok (.istore_n 2, 1) := by decide +kernel
theorem dX10_shortest_8 : decode cX10_shortest 8 = .ok (.iconst 0, 1) := by decide +kernel
theorem dX10_shortest_9 : decode cX10_shortest 9 = .ok (.istore_n 3, 1) := by decide +kernel
theorem dX10_shortest_10 : decode cX10_shortest 10 = .ok (.iconst 0, 1) := by decide +kernel
theorem dX10_shortest_11 : decode cX10_shortest 11 = .ok (.istore 4, 2) := by decide +kernel
theorem dX10_shortest_13 : decode cX10_shortest 13 = .ok (.iload 4, 2) := by decide +kernel
theorem dX10_shortest_15 : decode cX10_shortest 15 = .ok (.aload_n 0, 1) := by decide +kernel
theorem dX10_shortest_16 : decode cX10_shortest 16 = .ok (.getfield 10, 3) := by decide +kernel
theorem dX10_shortest_19 : decode cX10_shortest 19 = .ok (.getfield 85, 3) := by decide +kernel
theorem dX10_shortest_22 : decode cX10_shortest 22 = .ok (.getfield 89, 3) := by decide +kernel
theorem dX10_shortest_25 : decode cX10_shortest 25 = .ok (.if_icmp .ge 46, 3) := by decide +kernel
theorem dX10_shortest_28 : decode cX10_shortest 28 = .ok (.aload_n 0, 1) := by decide +kernel
theorem dX10_shortest_29 : decode cX10_shortest 29 = .ok (.aload_n 0, 1) := by decide +kernel
theorem dX10_shortest_30 : decode cX10_shortest 30 = .ok (.iload_n 1, 1) := by decide +kernel
theorem dX10_shortest_31 : decode cX10_shortest 31 = .ok (.iload 4, 2) := by decide +kernel
theorem dX10_shortest_33 : decode cX10_shortest 33 = .ok (.invokevirtual 336, 3) := by decide +kernel
theorem dX10_shortest_36 : decode cX10_shortest 36 = .ok (.iconst 3, 1) := by decide +kernel
theorem dX10_shortest_37 : decode cX10_shortest 37 = .ok (.invokevirtual 324, 3) := by decide +kernel
theorem dX10_shortest_40 : decode cX10_shortest 40 = .ok (.istore 5, 2) := by decide +kernel
theorem dX10_shortest_42 : decode cX10_shortest 42 = .ok (.iload 5, 2) := by decide +kernel
theorem dX10_shortest_44 : decode cX10_shortest 44 = .ok (.iconst (-1), 1) := by decide +kernel
theorem dX10_shortest_45 : decode cX10_shortest 45 = .ok (.if_icmp .eq 20, 3) := by decide +kernel
theorem dX10_shortest_48 : decode cX10_shortest 48 = .ok (.iload_n 2, 1) := by decide +kernel
theorem dX10_shortest_49 : decode cX10_shortest 49 = .ok (.iconst (-1), 1) := by decide +kernel
theorem dX10_shortest_50 : decode cX10_shortest 50 = .ok (.if_icmp .eq 9, 3) := by decide +kernel
theorem dX10_shortest_53 : decode cX10_shortest 53 = .ok (.iload 5, 2) := by decide +kernel
theorem dX10_shortest_55 : decode cX10_shortest 55 = .ok (.iload_n 3, 1) := by decide +kernel
theorem dX10_shortest_56 : decode cX10_shortest 56 = .ok (.if_icmp .ge 9, 3) := by decide +kernel
theorem dX10_shortest_59 : decode cX10_shortest 59 = .ok (.iload 4, 2) := by decide +kernel
theorem dX10_shortest_61 : decode cX10_shortest 61 = .ok (.istore_n 2, 1) := by decide +kernel
theorem dX10_shortest_62 : decode cX10_shortest 62 = .ok (.iload 5, 2) := by decide +kernel
theorem dX10_shortest_64 : decode cX10_shortest 64 = .ok (.istore_n 3, 1) := by decide +kernel
theorem dX10_shortest_65 : decode cX10_shortest 65 = .ok (.iinc 4 1, 3) := by decide +kernel
theorem dX10_shortest_68 : decode cX10_shortest 68 = .ok (.goto (-55), 3) := by decide +kernel
theorem dX10_shortest_71 : decode cX10_shortest 71 = .ok (.iload_n 2, 1) := by decide +kernel
theorem dX10_shortest_72 : decode cX10_shortest 72 = .ok (.ireturn, 1) := by decide +kernel
set_option maxRecDepth 100000 in
set_option maxHeartbeats 4000000 in
theorem t_X10_shortest (l : Launch) (hfl : l.stackTraces = false) (D : va_G) (ct : Nat → ClassId) (S : ty_S) (ws : va_W) (x : Nat) (w : Nat) (sp : Nat) (sv : Nat) (bu : Nat) (ns : Nat) (nb : Nat) (bl : Int32) (le : Int32) (p1 : Int32) (sz : Nat) (hT : ty_W ct S ws) (h_w : S w = some (.inl 9)) (h_sp : S sp = some (.inl 9)) (h_sv : S sv = some (.inr (4, ns))) (h_bu : S bu = some (.inr (0, nb))) : vx_Met l yX10_shortest (ws_ yX10_shortest cX10_shortest 6 (some .int)) ({ frames := 8, cells := 5, slots := 30, locals := 212 } : Room) (va_Pc [.ref x, .int p1] (cmP D ct sz ([(x, .inr (10, [.ref w, .ref sp, .ref sv, .ref bu, .int bl, .int le]))] ++ ws))) (va_Qi (fun (r : Int32) (u9 : va_W) => ty_W ct S u9) (cmB D ([(x, .inr (10, [.ref w, .ref sp, .ref sv, .ref bu, .int bl, .int le]))] ++ ws) sz (fun (u9 : va_W) => ([(x, .inr (10, [.ref w, .ref sp, .ref sv, .ref bu, .int bl, .int le]))] ++ u9))) (va_A ([(x, .inr (10, [.ref w, .ref sp, .ref sv, .ref bu, .int bl, .int le]))] ++ ws) sz)) (vx_X (fun (u9 : va_W) => ty_W ct S u9) (cmBY D ([(x, .inr (10, [.ref w, .ref sp, .ref sv, .ref bu, .int bl, .int le]))] ++ ws) sz ["java/lang/IndexOutOfBoundsException"] (fun (u9 : va_W) => ([(x, .inr (10, [.ref w, .ref sp, .ref sv, .ref bu, .int bl, .int le]))] ++ u9))) (va_A ([(x, .inr (10, [.ref w, .ref sp, .ref sv, .ref bu, .int bl, .int le]))] ++ ws) sz)) 5 30 (va_A ([(x, .inr (10, [.ref w, .ref sp, .ref sv, .ref bu, .int bl, .int le]))] ++ ws) sz) := by
  refine vx_ofW (cc := cX10_shortest) (maxL := 6) (ret := (some .int)) (by decide) rfl ?_
  intro p e s m args below meth c s₁ B hml hex hv
  obtain ⟨rfl, hsz, hP, hK, hD0, hX⟩ := hv
  have hx := B.exec
  have hb := B.bytes
  have hr := B.returns
  have hts := ws_all (atoms_spec (ws := ws_ yX10_shortest cX10_shortest 6 (some .int)) B.pre)
  have hown : s.vm.findClass RX10 = some m.cls := findClass_of_methodNamed B.named
  have hlocks := B.notSynchronized
  subst hsz
  have hD := hD0.self (sz := s.heap.size)
  generalize hAe : va_A ([(x, .inr (10, [.ref w, .ref sp, .ref sv, .ref bu, .int bl, .int le]))] ++ ws) s.heap.size = A at hD hX ⊢
  have hA : ∀ q : Nat, s.heap.size ≤ q → A q := fun q h => by rw [← hAe]; exact Or.inr h
  have hS : va_S A s.heap s.heap [] := va_S.rf
  have hl := lv_entry ([.ref x, .int p1]) (n := 6) (Nat.le_of_ble_eq_true rfl)
  rw [lg_entry_eq]
  generalize (lg_sl ([.ref x, .int p1]) ++ List.replicate (6 - (lg_sl ([.ref x, .int p1])).length) Slot.unset).toArray = ls at hl ⊢
  have hl : lv_has ls 6 [(0, .ref x), (1, .int p1)] := hl
  refine lv_aload_n hx hb dX10_shortest_0 rfl (lv_at hl 0 rfl) ?_
  refine lv_iload_n hx hb dX10_shortest_1 rfl (lv_at hl 1 rfl) ?_
  refine ty_xq (wr := []) (wc := ([(x, .inr (10, [.ref w, .ref sp, .ref sv, .ref bu, .int bl, .int le]))] ++ ws)) (vx_runV (As := [.int p1]) (rest := []) ⟨hx, hb, hml, hown, hts⟩ (t_X10_needChannel l hfl D ct S ws x w sp sv bu ns nb bl le p1 _ hT h_w h_sp h_sv h_bu) (cm_V 1 hts kc_X10_needChannel ki_RX10 kl_RX10_172 kv_X10_needChannel kx_X10_needChannel kd_X10_needChannel ⟨Nat.le_of_ble_eq_true rfl, Nat.le_of_ble_eq_true rfl⟩) (ty_preE (wr := []) (wc := ([(x, .inr (10, [.ref w, .ref sp, .ref sv, .ref bu, .int bl, .int le]))] ++ ws)) (ci := 10) (q0 := 0) hP hK hD hS hA hX rfl rfl) rfl rfl hl.1 rfl (lv_room (Nat.le_of_ble_eq_true rfl)) dX10_shortest_2 ⟨Nat.le_of_ble_eq_true rfl, Nat.le_of_ble_eq_true rfl⟩) hP hD hS hA (fun E ce q9 u H locs hu hE hP hD hS hce hcv hcl => ?_) (fun r_1 u H locs hw_2 hP hD hS => ?_)
  · obtain ⟨ws_3, rfl⟩ : ∃ z, z = u := ⟨_, rfl⟩
    have hT := hu
    have hP : va_P D vwCl ([(x, .inr (10, [.ref w, .ref sp, .ref sv, .ref bu, .int bl, .int le]))] ++ ws_3) H := hP
    have hD : va_D A ([(x, .inr (10, [.ref w, .ref sp, .ref sv, .ref bu, .int bl, .int le]))] ++ ws_3) := hD
    exact vx_out (fun x hx => (hex x hx).elim) hlocks hce hcv hcl (fun t ht hW => ⟨ws_3, hT, ⟨hE, by rw [ht]; exact hP, by rw [hAe]; exact hD⟩, hS.F ht⟩) hS.2.2 (Nat.le_of_ble_eq_true rfl) (Nat.le_of_ble_eq_true rfl)
  · obtain ⟨ws_4, rfl⟩ : ∃ z, z = u := ⟨_, rfl⟩
    obtain ⟨hT, hq_5⟩ := hw_2
    have hP : va_P D vwCl ([(x, .inr (10, [.ref w, .ref sp, .ref sv, .ref bu, .int bl, .int le]))] ++ ws_4) H := hP
    have hD : va_D A ([(x, .inr (10, [.ref w, .ref sp, .ref sv, .ref bu, .int bl, .int le]))] ++ ws_4) := hD
    refine W.widen (k := 1) (n := 6) (Nat.le_of_ble_eq_true rfl) (Nat.le_of_ble_eq_true rfl) ?_
    obtain ⟨a_6, rfl, ha_7⟩ := hq_5
    refine W.eq (g2 := F0 m 5 ls (.ref a_6 :: [])) rfl ?_
    refine lv_pop hx hb dX10_shortest_5 rfl ?_
    refine lv_iconst (v := (-1)) hx hb dX10_shortest_6 (by decide) ?_
    refine lv_istore_n (lv' := [(2, .int (-1)), (0, .ref x), (1, .int p1)]) hx hb dX10_shortest_7 rfl hl (by decide) rfl (fun ls hl => ?_)
    refine lv_iconst (v := 0) hx hb dX10_shortest_8 (by decide) ?_
    refine lv_istore_n (lv' := [(3, .int 0), (2, .int (-1)), (0, .ref x), (1, .int p1)]) hx hb dX10_shortest_9 rfl hl (by decide) rfl (fun ls hl => ?_)
    refine lv_iconst (v := 0) hx hb dX10_shortest_10 (by decide) ?_
    refine lv_istore (lv' := [(4, .int 0), (3, .int 0), (2, .int (-1)), (0, .ref x), (1, .int p1)]) hx hb dX10_shortest_11 hl (by decide) rfl (fun ls hl => ?_)
    refine ty_cut (I := fun H locs ls => ∃ (ws : va_W) (y2 y3 : Int32), ty_W ct S ws ∧ va_P D vwCl ([(x, .inr (10, [.ref w, .ref sp, .ref sv, .ref bu, .int bl, .int le]))] ++ ws) H ∧ va_D A ([(x, .inr (10, [.ref w, .ref sp, .ref sv, .ref bu, .int bl, .int le]))] ++ ws) ∧ va_S A s.heap H locs ∧ lv_has ls 6 [(0, .ref x), (1, .int p1), (2, .int y2), (3, .int y3), (4, .int 4)]) (cells' := 5) (slots' := 30) (pc' := 13) (rest' := []) (fun K_4 => ?_) (fun H locs ls hI => ?_)
    · refine ty_cut (I := fun H locs ls => ∃ (ws : va_W) (y2 y3 : Int32), ty_W ct S ws ∧ va_P D vwCl ([(x, .inr (10, [.ref w, .ref sp, .ref sv, .ref bu, .int bl, .int le]))] ++ ws) H ∧ va_D A ([(x, .inr (10, [.ref w, .ref sp, .ref sv, .ref bu, .int bl, .int le]))] ++ ws) ∧ va_S A s.heap H locs ∧ lv_has ls 6 [(0, .ref x), (1, .int p1), (2, .int y2), (3, .int y3), (4, .int 3)]) (cells' := 4) (slots' := 24) (pc' := 13) (rest' := []) (fun K_3 => ?_) (fun H locs ls hI => ?_)
      · refine ty_cut (I := fun H locs ls => ∃ (ws : va_W) (y2 y3 : Int32), ty_W ct S ws ∧ va_P D vwCl ([(x, .inr (10, [.ref w, .ref sp, .ref sv, .ref bu, .int bl, .int le]))] ++ ws) H ∧ va_D A ([(x, .inr (10, [.ref w, .ref sp, .ref sv, .ref bu, .int bl, .int le]))] ++ ws) ∧ va_S A s.heap H locs ∧ lv_has ls 6 [(0, .ref x), (1, .int p1), (2, .int y2), (3, .int y3), (4, .int 2)]) (cells' := 3) (slots' := 18) (pc' := 13) (rest' := []) (fun K_2 => ?_) (fun H locs ls hI => ?_)
        · refine ty_cut (I := fun H locs ls => ∃ (ws : va_W) (y2 y3 : Int32), ty_W ct S ws ∧ va_P D vwCl ([(x, .inr (10, [.ref w, .ref sp, .ref sv, .ref bu, .int bl, .int le]))] ++ ws) H ∧ va_D A ([(x, .inr (10, [.ref w, .ref sp, .ref sv, .ref bu, .int bl, .int le]))] ++ ws) ∧ va_S A s.heap H locs ∧ lv_has ls 6 [(0, .ref x), (1, .int p1), (2, .int y2), (3, .int y3), (4, .int 1)]) (cells' := 2) (slots' := 12) (pc' := 13) (rest' := []) (fun K_1 => ?_) (fun H locs ls hI => ?_)
          · refine lv_iload hx hb dX10_shortest_13 (lv_at hl 0 rfl) ?_
            refine lv_aload_n hx hb dX10_shortest_15 rfl (lv_at hl 3 rfl) ?_
            refine va_get (v := .ref w) (D := D) (ci := 10) (C := RX10) (T := TX10) (N := 6) hx hb hts in_X10 hown hK hP 0 rfl rfl 0 (by decide) (hts _ kl_RX10_10) (fun _ h9 => h9) rfl dX10_shortest_16 ?_
            refine ty_getN (E := [(x, .inr (10, [.ref w, .ref sp, .ref sv, .ref bu, .int bl, .int le]))]) (ws := ws_4) (D := D) (ci := 9) (C := RX9) (T := TX9) (N := 8) hx hb hts in_X9 hown hK hP hT h_w rfl 3 (by decide) (hts _ kl_RX10_85) (fun _ h9 => h9) rfl dX10_shortest_19 (fun _ hv_8 hf_9 => ?_)
            obtain ⟨a_10, rfl, ha_11⟩ := hv_8
            refine ty_getN (E := [(x, .inr (10, [.ref w, .ref sp, .ref sv, .ref bu, .int bl, .int le]))]) (ws := ws_4) (D := D) (ci := 5) (C := RX5) (T := TX5) (N := 5) hx hb hts in_X5 hown hK hP hT ha_11 rfl 0 (by decide) (hts _ kl_RX10_89) (fun _ h9 => h9) rfl dX10_shortest_22 (fun _ hv_12 hf_13 => ?_)
            obtain ⟨x_14, rfl, hz_15⟩ := hv_12
            refine lv_icmp_ge (tgt := 71) hx hb dX10_shortest_25 (by decide) (fun hc_16 => ?_) (fun hc_16 => ?_)
            · refine lv_iload_n hx hb dX10_shortest_71 rfl (lv_at hl 2 rfl) ?_
              refine W.widen (k := 5) (n := 30) (Nat.le_of_ble_eq_true rfl) (Nat.le_of_ble_eq_true rfl) ?_
              refine vx_ret ?_
              exact W.iret (v := (-1)) hx hb hr (fun t ht hW => ⟨⟨(-1), ws_4, rfl, hT, by rw [ht]; exact hP, by rw [hAe]; exact hD⟩, hS.F ht⟩) hS.2.2 dX10_shortest_72
            · refine lv_aload_n hx hb dX10_shortest_28 rfl (lv_at hl 3 rfl) ?_
              refine lv_aload_n hx hb dX10_shortest_29 rfl (lv_at hl 3 rfl) ?_
              refine lv_iload_n hx hb dX10_shortest_30 rfl (lv_at hl 4 rfl) ?_
              refine lv_iload hx hb dX10_shortest_31 (lv_at hl 0 rfl) ?_
              refine ty_xq (wr := []) (wc := ([(x, .inr (10, [.ref w, .ref sp, .ref sv, .ref bu, .int bl, .int le]))] ++ ws_4)) (vx_runV (As := [.int p1, .int 0]) (rest := [.ref x]) ⟨hx, hb, hml, hown, hts⟩ (t_X10_needTrialOf l hfl D ct S ws_4 x w sp sv bu ns nb bl le p1 (0 : Int32) _ hT h_w h_sp h_sv h_bu) (cm_V 2 hts kc_X10_needTrialOf ki_RX10 kl_RX10_336 kv_X10_needTrialOf kx_X10_needTrialOf kd_X10_needTrialOf ⟨Nat.le_of_ble_eq_true rfl, Nat.le_of_ble_eq_true rfl⟩) (ty_preE (wr := []) (wc := ([(x, .inr (10, [.ref w, .ref sp, .ref sv, .ref bu, .int bl, .int le]))] ++ ws_4)) (ci := 10) (q0 := 0) hP hK hD hS hA hX rfl rfl) rfl rfl hl.1 rfl (lv_room (Nat.le_of_ble_eq_true rfl)) dX10_shortest_33 ⟨Nat.le_of_ble_eq_true rfl, Nat.le_of_ble_eq_true rfl⟩) hP hD hS hA (fun E ce q9 u H locs hu hE hP hD hS hce hcv hcl => ?_) (fun r_17 u H locs hw_18 hP hD hS => ?_)
              · obtain ⟨ws_19, rfl⟩ : ∃ z, z = u := ⟨_, rfl⟩
                have hT := hu
                have hP : va_P D vwCl ([(x, .inr (10, [.ref w, .ref sp, .ref sv, .ref bu, .int bl, .int le]))] ++ ws_19) H := hP
                have hD : va_D A ([(x, .inr (10, [.ref w, .ref sp, .ref sv, .ref bu, .int bl, .int le]))] ++ ws_19) := hD
                exact vx_out (fun x hx => (hex x hx).elim) hlocks hce hcv hcl (fun t ht hW => ⟨ws_19, hT, ⟨hE, by rw [ht]; exact hP, by rw [hAe]; exact hD⟩, hS.F ht⟩) hS.2.2 (Nat.le_of_ble_eq_true rfl) (Nat.le_of_ble_eq_true rfl)
              · obtain ⟨ws_20, rfl⟩ : ∃ z, z = u := ⟨_, rfl⟩
                obtain ⟨hT, hq_21⟩ := hw_18
                have hP : va_P D vwCl ([(x, .inr (10, [.ref w, .ref sp, .ref sv, .ref bu, .int bl, .int le]))] ++ ws_20) H := hP
                have hD : va_D A ([(x, .inr (10, [.ref w, .ref sp, .ref sv, .ref bu, .int bl, .int le]))] ++ ws_20) := hD
                refine W.widen (k := 2) (n := 12) (Nat.le_of_ble_eq_true rfl) (Nat.le_of_ble_eq_true rfl) ?_
                obtain ⟨a_22, rfl, ha_23⟩ := hq_21
                refine W.eq (g2 := F0 m 36 ls (.ref a_22 :: [.ref x])) rfl ?_
                refine lv_iconst (v := 3) hx hb dX10_shortest_36 (by decide) ?_
                refine ty_ki (wr := []) (wc := ([(x, .inr (10, [.ref w, .ref sp, .ref sv, .ref bu, .int bl, .int le]))] ++ ws_20)) (va_runV (As := [.ref a_22, .int 3]) (rest := []) ⟨hx, hb, hml, hown, hts⟩ (t_X10_ticksUntil l D ct S ws_20 x w sp sv bu ns nb bl le a_22 (3 : Int32) _ hT h_w h_sp h_sv h_bu ha_23) (cm_V 2 hts kc_X10_ticksUntil ki_RX10 kl_RX10_324 kv_X10_ticksUntil kx_X10_ticksUntil kd_X10_ticksUntil ⟨Nat.le_of_ble_eq_true rfl, Nat.le_of_ble_eq_true rfl⟩) (ty_preE (wr := []) (wc := ([(x, .inr (10, [.ref w, .ref sp, .ref sv, .ref bu, .int bl, .int le]))] ++ ws_20)) (ci := 10) (q0 := 0) hP hK hD hS hA hX rfl rfl) rfl rfl hl.1 rfl (lv_room (Nat.le_of_ble_eq_true rfl)) dX10_shortest_37 ⟨Nat.le_of_ble_eq_true rfl, Nat.le_of_ble_eq_true rfl⟩) hP hD hS hA (fun r_24 u H locs hw_25 hP hD hS => ?_)
                obtain ⟨ws_26, rfl⟩ : ∃ z, z = u := ⟨_, rfl⟩
                have hT := hw_25
                have hP : va_P D vwCl ([(x, .inr (10, [.ref w, .ref sp, .ref sv, .ref bu, .int bl, .int le]))] ++ ws_26) H := hP
                have hD : va_D A ([(x, .inr (10, [.ref w, .ref sp, .ref sv, .ref bu, .int bl, .int le]))] ++ ws_26) := hD
                refine lv_istore (lv' := [(5, .int r_24), (4, .int 0), (3, .int 0), (2, .int (-1)), (0, .ref x), (1, .int p1)]) hx hb dX10_shortest_40 hl (by decide) rfl (fun ls hl => ?_)
                refine lv_iload hx hb dX10_shortest_42 (lv_at hl 0 rfl) ?_
                refine lv_iconst (v := (-1)) hx hb dX10_shortest_44 (by decide) ?_
                refine lv_icmp_eq (tgt := 65) hx hb dX10_shortest_45 (by decide) (fun hc_27 => ?_) (fun hc_27 => ?_)
                · refine lv_iinc (v := 1) (lv' := [(4, .int 1), (5, .int r_24), (3, .int 0), (2, .int (-1)), (0, .ref x), (1, .int p1)]) hx hb dX10_shortest_65 hl (k := 1) rfl (by decide) (by decide) rfl (fun ls hl => ?_)
                  refine lv_goto (tgt := 13) hx hb dX10_shortest_68 (by decide) ?_
                  exact K_1 _ _ _ ⟨ws_26, ((-1) : Int32), (0 : Int32), hT, hP, hD, hS, (lv_sub hl [4, 5, 3, 2, 0] rfl)⟩
                · refine lv_iload_n hx hb dX10_shortest_48 rfl (lv_at hl 3 rfl) ?_
                  refine lv_iconst (v := (-1)) hx hb dX10_shortest_49 (by decide) ?_
                  refine lv_icmp_eq (tgt := 59) hx hb dX10_shortest_50 (by decide) (fun _ => ?_) (fun hc => absurd (by decide) hc)
                  refine lv_iload hx hb dX10_shortest_59 (lv_at hl 1 rfl) ?_
                  refine lv_istore_n (lv' := [(2, .int 0), (5, .int r_24), (4, .int 0), (3, .int 0), (0, .ref x), (1, .int p1)]) hx hb dX10_shortest_61 rfl hl (by decide) rfl (fun ls hl => ?_)
                  refine lv_iload hx hb dX10_shortest_62 (lv_at hl 1 rfl) ?_
                  refine lv_istore_n (lv' := [(3, .int r_24), (2, .int 0), (5, .int r_24), (4, .int 0), (0, .ref x), (1, .int p1)]) hx hb dX10_shortest_64 rfl hl (by decide) rfl (fun ls hl => ?_)
                  refine lv_iinc (v := 1) (lv' := [(4, .int 1), (3, .int r_24), (2, .int 0), (5, .int r_24), (0, .ref x), (1, .int p1)]) hx hb dX10_shortest_65 hl (k := 3) rfl (by decide) (by decide) rfl (fun ls hl => ?_)
                  refine lv_goto (tgt := 13) hx hb dX10_shortest_68 (by decide) ?_
                  exact K_1 _ _ _ ⟨ws_26, (0 : Int32), r_24, hT, hP, hD, hS, (lv_sub hl [4, 5, 2, 1, 0] rfl)⟩
          · obtain ⟨ws, y2, y3, hT, hP, hD, hS, hl⟩ := hI
            refine lv_iload hx hb dX10_shortest_13 (lv_at hl 4 rfl) ?_
            refine lv_aload_n hx hb dX10_shortest_15 rfl (lv_at hl 0 rfl) ?_
            refine va_get (v := .ref w) (D := D) (ci := 10) (C := RX10) (T := TX10) (N := 6) hx hb hts in_X10 hown hK hP 0 rfl rfl 0 (by decide) (hts _ kl_RX10_10) (fun _ h9 => h9) rfl dX10_shortest_16 ?_
            refine ty_getN (E := [(x, .inr (10, [.ref w, .ref sp, .ref sv, .ref bu, .int bl, .int le]))]) (ws := ws) (D := D) (ci := 9) (C := RX9) (T := TX9) (N := 8) hx hb hts in_X9 hown hK hP hT h_w rfl 3 (by decide) (hts _ kl_RX10_85) (fun _ h9 => h9) rfl dX10_shortest_19 (fun _ hv_28 hf_29 => ?_)
            obtain ⟨a_30, rfl, ha_31⟩ := hv_28
            refine ty_getN (E := [(x, .inr (10, [.ref w, .ref sp, .ref sv, .ref bu, .int bl, .int le]))]) (ws := ws) (D := D) (ci := 5) (C := RX5) (T := TX5) (N := 5) hx hb hts in_X5 hown hK hP hT ha_31 rfl 0 (by decide) (hts _ kl_RX10_89) (fun _ h9 => h9) rfl dX10_shortest_22 (fun _ hv_32 hf_33 => ?_)
            obtain ⟨x_34, rfl, hz_35⟩ := hv_32
            refine lv_icmp_ge (tgt := 71) hx hb dX10_shortest_25 (by decide) (fun hc_36 => ?_) (fun hc_36 => ?_)
            · refine lv_iload_n hx hb dX10_shortest_71 rfl (lv_at hl 2 rfl) ?_
              refine W.widen (k := 5) (n := 30) (Nat.le_of_ble_eq_true rfl) (Nat.le_of_ble_eq_true rfl) ?_
              refine vx_ret ?_
              exact W.iret (v := y2) hx hb hr (fun t ht hW => ⟨⟨y2, ws, rfl, hT, by rw [ht]; exact hP, by rw [hAe]; exact hD⟩, hS.F ht⟩) hS.2.2 dX10_shortest_72
            · refine lv_aload_n hx hb dX10_shortest_28 rfl (lv_at hl 0 rfl) ?_
              refine lv_aload_n hx hb dX10_shortest_29 rfl (lv_at hl 0 rfl) ?_
              refine lv_iload_n hx hb dX10_shortest_30 rfl (lv_at hl 1 rfl) ?_
              refine lv_iload hx hb dX10_shortest_31 (lv_at hl 4 rfl) ?_
              refine ty_xq (wr := []) (wc := ([(x, .inr (10, [.ref w, .ref sp, .ref sv, .ref bu, .int bl, .int le]))] ++ ws)) (vx_runV (As := [.int p1, .int 1]) (rest := [.ref x]) ⟨hx, hb, hml, hown, hts⟩ (t_X10_needTrialOf l hfl D ct S ws x w sp sv bu ns nb bl le p1 (1 : Int32) _ hT h_w h_sp h_sv h_bu) (cm_V 2 hts kc_X10_needTrialOf ki_RX10 kl_RX10_336 kv_X10_needTrialOf kx_X10_needTrialOf kd_X10_needTrialOf ⟨Nat.le_of_ble_eq_true rfl, Nat.le_of_ble_eq_true rfl⟩) (ty_preE (wr := []) (wc := ([(x, .inr (10, [.ref w, .ref sp, .ref sv, .ref bu, .int bl, .int le]))] ++ ws)) (ci := 10) (q0 := 0) hP hK hD hS hA hX rfl rfl) rfl rfl hl.1 rfl (lv_room (Nat.le_of_ble_eq_true rfl)) dX10_shortest_33 ⟨Nat.le_of_ble_eq_true rfl, Nat.le_of_ble_eq_true rfl⟩) hP hD hS hA (fun E ce q9 u H locs hu hE hP hD hS hce hcv hcl => ?_) (fun r_37 u H locs hw_38 hP hD hS => ?_)
              · obtain ⟨ws_39, rfl⟩ : ∃ z, z = u := ⟨_, rfl⟩
                have hT := hu
                have hP : va_P D vwCl ([(x, .inr (10, [.ref w, .ref sp, .ref sv, .ref bu, .int bl, .int le]))] ++ ws_39) H := hP
                have hD : va_D A ([(x, .inr (10, [.ref w, .ref sp, .ref sv, .ref bu, .int bl, .int le]))] ++ ws_39) := hD
                exact vx_out (fun x hx => (hex x hx).elim) hlocks hce hcv hcl (fun t ht hW => ⟨ws_39, hT, ⟨hE, by rw [ht]; exact hP, by rw [hAe]; exact hD⟩, hS.F ht⟩) hS.2.2 (Nat.le_of_ble_eq_true rfl) (Nat.le_of_ble_eq_true rfl)
              · obtain ⟨ws_40, rfl⟩ : ∃ z, z = u := ⟨_, rfl⟩
                obtain ⟨hT, hq_41⟩ := hw_38
                have hP : va_P D vwCl ([(x, .inr (10, [.ref w, .ref sp, .ref sv, .ref bu, .int bl, .int le]))] ++ ws_40) H := hP
                have hD : va_D A ([(x, .inr (10, [.ref w, .ref sp, .ref sv, .ref bu, .int bl, .int le]))] ++ ws_40) := hD
                refine W.widen (k := 3) (n := 18) (Nat.le_of_ble_eq_true rfl) (Nat.le_of_ble_eq_true rfl) ?_
                obtain ⟨a_42, rfl, ha_43⟩ := hq_41
                refine W.eq (g2 := F0 m 36 ls (.ref a_42 :: [.ref x])) rfl ?_
                refine lv_iconst (v := 3) hx hb dX10_shortest_36 (by decide) ?_
                refine ty_ki (wr := []) (wc := ([(x, .inr (10, [.ref w, .ref sp, .ref sv, .ref bu, .int bl, .int le]))] ++ ws_40)) (va_runV (As := [.ref a_42, .int 3]) (rest := []) ⟨hx, hb, hml, hown, hts⟩ (t_X10_ticksUntil l D ct S ws_40 x w sp sv bu ns nb bl le a_42 (3 : Int32) _ hT h_w h_sp h_sv h_bu ha_43) (cm_V 2 hts kc_X10_ticksUntil ki_RX10 kl_RX10_324 kv_X10_ticksUntil kx_X10_ticksUntil kd_X10_ticksUntil ⟨Nat.le_of_ble_eq_true rfl, Nat.le_of_ble_eq_true rfl⟩) (ty_preE (wr := []) (wc := ([(x, .inr (10, [.ref w, .ref sp, .ref sv, .ref bu, .int bl, .int le]))] ++ ws_40)) (ci := 10) (q0 := 0) hP hK hD hS hA hX rfl rfl) rfl rfl hl.1 rfl (lv_room (Nat.le_of_ble_eq_true rfl)) dX10_shortest_37 ⟨Nat.le_of_ble_eq_true rfl, Nat.le_of_ble_eq_true rfl⟩) hP hD hS hA (fun r_44 u H locs hw_45 hP hD hS => ?_)
                obtain ⟨ws_46, rfl⟩ : ∃ z, z = u := ⟨_, rfl⟩
                have hT := hw_45
                have hP : va_P D vwCl ([(x, .inr (10, [.ref w, .ref sp, .ref sv, .ref bu, .int bl, .int le]))] ++ ws_46) H := hP
                have hD : va_D A ([(x, .inr (10, [.ref w, .ref sp, .ref sv, .ref bu, .int bl, .int le]))] ++ ws_46) := hD
                refine lv_istore (lv' := [(5, .int r_44), (0, .ref x), (1, .int p1), (2, .int y2), (3, .int y3), (4, .int 1)]) hx hb dX10_shortest_40 hl (by decide) rfl (fun ls hl => ?_)
                refine lv_iload hx hb dX10_shortest_42 (lv_at hl 0 rfl) ?_
                refine lv_iconst (v := (-1)) hx hb dX10_shortest_44 (by decide) ?_
                refine lv_icmp_eq (tgt := 65) hx hb dX10_shortest_45 (by decide) (fun hc_47 => ?_) (fun hc_47 => ?_)
                · refine lv_iinc (v := 2) (lv' := [(4, .int 2), (5, .int r_44), (0, .ref x), (1, .int p1), (2, .int y2), (3, .int y3)]) hx hb dX10_shortest_65 hl (k := 5) rfl (by decide) (by decide) rfl (fun ls hl => ?_)
                  refine lv_goto (tgt := 13) hx hb dX10_shortest_68 (by decide) ?_
                  exact K_2 _ _ _ ⟨ws_46, y2, y3, hT, hP, hD, hS, (lv_sub hl [2, 3, 4, 5, 0] rfl)⟩
                · refine lv_iload_n hx hb dX10_shortest_48 rfl (lv_at hl 3 rfl) ?_
                  refine lv_iconst (v := (-1)) hx hb dX10_shortest_49 (by decide) ?_
                  refine lv_icmp_eq (tgt := 59) hx hb dX10_shortest_50 (by decide) (fun hc_48 => ?_) (fun hc_48 => ?_)
                  · refine lv_iload hx hb dX10_shortest_59 (lv_at hl 5 rfl) ?_
                    refine lv_istore_n (lv' := [(2, .int 1), (5, .int r_44), (0, .ref x), (1, .int p1), (3, .int y3), (4, .int 1)]) hx hb dX10_shortest_61 rfl hl (by decide) rfl (fun ls hl => ?_)
                    refine lv_iload hx hb dX10_shortest_62 (lv_at hl 1 rfl) ?_
                    refine lv_istore_n (lv' := [(3, .int r_44), (2, .int 1), (5, .int r_44), (0, .ref x), (1, .int p1), (4, .int 1)]) hx hb dX10_shortest_64 rfl hl (by decide) rfl (fun ls hl => ?_)
                    refine lv_iinc (v := 2) (lv' := [(4, .int 2), (3, .int r_44), (2, .int 1), (5, .int r_44), (0, .ref x), (1, .int p1)]) hx hb dX10_shortest_65 hl (k := 5) rfl (by decide) (by decide) rfl (fun ls hl => ?_)
                    refine lv_goto (tgt := 13) hx hb dX10_shortest_68 (by decide) ?_
                    exact K_2 _ _ _ ⟨ws_46, (1 : Int32), r_44, hT, hP, hD, hS, (lv_sub hl [4, 5, 2, 1, 0] rfl)⟩
                  · refine lv_iload hx hb dX10_shortest_53 (lv_at hl 0 rfl) ?_
                    refine lv_iload_n hx hb dX10_shortest_55 rfl (lv_at hl 4 rfl) ?_
                    refine lv_icmp_ge (tgt := 65) hx hb dX10_shortest_56 (by decide) (fun hc_49 => ?_) (fun hc_49 => ?_)
                    · refine lv_iinc (v := 2) (lv' := [(4, .int 2), (5, .int r_44), (0, .ref x), (1, .int p1), (2, .int y2), (3, .int y3)]) hx hb dX10_shortest_65 hl (k := 5) rfl (by decide) (by decide) rfl (fun ls hl => ?_)
                      refine lv_goto (tgt := 13) hx hb dX10_shortest_68 (by decide) ?_
                      exact K_2 _ _ _ ⟨ws_46, y2, y3, hT, hP, hD, hS, (lv_sub hl [2, 3, 4, 5, 0] rfl)⟩
                    · refine lv_iload hx hb dX10_shortest_59 (lv_at hl 5 rfl) ?_
                      refine lv_istore_n (lv' := [(2, .int 1), (5, .int r_44), (0, .ref x), (1, .int p1), (3, .int y3), (4, .int 1)]) hx hb dX10_shortest_61 rfl hl (by decide) rfl (fun ls hl => ?_)
                      refine lv_iload hx hb dX10_shortest_62 (lv_at hl 1 rfl) ?_
                      refine lv_istore_n (lv' := [(3, .int r_44), (2, .int 1), (5, .int r_44), (0, .ref x), (1, .int p1), (4, .int 1)]) hx hb dX10_shortest_64 rfl hl (by decide) rfl (fun ls hl => ?_)
                      refine lv_iinc (v := 2) (lv' := [(4, .int 2), (3, .int r_44), (2, .int 1), (5, .int r_44), (0, .ref x), (1, .int p1)]) hx hb dX10_shortest_65 hl (k := 5) rfl (by decide) (by decide) rfl (fun ls hl => ?_)
                      refine lv_goto (tgt := 13) hx hb dX10_shortest_68 (by decide) ?_
                      exact K_2 _ _ _ ⟨ws_46, (1 : Int32), r_44, hT, hP, hD, hS, (lv_sub hl [4, 5, 2, 1, 0] rfl)⟩
        · obtain ⟨ws, y2, y3, hT, hP, hD, hS, hl⟩ := hI
          refine lv_iload hx hb dX10_shortest_13 (lv_at hl 4 rfl) ?_
          refine lv_aload_n hx hb dX10_shortest_15 rfl (lv_at hl 0 rfl) ?_
          refine va_get (v := .ref w) (D := D) (ci := 10) (C := RX10) (T := TX10) (N := 6) hx hb hts in_X10 hown hK hP 0 rfl rfl 0 (by decide) (hts _ kl_RX10_10) (fun _ h9 => h9) rfl dX10_shortest_16 ?_
          refine ty_getN (E := [(x, .inr (10, [.ref w, .ref sp, .ref sv, .ref bu, .int bl, .int le]))]) (ws := ws) (D := D) (ci := 9) (C := RX9) (T := TX9) (N := 8) hx hb hts in_X9 hown hK hP hT h_w rfl 3 (by decide) (hts _ kl_RX10_85) (fun _ h9 => h9) rfl dX10_shortest_19 (fun _ hv_50 hf_51 => ?_)
          obtain ⟨a_52, rfl, ha_53⟩ := hv_50
          refine ty_getN (E := [(x, .inr (10, [.ref w, .ref sp, .ref sv, .ref bu, .int bl, .int le]))]) (ws := ws) (D := D) (ci := 5) (C := RX5) (T := TX5) (N := 5) hx hb hts in_X5 hown hK hP hT ha_53 rfl 0 (by decide) (hts _ kl_RX10_89) (fun _ h9 => h9) rfl dX10_shortest_22 (fun _ hv_54 hf_55 => ?_)
          obtain ⟨x_56, rfl, hz_57⟩ := hv_54
          refine lv_icmp_ge (tgt := 71) hx hb dX10_shortest_25 (by decide) (fun hc_58 => ?_) (fun hc_58 => ?_)
          · refine lv_iload_n hx hb dX10_shortest_71 rfl (lv_at hl 2 rfl) ?_
            refine W.widen (k := 5) (n := 30) (Nat.le_of_ble_eq_true rfl) (Nat.le_of_ble_eq_true rfl) ?_
            refine vx_ret ?_
            exact W.iret (v := y2) hx hb hr (fun t ht hW => ⟨⟨y2, ws, rfl, hT, by rw [ht]; exact hP, by rw [hAe]; exact hD⟩, hS.F ht⟩) hS.2.2 dX10_shortest_72
          · refine lv_aload_n hx hb dX10_shortest_28 rfl (lv_at hl 0 rfl) ?_
            refine lv_aload_n hx hb dX10_shortest_29 rfl (lv_at hl 0 rfl) ?_
            refine lv_iload_n hx hb dX10_shortest_30 rfl (lv_at hl 1 rfl) ?_
            refine lv_iload hx hb dX10_shortest_31 (lv_at hl 4 rfl) ?_
            refine ty_xq (wr := []) (wc := ([(x, .inr (10, [.ref w, .ref sp, .ref sv, .ref bu, .int bl, .int le]))] ++ ws)) (vx_runV (As := [.int p1, .int 2]) (rest := [.ref x]) ⟨hx, hb, hml, hown, hts⟩ (t_X10_needTrialOf l hfl D ct S ws x w sp sv bu ns nb bl le p1 (2 : Int32) _ hT h_w h_sp h_sv h_bu) (cm_V 2 hts kc_X10_needTrialOf ki_RX10 kl_RX10_336 kv_X10_needTrialOf kx_X10_needTrialOf kd_X10_needTrialOf ⟨Nat.le_of_ble_eq_true rfl, Nat.le_of_ble_eq_true rfl⟩) (ty_preE (wr := []) (wc := ([(x, .inr (10, [.ref w, .ref sp, .ref sv, .ref bu, .int bl, .int le]))] ++ ws)) (ci := 10) (q0 := 0) hP hK hD hS hA hX rfl rfl) rfl rfl hl.1 rfl (lv_room (Nat.le_of_ble_eq_true rfl)) dX10_shortest_33 ⟨Nat.le_of_ble_eq_true rfl, Nat.le_of_ble_eq_true rfl⟩) hP hD hS hA (fun E ce q9 u H locs hu hE hP hD hS hce hcv hcl => ?_) (fun r_59 u H locs hw_60 hP hD hS => ?_)
            · obtain ⟨ws_61, rfl⟩ : ∃ z, z = u := ⟨_, rfl⟩
              have hT := hu
              have hP : va_P D vwCl ([(x, .inr (10, [.ref w, .ref sp, .ref sv, .ref bu, .int bl, .int le]))] ++ ws_61) H := hP
              have hD : va_D A ([(x, .inr (10, [.ref w, .ref sp, .ref sv, .ref bu, .int bl, .int le]))] ++ ws_61) := hD
              exact vx_out (fun x hx => (hex x hx).elim) hlocks hce hcv hcl (fun t ht hW => ⟨ws_61, hT, ⟨hE, by rw [ht]; exact hP, by rw [hAe]; exact hD⟩, hS.F ht⟩) hS.2.2 (Nat.le_of_ble_eq_true rfl) (Nat.le_of_ble_eq_true rfl)
            · obtain ⟨ws_62, rfl⟩ : ∃ z, z = u := ⟨_, rfl⟩
              obtain ⟨hT, hq_63⟩ := hw_60
              have hP : va_P D vwCl ([(x, .inr (10, [.ref w, .ref sp, .ref sv, .ref bu, .int bl, .int le]))] ++ ws_62) H := hP
              have hD : va_D A ([(x, .inr (10, [.ref w, .ref sp, .ref sv, .ref bu, .int bl, .int le]))] ++ ws_62) := hD
              refine W.widen (k := 4) (n := 24) (Nat.le_of_ble_eq_true rfl) (Nat.le_of_ble_eq_true rfl) ?_
              obtain ⟨a_64, rfl, ha_65⟩ := hq_63
              refine W.eq (g2 := F0 m 36 ls (.ref a_64 :: [.ref x])) rfl ?_
              refine lv_iconst (v := 3) hx hb dX10_shortest_36 (by decide) ?_
              refine ty_ki (wr := []) (wc := ([(x, .inr (10, [.ref w, .ref sp, .ref sv, .ref bu, .int bl, .int le]))] ++ ws_62)) (va_runV (As := [.ref a_64, .int 3]) (rest := []) ⟨hx, hb, hml, hown, hts⟩ (t_X10_ticksUntil l D ct S ws_62 x w sp sv bu ns nb bl le a_64 (3 : Int32) _ hT h_w h_sp h_sv h_bu ha_65) (cm_V 2 hts kc_X10_ticksUntil ki_RX10 kl_RX10_324 kv_X10_ticksUntil kx_X10_ticksUntil kd_X10_ticksUntil ⟨Nat.le_of_ble_eq_true rfl, Nat.le_of_ble_eq_true rfl⟩) (ty_preE (wr := []) (wc := ([(x, .inr (10, [.ref w, .ref sp, .ref sv, .ref bu, .int bl, .int le]))] ++ ws_62)) (ci := 10) (q0 := 0) hP hK hD hS hA hX rfl rfl) rfl rfl hl.1 rfl (lv_room (Nat.le_of_ble_eq_true rfl)) dX10_shortest_37 ⟨Nat.le_of_ble_eq_true rfl, Nat.le_of_ble_eq_true rfl⟩) hP hD hS hA (fun r_66 u H locs hw_67 hP hD hS => ?_)
              obtain ⟨ws_68, rfl⟩ : ∃ z, z = u := ⟨_, rfl⟩
              have hT := hw_67
              have hP : va_P D vwCl ([(x, .inr (10, [.ref w, .ref sp, .ref sv, .ref bu, .int bl, .int le]))] ++ ws_68) H := hP
              have hD : va_D A ([(x, .inr (10, [.ref w, .ref sp, .ref sv, .ref bu, .int bl, .int le]))] ++ ws_68) := hD
              refine lv_istore (lv' := [(5, .int r_66), (0, .ref x), (1, .int p1), (2, .int y2), (3, .int y3), (4, .int 2)]) hx hb dX10_shortest_40 hl (by decide) rfl (fun ls hl => ?_)
              refine lv_iload hx hb dX10_shortest_42 (lv_at hl 0 rfl) ?_
              refine lv_iconst (v := (-1)) hx hb dX10_shortest_44 (by decide) ?_
              refine lv_icmp_eq (tgt := 65) hx hb dX10_shortest_45 (by decide) (fun hc_69 => ?_) (fun hc_69 => ?_)
              · refine lv_iinc (v := 3) (lv' := [(4, .int 3), (5, .int r_66), (0, .ref x), (1, .int p1), (2, .int y2), (3, .int y3)]) hx hb dX10_shortest_65 hl (k := 5) rfl (by decide) (by decide) rfl (fun ls hl => ?_)
                refine lv_goto (tgt := 13) hx hb dX10_shortest_68 (by decide) ?_
                exact K_3 _ _ _ ⟨ws_68, y2, y3, hT, hP, hD, hS, (lv_sub hl [2, 3, 4, 5, 0] rfl)⟩
              · refine lv_iload_n hx hb dX10_shortest_48 rfl (lv_at hl 3 rfl) ?_
                refine lv_iconst (v := (-1)) hx hb dX10_shortest_49 (by decide) ?_
                refine lv_icmp_eq (tgt := 59) hx hb dX10_shortest_50 (by decide) (fun hc_70 => ?_) (fun hc_70 => ?_)
                · refine lv_iload hx hb dX10_shortest_59 (lv_at hl 5 rfl) ?_
                  refine lv_istore_n (lv' := [(2, .int 2), (5, .int r_66), (0, .ref x), (1, .int p1), (3, .int y3), (4, .int 2)]) hx hb dX10_shortest_61 rfl hl (by decide) rfl (fun ls hl => ?_)
                  refine lv_iload hx hb dX10_shortest_62 (lv_at hl 1 rfl) ?_
                  refine lv_istore_n (lv' := [(3, .int r_66), (2, .int 2), (5, .int r_66), (0, .ref x), (1, .int p1), (4, .int 2)]) hx hb dX10_shortest_64 rfl hl (by decide) rfl (fun ls hl => ?_)
                  refine lv_iinc (v := 3) (lv' := [(4, .int 3), (3, .int r_66), (2, .int 2), (5, .int r_66), (0, .ref x), (1, .int p1)]) hx hb dX10_shortest_65 hl (k := 5) rfl (by decide) (by decide) rfl (fun ls hl => ?_)
                  refine lv_goto (tgt := 13) hx hb dX10_shortest_68 (by decide) ?_
                  exact K_3 _ _ _ ⟨ws_68, (2 : Int32), r_66, hT, hP, hD, hS, (lv_sub hl [4, 5, 2, 1, 0] rfl)⟩
                · refine lv_iload hx hb dX10_shortest_53 (lv_at hl 0 rfl) ?_
                  refine lv_iload_n hx hb dX10_shortest_55 rfl (lv_at hl 4 rfl) ?_
                  refine lv_icmp_ge (tgt := 65) hx hb dX10_shortest_56 (by decide) (fun hc_71 => ?_) (fun hc_71 => ?_)
                  · refine lv_iinc (v := 3) (lv' := [(4, .int 3), (5, .int r_66), (0, .ref x), (1, .int p1), (2, .int y2), (3, .int y3)]) hx hb dX10_shortest_65 hl (k := 5) rfl (by decide) (by decide) rfl (fun ls hl => ?_)
                    refine lv_goto (tgt := 13) hx hb dX10_shortest_68 (by decide) ?_
                    exact K_3 _ _ _ ⟨ws_68, y2, y3, hT, hP, hD, hS, (lv_sub hl [2, 3, 4, 5, 0] rfl)⟩
                  · refine lv_iload hx hb dX10_shortest_59 (lv_at hl 5 rfl) ?_
                    refine lv_istore_n (lv' := [(2, .int 2), (5, .int r_66), (0, .ref x), (1, .int p1), (3, .int y3), (4, .int 2)]) hx hb dX10_shortest_61 rfl hl (by decide) rfl (fun ls hl => ?_)
                    refine lv_iload hx hb dX10_shortest_62 (lv_at hl 1 rfl) ?_
                    refine lv_istore_n (lv' := [(3, .int r_66), (2, .int 2), (5, .int r_66), (0, .ref x), (1, .int p1), (4, .int 2)]) hx hb dX10_shortest_64 rfl hl (by decide) rfl (fun ls hl => ?_)
                    refine lv_iinc (v := 3) (lv' := [(4, .int 3), (3, .int r_66), (2, .int 2), (5, .int r_66), (0, .ref x), (1, .int p1)]) hx hb dX10_shortest_65 hl (k := 5) rfl (by decide) (by decide) rfl (fun ls hl => ?_)
                    refine lv_goto (tgt := 13) hx hb dX10_shortest_68 (by decide) ?_
                    exact K_3 _ _ _ ⟨ws_68, (2 : Int32), r_66, hT, hP, hD, hS, (lv_sub hl [4, 5, 2, 1, 0] rfl)⟩
      · obtain ⟨ws, y2, y3, hT, hP, hD, hS, hl⟩ := hI
        refine lv_iload hx hb dX10_shortest_13 (lv_at hl 4 rfl) ?_
        refine lv_aload_n hx hb dX10_shortest_15 rfl (lv_at hl 0 rfl) ?_
        refine va_get (v := .ref w) (D := D) (ci := 10) (C := RX10) (T := TX10) (N := 6) hx hb hts in_X10 hown hK hP 0 rfl rfl 0 (by decide) (hts _ kl_RX10_10) (fun _ h9 => h9) rfl dX10_shortest_16 ?_
        refine ty_getN (E := [(x, .inr (10, [.ref w, .ref sp, .ref sv, .ref bu, .int bl, .int le]))]) (ws := ws) (D := D) (ci := 9) (C := RX9) (T := TX9) (N := 8) hx hb hts in_X9 hown hK hP hT h_w rfl 3 (by decide) (hts _ kl_RX10_85) (fun _ h9 => h9) rfl dX10_shortest_19 (fun _ hv_72 hf_73 => ?_)
        obtain ⟨a_74, rfl, ha_75⟩ := hv_72
        refine ty_getN (E := [(x, .inr (10, [.ref w, .ref sp, .ref sv, .ref bu, .int bl, .int le]))]) (ws := ws) (D := D) (ci := 5) (C := RX5) (T := TX5) (N := 5) hx hb hts in_X5 hown hK hP hT ha_75 rfl 0 (by decide) (hts _ kl_RX10_89) (fun _ h9 => h9) rfl dX10_shortest_22 (fun _ hv_76 hf_77 => ?_)
        obtain ⟨x_78, rfl, hz_79⟩ := hv_76
        refine lv_icmp_ge (tgt := 71) hx hb dX10_shortest_25 (by decide) (fun hc_80 => ?_) (fun hc_80 => ?_)
        · refine lv_iload_n hx hb dX10_shortest_71 rfl (lv_at hl 2 rfl) ?_
          refine W.widen (k := 5) (n := 30) (Nat.le_of_ble_eq_true rfl) (Nat.le_of_ble_eq_true rfl) ?_
          refine vx_ret ?_
          exact W.iret (v := y2) hx hb hr (fun t ht hW => ⟨⟨y2, ws, rfl, hT, by rw [ht]; exact hP, by rw [hAe]; exact hD⟩, hS.F ht⟩) hS.2.2 dX10_shortest_72
        · refine lv_aload_n hx hb dX10_shortest_28 rfl (lv_at hl 0 rfl) ?_
          refine lv_aload_n hx hb dX10_shortest_29 rfl (lv_at hl 0 rfl) ?_
          refine lv_iload_n hx hb dX10_shortest_30 rfl (lv_at hl 1 rfl) ?_
          refine lv_iload hx hb dX10_shortest_31 (lv_at hl 4 rfl) ?_
          refine ty_xq (wr := []) (wc := ([(x, .inr (10, [.ref w, .ref sp, .ref sv, .ref bu, .int bl, .int le]))] ++ ws)) (vx_runV (As := [.int p1, .int 3]) (rest := [.ref x]) ⟨hx, hb, hml, hown, hts⟩ (t_X10_needTrialOf l hfl D ct S ws x w sp sv bu ns nb bl le p1 (3 : Int32) _ hT h_w h_sp h_sv h_bu) (cm_V 2 hts kc_X10_needTrialOf ki_RX10 kl_RX10_336 kv_X10_needTrialOf kx_X10_needTrialOf kd_X10_needTrialOf ⟨Nat.le_of_ble_eq_true rfl, Nat.le_of_ble_eq_true rfl⟩) (ty_preE (wr := []) (wc := ([(x, .inr (10, [.ref w, .ref sp, .ref sv, .ref bu, .int bl, .int le]))] ++ ws)) (ci := 10) (q0 := 0) hP hK hD hS hA hX rfl rfl) rfl rfl hl.1 rfl (lv_room (Nat.le_of_ble_eq_true rfl)) dX10_shortest_33 ⟨Nat.le_of_ble_eq_true rfl, Nat.le_of_ble_eq_true rfl⟩) hP hD hS hA (fun E ce q9 u H locs hu hE hP hD hS hce hcv hcl => ?_) (fun r_81 u H locs hw_82 hP hD hS => ?_)
          · obtain ⟨ws_83, rfl⟩ : ∃ z, z = u := ⟨_, rfl⟩
            have hT := hu
            have hP : va_P D vwCl ([(x, .inr (10, [.ref w, .ref sp, .ref sv, .ref bu, .int bl, .int le]))] ++ ws_83) H := hP
            have hD : va_D A ([(x, .inr (10, [.ref w, .ref sp, .ref sv, .ref bu, .int bl, .int le]))] ++ ws_83) := hD
            exact vx_out (fun x hx => (hex x hx).elim) hlocks hce hcv hcl (fun t ht hW => ⟨ws_83, hT, ⟨hE, by rw [ht]; exact hP, by rw [hAe]; exact hD⟩, hS.F ht⟩) hS.2.2 (Nat.le_of_ble_eq_true rfl) (Nat.le_of_ble_eq_true rfl)
          · obtain ⟨ws_84, rfl⟩ : ∃ z, z = u := ⟨_, rfl⟩
            obtain ⟨hT, hq_85⟩ := hw_82
            have hP : va_P D vwCl ([(x, .inr (10, [.ref w, .ref sp, .ref sv, .ref bu, .int bl, .int le]))] ++ ws_84) H := hP
            have hD : va_D A ([(x, .inr (10, [.ref w, .ref sp, .ref sv, .ref bu, .int bl, .int le]))] ++ ws_84) := hD
            refine W.widen (k := 5) (n := 30) (Nat.le_of_ble_eq_true rfl) (Nat.le_of_ble_eq_true rfl) ?_
            obtain ⟨a_86, rfl, ha_87⟩ := hq_85
            refine W.eq (g2 := F0 m 36 ls (.ref a_86 :: [.ref x])) rfl ?_
            refine lv_iconst (v := 3) hx hb dX10_shortest_36 (by decide) ?_
            refine ty_ki (wr := []) (wc := ([(x, .inr (10, [.ref w, .ref sp, .ref sv, .ref bu, .int bl, .int le]))] ++ ws_84)) (va_runV (As := [.ref a_86, .int 3]) (rest := []) ⟨hx, hb, hml, hown, hts⟩ (t_X10_ticksUntil l D ct S ws_84 x w sp sv bu ns nb bl le a_86 (3 : Int32) _ hT h_w h_sp h_sv h_bu ha_87) (cm_V 2 hts kc_X10_ticksUntil ki_RX10 kl_RX10_324 kv_X10_ticksUntil kx_X10_ticksUntil kd_X10_ticksUntil ⟨Nat.le_of_ble_eq_true rfl, Nat.le_of_ble_eq_true rfl⟩) (ty_preE (wr := []) (wc := ([(x, .inr (10, [.ref w, .ref sp, .ref sv, .ref bu, .int bl, .int le]))] ++ ws_84)) (ci := 10) (q0 := 0) hP hK hD hS hA hX rfl rfl) rfl rfl hl.1 rfl (lv_room (Nat.le_of_ble_eq_true rfl)) dX10_shortest_37 ⟨Nat.le_of_ble_eq_true rfl, Nat.le_of_ble_eq_true rfl⟩) hP hD hS hA (fun r_88 u H locs hw_89 hP hD hS => ?_)
            obtain ⟨ws_90, rfl⟩ : ∃ z, z = u := ⟨_, rfl⟩
            have hT := hw_89
            have hP : va_P D vwCl ([(x, .inr (10, [.ref w, .ref sp, .ref sv, .ref bu, .int bl, .int le]))] ++ ws_90) H := hP
            have hD : va_D A ([(x, .inr (10, [.ref w, .ref sp, .ref sv, .ref bu, .int bl, .int le]))] ++ ws_90) := hD
            refine lv_istore (lv' := [(5, .int r_88), (0, .ref x), (1, .int p1), (2, .int y2), (3, .int y3), (4, .int 3)]) hx hb dX10_shortest_40 hl (by decide) rfl (fun ls hl => ?_)
            refine lv_iload hx hb dX10_shortest_42 (lv_at hl 0 rfl) ?_
            refine lv_iconst (v := (-1)) hx hb dX10_shortest_44 (by decide) ?_
            refine lv_icmp_eq (tgt := 65) hx hb dX10_shortest_45 (by decide) (fun hc_91 => ?_) (fun hc_91 => ?_)
            · refine lv_iinc (v := 4) (lv' := [(4, .int 4), (5, .int r_88), (0, .ref x), (1, .int p1), (2, .int y2), (3, .int y3)]) hx hb dX10_shortest_65 hl (k := 5) rfl (by decide) (by decide) rfl (fun ls hl => ?_)
              refine lv_goto (tgt := 13) hx hb dX10_shortest_68 (by decide) ?_
              exact K_4 _ _ _ ⟨ws_90, y2, y3, hT, hP, hD, hS, (lv_sub hl [2, 3, 4, 5, 0] rfl)⟩
            · refine lv_iload_n hx hb dX10_shortest_48 rfl (lv_at hl 3 rfl) ?_
              refine lv_iconst (v := (-1)) hx hb dX10_shortest_49 (by decide) ?_
              refine lv_icmp_eq (tgt := 59) hx hb dX10_shortest_50 (by decide) (fun hc_92 => ?_) (fun hc_92 => ?_)
              · refine lv_iload hx hb dX10_shortest_59 (lv_at hl 5 rfl) ?_
                refine lv_istore_n (lv' := [(2, .int 3), (5, .int r_88), (0, .ref x), (1, .int p1), (3, .int y3), (4, .int 3)]) hx hb dX10_shortest_61 rfl hl (by decide) rfl (fun ls hl => ?_)
                refine lv_iload hx hb dX10_shortest_62 (lv_at hl 1 rfl) ?_
                refine lv_istore_n (lv' := [(3, .int r_88), (2, .int 3), (5, .int r_88), (0, .ref x), (1, .int p1), (4, .int 3)]) hx hb dX10_shortest_64 rfl hl (by decide) rfl (fun ls hl => ?_)
                refine lv_iinc (v := 4) (lv' := [(4, .int 4), (3, .int r_88), (2, .int 3), (5, .int r_88), (0, .ref x), (1, .int p1)]) hx hb dX10_shortest_65 hl (k := 5) rfl (by decide) (by decide) rfl (fun ls hl => ?_)
                refine lv_goto (tgt := 13) hx hb dX10_shortest_68 (by decide) ?_
                exact K_4 _ _ _ ⟨ws_90, (3 : Int32), r_88, hT, hP, hD, hS, (lv_sub hl [4, 5, 2, 1, 0] rfl)⟩
              · refine lv_iload hx hb dX10_shortest_53 (lv_at hl 0 rfl) ?_
                refine lv_iload_n hx hb dX10_shortest_55 rfl (lv_at hl 4 rfl) ?_
                refine lv_icmp_ge (tgt := 65) hx hb dX10_shortest_56 (by decide) (fun hc_93 => ?_) (fun hc_93 => ?_)
                · refine lv_iinc (v := 4) (lv' := [(4, .int 4), (5, .int r_88), (0, .ref x), (1, .int p1), (2, .int y2), (3, .int y3)]) hx hb dX10_shortest_65 hl (k := 5) rfl (by decide) (by decide) rfl (fun ls hl => ?_)
                  refine lv_goto (tgt := 13) hx hb dX10_shortest_68 (by decide) ?_
                  exact K_4 _ _ _ ⟨ws_90, y2, y3, hT, hP, hD, hS, (lv_sub hl [2, 3, 4, 5, 0] rfl)⟩
                · refine lv_iload hx hb dX10_shortest_59 (lv_at hl 5 rfl) ?_
                  refine lv_istore_n (lv' := [(2, .int 3), (5, .int r_88), (0, .ref x), (1, .int p1), (3, .int y3), (4, .int 3)]) hx hb dX10_shortest_61 rfl hl (by decide) rfl (fun ls hl => ?_)
                  refine lv_iload hx hb dX10_shortest_62 (lv_at hl 1 rfl) ?_
                  refine lv_istore_n (lv' := [(3, .int r_88), (2, .int 3), (5, .int r_88), (0, .ref x), (1, .int p1), (4, .int 3)]) hx hb dX10_shortest_64 rfl hl (by decide) rfl (fun ls hl => ?_)
                  refine lv_iinc (v := 4) (lv' := [(4, .int 4), (3, .int r_88), (2, .int 3), (5, .int r_88), (0, .ref x), (1, .int p1)]) hx hb dX10_shortest_65 hl (k := 5) rfl (by decide) (by decide) rfl (fun ls hl => ?_)
                  refine lv_goto (tgt := 13) hx hb dX10_shortest_68 (by decide) ?_
                  exact K_4 _ _ _ ⟨ws_90, (3 : Int32), r_88, hT, hP, hD, hS, (lv_sub hl [4, 5, 2, 1, 0] rfl)⟩
    · obtain ⟨ws, y2, y3, hT, hP, hD, hS, hl⟩ := hI
      refine lv_iload hx hb dX10_shortest_13 (lv_at hl 4 rfl) ?_
      refine lv_aload_n hx hb dX10_shortest_15 rfl (lv_at hl 0 rfl) ?_
      refine va_get (v := .ref w) (D := D) (ci := 10) (C := RX10) (T := TX10) (N := 6) hx hb hts in_X10 hown hK hP 0 rfl rfl 0 (by decide) (hts _ kl_RX10_10) (fun _ h9 => h9) rfl dX10_shortest_16 ?_
      refine ty_getN (E := [(x, .inr (10, [.ref w, .ref sp, .ref sv, .ref bu, .int bl, .int le]))]) (ws := ws) (D := D) (ci := 9) (C := RX9) (T := TX9) (N := 8) hx hb hts in_X9 hown hK hP hT h_w rfl 3 (by decide) (hts _ kl_RX10_85) (fun _ h9 => h9) rfl dX10_shortest_19 (fun _ hv_94 hf_95 => ?_)
      obtain ⟨a_96, rfl, ha_97⟩ := hv_94
      refine ty_getN (E := [(x, .inr (10, [.ref w, .ref sp, .ref sv, .ref bu, .int bl, .int le]))]) (ws := ws) (D := D) (ci := 5) (C := RX5) (T := TX5) (N := 5) hx hb hts in_X5 hown hK hP hT ha_97 rfl 0 (by decide) (hts _ kl_RX10_89) (fun _ h9 => h9) rfl dX10_shortest_22 (fun _ hv_98 hf_99 => ?_)
      obtain ⟨x_100, rfl, hz_101⟩ := hv_98
      refine lv_icmp_ge (tgt := 71) hx hb dX10_shortest_25 (by decide) (fun _ => ?_) (fun hc => absurd (ty_le4 hz_101) hc)
      refine lv_iload_n hx hb dX10_shortest_71 rfl (lv_at hl 2 rfl) ?_
      refine vx_ret ?_
      exact W.iret (v := y2) hx hb hr (fun t ht hW => ⟨⟨y2, ws, rfl, hT, by rw [ht]; exact hP, by rw [hAe]; exact hD⟩, hS.F ht⟩) hS.2.2 dX10_shortest_72
