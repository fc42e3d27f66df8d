theorem dX7_init_0 : decode cX7_init 0 = .ok (.aload_n 0, 1) := by decide +kernel
theorem dX7_init_1 : decode cX7_init 1 = .ok (.invokespecial 1, 3) := by decide +kernel
theorem dX7_init_4 : decode cX7_init 4 = .ok (.aload_n 0, 1) := by decide +kernel
theorem dX7_init_5 : decode cX7_init 5 = .ok (.invokevirtual 7, 3) := by decide +kernel
theorem dX7_init_8 : decode cX7_init 8 = .ok (.return_, 1) := by decide +kernel
set_option maxRecDepth 100000 in
set_option maxHeartbeats 4000000 in
theorem t_X7_init (l : Launch) (D : va_G) (ct : Nat → ClassId) (S : ty_S) (ws : va_W) (ph : va_W → Prop) (xx : Nat → Nat → Nat → Prop) (h0 : Nat) (sz : Nat) (hT : ty_V ct S ph ws) (h_h0 : S h0 = some (.inl 7)) (hph : ty_C ph xx) (hy1 : ty_y1 xx) (hy7 : ty_yc xx 7) : Met l yX7_init (ws_ yX7_init cX7_init 1 none) ({ frames := 1, cells := 0, slots := 0, locals := 20 } : Room) (va_Pc [.ref h0] (cmP D ct sz ([] ++ ws))) (va_Qv (fun (u9 : va_W) => ty_V ct S ph u9) (cmB D ([] ++ ws) sz (fun (u9 : va_W) => ([] ++ u9))) (va_A ([] ++ ws) sz)) 0 0 (va_A ([] ++ ws) sz) := by
  refine Met.ofW (cc := cX7_init) (maxL := 1) (ret := none) (by decide) rfl ?_
  intro p e s m args below meth c s₁ B hml hv
  obtain ⟨rfl, hsz, hP, hK, hD0, hX⟩ := hv
  have hx := B.exec
  have hb := B.bytes
  have hr := B.returns
  have hts := ws_all (atoms_spec (ws := ws_ yX7_init cX7_init 1 none) B.pre)
  have hown : s.vm.findClass RX7 = some m.cls := findClass_of_methodNamed B.named
  have hlocks := B.notSynchronized
  have hin : meth.name = "<init>" := (name_of_methodNamed B.named B.method).1
  subst hsz
  have hD := hD0.self (sz := s.heap.size)
  generalize hAe : va_A ([] ++ ws) s.heap.size = A at hD hX ⊢
  have hA : ∀ q : Nat, s.heap.size ≤ q → A q := fun q h => by rw [← hAe]; exact Or.inr h
  have hS : va_S A s.heap s.heap [] := va_S.rf
  have hl := lv_entry ([.ref h0]) (n := 1) (Nat.le_of_ble_eq_true rfl)
  rw [lg_entry_eq]
  generalize (lg_sl ([.ref h0]) ++ List.replicate (1 - (lg_sl ([.ref h0])).length) Slot.unset).toArray = ls at hl ⊢
  have hl : lv_has ls 1 [(0, .ref h0)] := hl
  refine lv_aload_n hx hb dX7_init_0 rfl (lv_at hl 0 rfl) ?_
  refine W.objInit hx hb hown (hts _ kl_RX7_1) (hts _ kv_java_lang_Object_init) (hts _ kc_java_lang_Object_init) rfl (by rw [hml]; exact hl.1) rfl dX7_init_1 (Nat.le_of_ble_eq_true rfl) (Nat.le_of_ble_eq_true rfl) ?_
  refine W.eq (g2 := F0 m 4 ls []) rfl ?_
  refine lv_aload_n hx hb dX7_init_4 rfl (lv_at hl 0 rfl) ?_
  refine ty_kv (wr := []) (wc := ([] ++ ws)) (va_runV (As := []) (rest := []) ⟨hx, hb, hml, hown, hts⟩ (t_X7_clear l D ct S ws ph xx h0 _ hT h_h0 hph hy1 hy7) (cm_V 0 hts kc_X7_clear ki_RX7 kl_RX7_7 kv_X7_clear kx_X7_clear kd_X7_clear ⟨Nat.le_of_ble_eq_true rfl, Nat.le_of_ble_eq_true rfl⟩) (ty_preV (wr := []) (E := []) (ws := ws) (ci := 7) hP hK hD hS hA hX hT rfl h_h0) rfl rfl hl.1 rfl (lv_room (Nat.le_of_ble_eq_true rfl)) dX7_init_5 ⟨Nat.le_of_ble_eq_true rfl, Nat.le_of_ble_eq_true rfl⟩) hP hD hS hA (fun u H locs hw_2 hP hD hS => ?_)
  obtain ⟨ws_3, rfl⟩ : ∃ z, z = u := ⟨_, rfl⟩
  have hT := hw_2
  have hP : va_P D vwCl ([] ++ ws_3) H := hP
  have hD : va_D A ([] ++ ws_3) := hD
  exact W.vret hx hb hr (fun t ht hW => ⟨⟨ws_3, rfl, hT, by rw [ht]; exact hP, by rw [hAe]; exact hD⟩, hS.F ht⟩) hS.2.2 dX7_init_8
theorem dX3_init_0 : decode cX3_init 0 = .ok (.aload_n 0, 1) := by decide +kernel
theorem dX3_init_1 : decode cX3_init 1 = .ok (.invokespecial 1, 3) := by decide +kernel
theorem dX3_init_4 : decode cX3_init 4 = .ok (.return_, 1) := by decide +kernel
set_option maxRecDepth 100000 in
set_option maxHeartbeats 4000000 in
theorem t_X3_init (l : Launch) (D : va_G) (ct : Nat → ClassId) (S : ty_S) (ws : va_W) (ph : va_W → Prop) (xx : Nat → Nat → Nat → Prop) (h0 : Nat) (sz : Nat) (hT : ty_V ct S ph ws) (h_h0 : S h0 = some (.inl 3)) (hph : ty_C ph xx) (hy1 : ty_y1 xx) : Met l yX3_init (ws_ yX3_init cX3_init 1 none) ({ frames := 1, cells := 0, slots := 0, locals := 12 } : Room) (va_Pc [.ref h0] (cmP D ct sz ([] ++ ws))) (va_Qv (fun (u9 : va_W) => ty_V ct S ph u9) (cmB D ([] ++ ws) sz (fun (u9 : va_W) => ([] ++ u9))) (va_A ([] ++ ws) sz)) 0 0 (va_A ([] ++ ws) sz) := by
  refine Met.ofW (cc := cX3_init) (maxL := 1) (ret := none) (by decide) rfl ?_
  intro p e s m args below meth c s₁ B hml hv
  obtain ⟨rfl, hsz, hP, hK, hD0, hX⟩ := hv
  have hx := B.exec
  have hb := B.bytes
  have hr := B.returns
  have hts := ws_all (atoms_spec (ws := ws_ yX3_init cX3_init 1 none) B.pre)
  have hown : s.vm.findClass RX3 = some m.cls := findClass_of_methodNamed B.named
  have hlocks := B.notSynchronized
  have hin : meth.name = "<init>" := (name_of_methodNamed B.named B.method).1
  subst hsz
  have hD := hD0.self (sz := s.heap.size)
  generalize hAe : va_A ([] ++ ws) s.heap.size = A at hD hX ⊢
  have hA : ∀ q : Nat, s.heap.size ≤ q → A q := fun q h => by rw [← hAe]; exact Or.inr h
  have hS : va_S A s.heap s.heap [] := va_S.rf
  have hl := lv_entry ([.ref h0]) (n := 1) (Nat.le_of_ble_eq_true rfl)
  rw [lg_entry_eq]
  generalize (lg_sl ([.ref h0]) ++ List.replicate (1 - (lg_sl ([.ref h0])).length) Slot.unset).toArray = ls at hl ⊢
  have hl : lv_has ls 1 [(0, .ref h0)] := hl
  refine lv_aload_n hx hb dX3_init_0 rfl (lv_at hl 0 rfl) ?_
  refine W.objInit hx hb hown (hts _ kl_RX3_1) (hts _ kv_java_lang_Object_init) (hts _ kc_java_lang_Object_init) rfl (by rw [hml]; exact hl.1) rfl dX3_init_1 (Nat.le_of_ble_eq_true rfl) (Nat.le_of_ble_eq_true rfl) ?_
  refine W.eq (g2 := F0 m 4 ls []) rfl ?_
  exact W.vret hx hb hr (fun t ht hW => ⟨⟨ws, rfl, hT, by rw [ht]; exact hP, by rw [hAe]; exact hD⟩, hS.F ht⟩) hS.2.2 dX3_init_4
theorem dX2_init_0 : decode cX2_init 0 = .ok (.aload_n 0, 1) := by decide +kernel
theorem dX2_init_1 : decode cX2_init 1 = .ok (.invokespecial 3, 3) := by decide +kernel
theorem dX2_init_4 : decode cX2_init 4 = .ok (.aload_n 0, 1) := by decide +kernel
theorem dX2_init_5 : decode cX2_init 5 = .ok (.iconst 4, 1) := by decide +kernel
theorem dX2_init_6 : decode cX2_init 6 = .ok (.newarray .long, 2) := by decide +kernel
theorem dX2_init_8 : decode cX2_init 8 = .ok (.putfield 9, 3) := by decide +kernel
theorem dX2_init_11 : decode cX2_init 11 = .ok (.aload_n 0, 1) := by decide +kernel
theorem dX2_init_12 : decode cX2_init 12 = .ok (.iconst 4, 1) := by decide +kernel
theorem dX2_init_13 : decode cX2_init 13 = .ok (.newarray .int, 2) := by decide +kernel
theorem dX2_init_15 : decode cX2_init 15 = .ok (.putfield 15, 3) := by decide +kernel
theorem dX2_init_18 : decode cX2_init 18 = .ok (.aload_n 0, 1) := by decide +kernel
theorem dX2_init_19 : decode cX2_init 19 = .ok (.bipush 44, 2) := by decide +kernel
theorem dX2_init_21 : decode cX2_init 21 = .ok (.newarray .int, 2) := by decide +kernel
theorem dX2_init_23 : decode cX2_init 23 = .ok (.putfield 19, 3) := by decide +kernel
theorem dX2_init_26 : decode cX2_init 26 = .ok (.return_, 1) := by decide +kernel
set_option maxRecDepth 100000 in
set_option maxHeartbeats 4000000 in
theorem t_X2_init (l : Launch) (D : va_G) (ct : Nat → ClassId) (S : ty_S) (ws : va_W) (ph : va_W → Prop) (xx : Nat → Nat → Nat → Prop) (h0 : Nat) (sz : Nat) (hT : ty_V ct S ph ws) (hph : ty_C ph xx) (hy1 : ty_y1 xx) : Met l yX2_init (ws_ yX2_init cX2_init 1 none) ({ frames := 1, cells := 3, slots := 52, locals := 12 } : Room) (va_Pc [.ref h0] (cmP D ct sz ([(h0, .inr (2, [.int 0, .null, .null, .null]))] ++ ws))) (va_Qv (fun (u : va_W × ty_S × Nat) => match u with | (u9, S9, na) => ty_V ct S9 ph u9 ∧ ty_le S S9 ∧ S9 h0 = some (.inl 2) ∧ S9 na = some (.inr (1, 4)) ∧ ty_fc h0 2 1 (.ref na) u9) (cmB D ([(h0, .inr (2, [.int 0, .null, .null, .null]))] ++ ws) sz (fun (u : va_W × ty_S × Nat) => match u with | (u9, S9, na) => ([] ++ u9))) (va_A ([(h0, .inr (2, [.int 0, .null, .null, .null]))] ++ ws) sz)) 3 52 (va_A ([(h0, .inr (2, [.int 0, .null, .null, .null]))] ++ ws) sz) := by
  refine Met.ofW (cc := cX2_init) (maxL := 1) (ret := none) (by decide) rfl ?_
  intro p e s m args below meth c s₁ B hml hv
  obtain ⟨rfl, hsz, hP, hK, hD0, hX⟩ := hv
  have hx := B.exec
  have hb := B.bytes
  have hr := B.returns
  have hts := ws_all (atoms_spec (ws := ws_ yX2_init cX2_init 1 none) B.pre)
  have hown : s.vm.findClass RX2 = some m.cls := findClass_of_methodNamed B.named
  have hlocks := B.notSynchronized
  have hin : meth.name = "<init>" := (name_of_methodNamed B.named B.method).1
  subst hsz
  have hD := hD0.self (sz := s.heap.size)
  generalize hAe : va_A ([(h0, .inr (2, [.int 0, .null, .null, .null]))] ++ ws) s.heap.size = A at hD hX ⊢
  have hA : ∀ q : Nat, s.heap.size ≤ q → A q := fun q h => by rw [← hAe]; exact Or.inr h
  have hS : va_S A s.heap s.heap [] := va_S.rf
  have hl := lv_entry ([.ref h0]) (n := 1) (Nat.le_of_ble_eq_true rfl)
  rw [lg_entry_eq]
  generalize (lg_sl ([.ref h0]) ++ List.replicate (1 - (lg_sl ([.ref h0])).length) Slot.unset).toArray = ls at hl ⊢
  have hl : lv_has ls 1 [(0, .ref h0)] := hl
  refine lv_aload_n hx hb dX2_init_0 rfl (lv_at hl 0 rfl) ?_
  refine W.objInit hx hb hown (hts _ kl_RX2_3) (hts _ kv_java_lang_Object_init) (hts _ kc_java_lang_Object_init) rfl (by rw [hml]; exact hl.1) rfl dX2_init_1 (Nat.le_of_ble_eq_true rfl) (Nat.le_of_ble_eq_true rfl) ?_
  refine W.eq (g2 := F0 m 4 ls []) rfl ?_
  refine lv_aload_n hx hb dX2_init_4 rfl (lv_at hl 0 rfl) ?_
  refine lv_iconst (v := 4) hx hb dX2_init_5 (by decide) ?_
  refine cm_newa (atype := .long) (ty := .long) (a0 := (4, .inr (.inl (fun _ => 0)))) hx hb (hts _ ka_long) rfl hK 1 rfl cm_raJ hP hD hS hA (fun _ => rfl) (by decide) (by decide) (Nat.le_of_ble_eq_true rfl) (Nat.le_of_ble_eq_true rfl) (Nat.le_of_ble_eq_true rfl) dX2_init_6 (fun q_1 H hP hD hS => ?_)
  have hP : va_P D vwCl ([(h0, .inr (2, [.int 0, .null, .null, .null])), (q_1, .inl (ct 1, 4, .inr (.inl (fun _ => 0))))] ++ ws) H := ty_permP hP ty_mvp
  have hD : va_D A ([(h0, .inr (2, [.int 0, .null, .null, .null])), (q_1, .inl (ct 1, 4, .inr (.inl (fun _ => 0))))] ++ ws) := ty_permD hD ty_mvp
  refine W.widen (k := 1) (n := 4) (Nat.le_of_ble_eq_true rfl) (Nat.le_of_ble_eq_true rfl) ?_
  obtain ⟨ws_2, S_3, hT, hle_4, hk_5, hP, hD, hw_6⟩ := ty_abs (κ := .inr (1, 4)) (E1 := [(h0, .inr (2, [.int 0, .null, .null, .null]))]) hP hD hT hph ⟨by decide, _, rfl⟩
  refine va_putF (v := .ref q_1) (ty := (tyX2 1)) (D := D) (ci := 2) (C := RX2) (T := TX2) (N := 4) hx hb hts in_X2 tyX2 tyX2_ok nmX2 hown hK hP hD hS 0 rfl rfl 1 (by decide) (hts _ kl_RX2_9) (fun _ h9 => h9) rfl hin rfl (by decide +kernel) rfl rfl (Nat.le_of_ble_eq_true rfl) dX2_init_8 (fun H locs hP hD hS => ?_)
  have hP : va_P D vwCl ([(h0, .inr (2, [.int 0, .ref q_1, .null, .null]))] ++ ws_2) H := hP
  have hD : va_D A ([(h0, .inr (2, [.int 0, .ref q_1, .null, .null]))] ++ ws_2) := hD
  refine lv_aload_n hx hb dX2_init_11 rfl (lv_at hl 0 rfl) ?_
  refine lv_iconst (v := 4) hx hb dX2_init_12 (by decide) ?_
  refine cm_newa (atype := .int) (ty := .int) (a0 := (4, .inl (fun _ => 0))) hx hb (hts _ ka_int) rfl hK 0 rfl cm_raI hP hD hS hA (fun _ => rfl) (by decide) (by decide) (Nat.le_of_ble_eq_true rfl) (Nat.le_of_ble_eq_true rfl) (Nat.le_of_ble_eq_true rfl) dX2_init_13 (fun q_7 H hP hD hS => ?_)
  have hP : va_P D vwCl ([(h0, .inr (2, [.int 0, .ref q_1, .null, .null])), (q_7, .inl (ct 0, 4, .inl (fun _ => 0)))] ++ ws_2) H := ty_permP hP ty_mvp
  have hD : va_D A ([(h0, .inr (2, [.int 0, .ref q_1, .null, .null])), (q_7, .inl (ct 0, 4, .inl (fun _ => 0)))] ++ ws_2) := ty_permD hD ty_mvp
  refine W.widen (k := 2) (n := 8) (Nat.le_of_ble_eq_true rfl) (Nat.le_of_ble_eq_true rfl) ?_
  obtain ⟨ws_8, S_9, hT, hle_10, hk_11, hP, hD, hw_12⟩ := ty_abs (κ := .inr (0, 4)) (E1 := [(h0, .inr (2, [.int 0, .ref q_1, .null, .null]))]) hP hD hT hph ⟨by decide, _, rfl⟩
  have hg_13 := hle_10 _ _ hk_5
  refine va_putF (v := .ref q_7) (ty := (tyX2 2)) (D := D) (ci := 2) (C := RX2) (T := TX2) (N := 4) hx hb hts in_X2 tyX2 tyX2_ok nmX2 hown hK hP hD hS 0 rfl rfl 2 (by decide) (hts _ kl_RX2_15) (fun _ h9 => h9) rfl hin rfl (by decide +kernel) rfl rfl (Nat.le_of_ble_eq_true rfl) dX2_init_15 (fun H locs hP hD hS => ?_)
  have hP : va_P D vwCl ([(h0, .inr (2, [.int 0, .ref q_1, .ref q_7, .null]))] ++ ws_8) H := hP
  have hD : va_D A ([(h0, .inr (2, [.int 0, .ref q_1, .ref q_7, .null]))] ++ ws_8) := hD
  refine lv_aload_n hx hb dX2_init_18 rfl (lv_at hl 0 rfl) ?_
  refine lv_bipush (v := 44) hx hb dX2_init_19 (by decide) ?_
  refine cm_newa (atype := .int) (ty := .int) (a0 := (44, .inl (fun _ => 0))) hx hb (hts _ ka_int) rfl hK 0 rfl cm_raI hP hD hS hA (fun _ => rfl) (by decide) (by decide) (Nat.le_of_ble_eq_true rfl) (Nat.le_of_ble_eq_true rfl) (Nat.le_of_ble_eq_true rfl) dX2_init_21 (fun q_14 H hP hD hS => ?_)
  have hP : va_P D vwCl ([(h0, .inr (2, [.int 0, .ref q_1, .ref q_7, .null])), (q_14, .inl (ct 0, 44, .inl (fun _ => 0)))] ++ ws_8) H := ty_permP hP ty_mvp
  have hD : va_D A ([(h0, .inr (2, [.int 0, .ref q_1, .ref q_7, .null])), (q_14, .inl (ct 0, 44, .inl (fun _ => 0)))] ++ ws_8) := ty_permD hD ty_mvp
  refine W.widen (k := 3) (n := 52) (Nat.le_of_ble_eq_true rfl) (Nat.le_of_ble_eq_true rfl) ?_
  obtain ⟨ws_15, S_16, hT, hle_17, hk_18, hP, hD, hw_19⟩ := ty_abs (κ := .inr (0, 44)) (E1 := [(h0, .inr (2, [.int 0, .ref q_1, .ref q_7, .null]))]) hP hD hT hph ⟨by decide, _, rfl⟩
  have hg_20 := hle_17 _ _ hg_13
  have hg_21 := hle_17 _ _ hk_11
  refine va_putF (v := .ref q_14) (ty := (tyX2 3)) (D := D) (ci := 2) (C := RX2) (T := TX2) (N := 4) hx hb hts in_X2 tyX2 tyX2_ok nmX2 hown hK hP hD hS 0 rfl rfl 3 (by decide) (hts _ kl_RX2_19) (fun _ h9 => h9) rfl hin rfl (by decide +kernel) rfl rfl (Nat.le_of_ble_eq_true rfl) dX2_init_23 (fun H locs hP hD hS => ?_)
  have hP : va_P D vwCl ([(h0, .inr (2, [.int 0, .ref q_1, .ref q_7, .ref q_14]))] ++ ws_15) H := hP
  have hD : va_D A ([(h0, .inr (2, [.int 0, .ref q_1, .ref q_7, .ref q_14]))] ++ ws_15) := hD
  obtain ⟨ws_22, S_23, hT, hle_24, hk_25, hP, hD, hw_26⟩ := ty_abs (κ := .inl 2) (E1 := []) hP hD hT hph ⟨_, rfl, ty_of_all (show ty_all S_16 (ty_F 2) [.int 0, .ref q_1, .ref q_7, .ref q_14] from ⟨⟨_, rfl⟩, ⟨⟨_, _, rfl, hg_20⟩, ⟨⟨_, _, rfl, hg_21⟩, ⟨⟨_, _, rfl, hk_18⟩, trivial⟩⟩⟩⟩)⟩
  have hg_27 := hle_24 _ _ hg_20
  have hg_28 := hle_24 _ _ hg_21
  have hg_29 := hle_24 _ _ hk_18
  exact W.vret hx hb hr (fun t ht hW => ⟨⟨(ws_22, S_23, q_1), rfl, ⟨hT, (fun a9 k9 h9 => hle_24 _ _ ((fun a9 k9 h9 => hle_17 _ _ ((fun a9 k9 h9 => hle_10 _ _ ((fun a9 k9 h9 => hle_4 _ _ ((fun _ _ h9 => h9) a9 k9 h9)) a9 k9 h9)) a9 k9 h9)) a9 k9 h9)), ⟨hk_25, hg_27, ⟨0, _, hw_26, rfl⟩⟩⟩, by rw [ht]; exact hP, by rw [hAe]; exact hD⟩, hS.F ht⟩) hS.2.2 dX2_init_26
theorem dX5_init_0 : decode cX5_init 0 = .ok (.aload_n 0, 1) := by decide +kernel
theorem dX5_init_1 : decode cX5_init 1 = .ok (.invokespecial 3, 3) := by decide +kernel
theorem dX5_init_4 : decode cX5_init 4 = .ok (.aload_n 0, 1) := by decide +kernel
theorem dX5_init_5 : decode cX5_init 5 = .ok (.iconst 4, 1) := by decide +kernel
theorem dX5_init_6 : decode cX5_init 6 = .ok (.newarray .int, 2) := by decide +kernel
theorem dX5_init_8 : decode cX5_init 8 = .ok (.putfield 9, 3) := by decide +kernel
theorem dX5_init_11 : decode cX5_init 11 = .ok (.aload_n 0, 1) := by decide +kernel
theorem dX5_init_12 : decode cX5_init 12 = .ok (.bipush 48, 2) := by decide +kernel
theorem dX5_init_14 : decode cX5_init 14 = .ok (.newarray .int, 2) := by decide +kernel
theorem dX5_init_16 : decode cX5_init 16 = .ok (.putfield 15, 3) := by decide +kernel
theorem dX5_init_19 : decode cX5_init 19 = .ok (.aload_n 0, 1) := by decide +kernel
theorem dX5_init_20 : decode cX5_init 20 = .ok (.bipush 48, 2) := by decide +kernel
theorem dX5_init_22 : decode cX5_init 22 = .ok (.newarray .int, 2) := by decide +kernel
theorem dX5_init_24 : decode cX5_init 24 = .ok (.putfield 18, 3) := by decide +kernel
theorem dX5_init_27 : decode cX5_init 27 = .ok (.aload_n 0, 1) := by decide +kernel
theorem dX5_init_28 : decode cX5_init 28 = .ok (.bipush 48, 2) := by decide +kernel
theorem dX5_init_30 : decode cX5_init 30 = .ok (.newarray .int, 2) := by decide +kernel
theorem dX5_init_32 : decode cX5_init 32 = .ok (.putfield 21, 3) := by decide +kernel
theorem dX5_init_35 : decode cX5_init 35 = .ok (.return_, 1) := by decide +kernel
set_option maxRecDepth 100000 in
set_option maxHeartbeats 4000000 in
theorem t_X5_init (l : Launch) (D : va_G) (ct : Nat → ClassId) (S : ty_S) (ws : va_W) (ph : va_W → Prop) (xx : Nat → Nat → Nat → Prop) (h0 : Nat) (sz : Nat) (hT : ty_V ct S ph ws) (hph : ty_C ph xx) (hy1 : ty_y1 xx) : Met l yX5_init (ws_ yX5_init cX5_init 1 none) ({ frames := 1, cells := 4, slots := 148, locals := 12 } : Room) (va_Pc [.ref h0] (cmP D ct sz ([(h0, .inr (5, [.int 0, .null, .null, .null, .null]))] ++ ws))) (va_Qv (fun (u : va_W × ty_S) => match u with | (u9, S9) => ty_V ct S9 ph u9 ∧ ty_le S S9 ∧ S9 h0 = some (.inl 5)) (cmB D ([(h0, .inr (5, [.int 0, .null, .null, .null, .null]))] ++ ws) sz (fun (u : va_W × ty_S) => match u with | (u9, S9) => ([] ++ u9))) (va_A ([(h0, .inr (5, [.int 0, .null, .null, .null, .null]))] ++ ws) sz)) 4 148 (va_A ([(h0, .inr (5, [.int 0, .null, .null, .null, .null]))] ++ ws) sz) := by
  refine Met.ofW (cc := cX5_init) (maxL := 1) (ret := none) (by decide) rfl ?_
  intro p e s m args below meth c s₁ B hml hv
  obtain ⟨rfl, hsz, hP, hK, hD0, hX⟩ := hv
  have hx := B.exec
  have hb := B.bytes
  have hr := B.returns
  have hts := ws_all (atoms_spec (ws := ws_ yX5_init cX5_init 1 none) B.pre)
  have hown : s.vm.findClass RX5 = some m.cls := findClass_of_methodNamed B.named
  have hlocks := B.notSynchronized
  have hin : meth.name = "<init>" := (name_of_methodNamed B.named B.method).1
  subst hsz
  have hD := hD0.self (sz := s.heap.size)
  generalize hAe : va_A ([(h0, .inr (5, [.int 0, .null, .null, .null, .null]))] ++ ws) s.heap.size = A at hD hX ⊢
  have hA : ∀ q : Nat, s.heap.size ≤ q → A q := fun q h => by rw [← hAe]; exact Or.inr h
  have hS : va_S A s.heap s.heap [] := va_S.rf
  have hl := lv_entry ([.ref h0]) (n := 1) (Nat.le_of_ble_eq_true rfl)
  rw [lg_entry_eq]
  generalize (lg_sl ([.ref h0]) ++ List.replicate (1 - (lg_sl ([.ref h0])).length) Slot.unset).toArray = ls at hl ⊢
  have hl : lv_has ls 1 [(0, .ref h0)] := hl
  refine lv_aload_n hx hb dX5_init_0 rfl (lv_at hl 0 rfl) ?_
  refine W.objInit hx hb hown (hts _ kl_RX5_3) (hts _ kv_java_lang_Object_init) (hts _ kc_java_lang_Object_init) rfl (by rw [hml]; exact hl.1) rfl dX5_init_1 (Nat.le_of_ble_eq_true rfl) (Nat.le_of_ble_eq_true rfl) ?_
  refine W.eq (g2 := F0 m 4 ls []) rfl ?_
  refine lv_aload_n hx hb dX5_init_4 rfl (lv_at hl 0 rfl) ?_
  refine lv_iconst (v := 4) hx hb dX5_init_5 (by decide) ?_
  refine cm_newa (atype := .int) (ty := .int) (a0 := (4, .inl (fun _ => 0))) hx hb (hts _ ka_int) rfl hK 0 rfl cm_raI hP hD hS hA (fun _ => rfl) (by decide) (by decide) (Nat.le_of_ble_eq_true rfl) (Nat.le_of_ble_eq_true rfl) (Nat.le_of_ble_eq_true rfl) dX5_init_6 (fun q_1 H hP hD hS => ?_)
  have hP : va_P D vwCl ([(h0, .inr (5, [.int 0, .null, .null, .null, .null])), (q_1, .inl (ct 0, 4, .inl (fun _ => 0)))] ++ ws) H := ty_permP hP ty_mvp
  have hD : va_D A ([(h0, .inr (5, [.int 0, .null, .null, .null, .null])), (q_1, .inl (ct 0, 4, .inl (fun _ => 0)))] ++ ws) := ty_permD hD ty_mvp
  refine W.widen (k := 1) (n := 4) (Nat.le_of_ble_eq_true rfl) (Nat.le_of_ble_eq_true rfl) ?_
  obtain ⟨ws_2, S_3, hT, hle_4, hk_5, hP, hD, hw_6⟩ := ty_abs (κ := .inr (0, 4)) (E1 := [(h0, .inr (5, [.int 0, .null, .null, .null, .null]))]) hP hD hT hph ⟨by decide, _, rfl⟩
  refine va_putF (v := .ref q_1) (ty := (tyX5 1)) (D := D) (ci := 5) (C := RX5) (T := TX5) (N := 5) hx hb hts in_X5 tyX5 tyX5_ok nmX5 hown hK hP hD hS 0 rfl rfl 1 (by decide) (hts _ kl_RX5_9) (fun _ h9 => h9) rfl hin rfl (by decide +kernel) rfl rfl (Nat.le_of_ble_eq_true rfl) dX5_init_8 (fun H locs hP hD hS => ?_)
  have hP : va_P D vwCl ([(h0, .inr (5, [.int 0, .ref q_1, .null, .null, .null]))] ++ ws_2) H := hP
  have hD : va_D A ([(h0, .inr (5, [.int 0, .ref q_1, .null, .null, .null]))] ++ ws_2) := hD
  refine lv_aload_n hx hb dX5_init_11 rfl (lv_at hl 0 rfl) ?_
  refine lv_bipush (v := 48) hx hb dX5_init_12 (by decide) ?_
  refine cm_newa (atype := .int) (ty := .int) (a0 := (48, .inl (fun _ => 0))) hx hb (hts _ ka_int) rfl hK 0 rfl cm_raI hP hD hS hA (fun _ => rfl) (by decide) (by decide) (Nat.le_of_ble_eq_true rfl) (Nat.le_of_ble_eq_true rfl) (Nat.le_of_ble_eq_true rfl) dX5_init_14 (fun q_7 H hP hD hS => ?_)
  have hP : va_P D vwCl ([(h0, .inr (5, [.int 0, .ref q_1, .null, .null, .null])), (q_7, .inl (ct 0, 48, .inl (fun _ => 0)))] ++ ws_2) H := ty_permP hP ty_mvp
  have hD : va_D A ([(h0, .inr (5, [.int 0, .ref q_1, .null, .null, .null])), (q_7, .inl (ct 0, 48, .inl (fun _ => 0)))] ++ ws_2) := ty_permD hD ty_mvp
  refine W.widen (k := 2) (n := 52) (Nat.le_of_ble_eq_true rfl) (Nat.le_of_ble_eq_true rfl) ?_
  obtain ⟨ws_8, S_9, hT, hle_10, hk_11, hP, hD, hw_12⟩ := ty_abs (κ := .inr (0, 48)) (E1 := [(h0, .inr (5, [.int 0, .ref q_1, .null, .null, .null]))]) hP hD hT hph ⟨by decide, _, rfl⟩
  have hg_13 := hle_10 _ _ hk_5
  refine va_putF (v := .ref q_7) (ty := (tyX5 2)) (D := D) (ci := 5) (C := RX5) (T := TX5) (N := 5) hx hb hts in_X5 tyX5 tyX5_ok nmX5 hown hK hP hD hS 0 rfl rfl 2 (by decide) (hts _ kl_RX5_15) (fun _ h9 => h9) rfl hin rfl (by decide +kernel) rfl rfl (Nat.le_of_ble_eq_true rfl) dX5_init_16 (fun H locs hP hD hS => ?_)
  have hP : va_P D vwCl ([(h0, .inr (5, [.int 0, .ref q_1, .ref q_7, .null, .null]))] ++ ws_8) H := hP
  have hD : va_D A ([(h0, .inr (5, [.int 0, .ref q_1, .ref q_7, .null, .null]))] ++ ws_8) := hD
  refine lv_aload_n hx hb dX5_init_19 rfl (lv_at hl 0 rfl) ?_
  refine lv_bipush (v := 48) hx hb dX5_init_20 (by decide) ?_
  refine cm_newa (atype := .int) (ty := .int) (a0 := (48, .inl (fun _ => 0))) hx hb (hts _ ka_int) rfl hK 0 rfl cm_raI hP hD hS hA (fun _ => rfl) (by decide) (by decide) (Nat.le_of_ble_eq_true rfl) (Nat.le_of_ble_eq_true rfl) (Nat.le_of_ble_eq_true rfl) dX5_init_22 (fun q_14 H hP hD hS => ?_)
  have hP : va_P D vwCl ([(h0, .inr (5, [.int 0, .ref q_1, .ref q_7, .null, .null])), (q_14, .inl (ct 0, 48, .inl (fun _ => 0)))] ++ ws_8) H := ty_permP hP ty_mvp
  have hD : va_D A ([(h0, .inr (5, [.int 0, .ref q_1, .ref q_7, .null, .null])), (q_14, .inl (ct 0, 48, .inl (fun _ => 0)))] ++ ws_8) := ty_permD hD ty_mvp
  refine W.widen (k := 3) (n := 100) (Nat.le_of_ble_eq_true rfl) (Nat.le_of_ble_eq_true rfl) ?_
  obtain ⟨ws_15, S_16, hT, hle_17, hk_18, hP, hD, hw_19⟩ := ty_abs (κ := .inr (0, 48)) (E1 := [(h0, .inr (5, [.int 0, .ref q_1, .ref q_7, .null, .null]))]) hP hD hT hph ⟨by decide, _, rfl⟩
  have hg_20 := hle_17 _ _ hg_13
  have hg_21 := hle_17 _ _ hk_11
  refine va_putF (v := .ref q_14) (ty := (tyX5 3)) (D := D) (ci := 5) (C := RX5) (T := TX5) (N := 5) hx hb hts in_X5 tyX5 tyX5_ok nmX5 hown hK hP hD hS 0 rfl rfl 3 (by decide) (hts _ kl_RX5_18) (fun _ h9 => h9) rfl hin rfl (by decide +kernel) rfl rfl (Nat.le_of_ble_eq_true rfl) dX5_init_24 (fun H locs hP hD hS => ?_)
  have hP : va_P D vwCl ([(h0, .inr (5, [.int 0, .ref q_1, .ref q_7, .ref q_14, .null]))] ++ ws_15) H := hP
  have hD : va_D A ([(h0, .inr (5, [.int 0, .ref q_1, .ref q_7, .ref q_14, .null]))] ++ ws_15) := hD
  refine lv_aload_n hx hb dX5_init_27 rfl (lv_at hl 0 rfl) ?_
  refine lv_bipush (v := 48) hx hb dX5_init_28 (by decide) ?_
  refine cm_newa (atype := .int) (ty := .int) (a0 := (48, .inl (fun _ => 0))) hx hb (hts _ ka_int) rfl hK 0 rfl cm_raI hP hD hS hA (fun _ => rfl) (by decide) (by decide) (Nat.le_of_ble_eq_true rfl) (Nat.le_of_ble_eq_true rfl) (Nat.le_of_ble_eq_true rfl) dX5_init_30 (fun q_22 H hP hD hS => ?_)
  have hP : va_P D vwCl ([(h0, .inr (5, [.int 0, .ref q_1, .ref q_7, .ref q_14, .null])), (q_22, .inl (ct 0, 48, .inl (fun _ => 0)))] ++ ws_15) H := ty_permP hP ty_mvp
  have hD : va_D A ([(h0, .inr (5, [.int 0, .ref q_1, .ref q_7, .ref q_14, .null])), (q_22, .inl (ct 0, 48, .inl (fun _ => 0)))] ++ ws_15) := ty_permD hD ty_mvp
  refine W.widen (k := 4) (n := 148) (Nat.le_of_ble_eq_true rfl) (Nat.le_of_ble_eq_true rfl) ?_
  obtain ⟨ws_23, S_24, hT, hle_25, hk_26, hP, hD, hw_27⟩ := ty_abs (κ := .inr (0, 48)) (E1 := [(h0, .inr (5, [.int 0, .ref q_1, .ref q_7, .ref q_14, .null]))]) hP hD hT hph ⟨by decide, _, rfl⟩
  have hg_28 := hle_25 _ _ hg_20
  have hg_29 := hle_25 _ _ hg_21
  have hg_30 := hle_25 _ _ hk_18
  refine va_putF (v := .ref q_22) (ty := (tyX5 4)) (D := D) (ci := 5) (C := RX5) (T := TX5) (N := 5) hx hb hts in_X5 tyX5 tyX5_ok nmX5 hown hK hP hD hS 0 rfl rfl 4 (by decide) (hts _ kl_RX5_21) (fun _ h9 => h9) rfl hin rfl (by decide +kernel) rfl rfl (Nat.le_of_ble_eq_true rfl) dX5_init_32 (fun H locs hP hD hS => ?_)
  have hP : va_P D vwCl ([(h0, .inr (5, [.int 0, .ref q_1, .ref q_7, .ref q_14, .ref q_22]))] ++ ws_23) H := hP
  have hD : va_D A ([(h0, .inr (5, [.int 0, .ref q_1, .ref q_7, .ref q_14, .ref q_22]))] ++ ws_23) := hD
  obtain ⟨ws_31, S_32, hT, hle_33, hk_34, hP, hD, hw_35⟩ := ty_abs (κ := .inl 5) (E1 := []) hP hD hT hph ⟨_, rfl, ty_of_all (show ty_all S_24 (ty_F 5) [.int 0, .ref q_1, .ref q_7, .ref q_14, .ref q_22] from ⟨⟨_, rfl, by decide⟩, ⟨⟨_, _, rfl, hg_28⟩, ⟨⟨_, _, rfl, hg_29⟩, ⟨⟨_, _, rfl, hg_30⟩, ⟨⟨_, _, rfl, hk_26⟩, trivial⟩⟩⟩⟩⟩)⟩
  exact W.vret hx hb hr (fun t ht hW => ⟨⟨(ws_31, S_32), rfl, ⟨hT, (fun a9 k9 h9 => hle_33 _ _ ((fun a9 k9 h9 => hle_25 _ _ ((fun a9 k9 h9 => hle_17 _ _ ((fun a9 k9 h9 => hle_10 _ _ ((fun a9 k9 h9 => hle_4 _ _ ((fun _ _ h9 => h9) a9 k9 h9)) a9 k9 h9)) a9 k9 h9)) a9 k9 h9)) a9 k9 h9)), hk_34⟩, by rw [ht]; exact hP, by rw [hAe]; exact hD⟩, hS.F ht⟩) hS.2.2 dX5_init_35
theorem dX8_init_0 : decode cX8_init 0 = .ok (.aload_n 0, 1) := by decide +kernel
theorem dX8_init_1 : decode cX8_init 1 = .ok (.invokespecial 1, 3) := by decide +kernel
theorem dX8_init_4 : decode cX8_init 4 = .ok (.aload_n 0, 1) := by decide +kernel
theorem dX8_init_5 : decode cX8_init 5 = .ok (.iconst 1, 1) := by decide +kernel
theorem dX8_init_6 : decode cX8_init 6 = .ok (.iload_n 1, 1) := by decide +kernel
theorem dX8_init_7 : decode cX8_init 7 = .ok (.invokestatic 7, 3) := by decide +kernel
theorem dX8_init_10 : decode cX8_init 10 = .ok (.putfield 13, 3) := by decide +kernel
theorem dX8_init_13 : decode cX8_init 13 = .ok (.aload_n 0, 1) := by decide +kernel
theorem dX8_init_14 : decode cX8_init 14 = .ok (.iconst 1, 1) := by decide +kernel
theorem dX8_init_15 : decode cX8_init 15 = .ok (.iload_n 2, 1) := by decide +kernel
theorem dX8_init_16 : decode cX8_init 16 = .ok (.invokestatic 7, 3) := by decide +kernel
theorem dX8_init_19 : decode cX8_init 19 = .ok (.putfield 19, 3) := by decide +kernel
theorem dX8_init_22 : decode cX8_init 22 = .ok (.aload_n 0, 1) := by decide +kernel
theorem dX8_init_23 : decode cX8_init 23 = .ok (.iconst 1, 1) := by decide +kernel
theorem dX8_init_24 : decode cX8_init 24 = .ok (.aload_n 0, 1) := by decide +kernel
theorem dX8_init_25 : decode cX8_init 25 = .ok (.getfield 13, 3) := by decide +kernel
theorem dX8_init_28 : decode cX8_init 28 = .ok (.aload_n 0, 1) := by decide +kernel
theorem dX8_init_29 : decode cX8_init 29 = .ok (.getfield 19, 3) := by decide +kernel
theorem dX8_init_32 : decode cX8_init 32 = .ok (.imul, 1) := by decide +kernel
theorem dX8_init_33 : decode cX8_init 33 = .ok (.invokestatic 7, 3) := by decide +kernel
theorem dX8_init_36 : decode cX8_init 36 = .ok (.newarray .int, 2) := by decide +kernel
theorem dX8_init_38 : decode cX8_init 38 = .ok (.putfield 22, 3) := by decide +kernel
theorem dX8_init_41 : decode cX8_init 41 = .ok (.return_, 1) := by decide +kernel
set_option maxRecDepth 100000 in
set_option maxHeartbeats 4000000 in
theorem t_X8_init_30 (l : Launch) (D : va_G) (ct : Nat → ClassId) (S : ty_S) (ws : va_W) (ph : va_W → Prop) (xx : Nat → Nat → Nat → Prop) (h0 : Nat) (sz : Nat) (hT : ty_V ct S ph ws) (hph : ty_C ph xx) (hy1 : ty_y1 xx) : Met l yX8_init (ws_ yX8_init cX8_init 3 none) ({ frames := 1, cells := 1, slots := 150, locals := 14 } : Room) (va_Pc [.ref h0, .int 30, .int 5] (cmP D ct sz ([(h0, .inr (8, [.int 0, .int 0, .null, .int 0, .int 0]))] ++ ws))) (va_Qv (fun (u : va_W × ty_S) => match u with | (u9, S9) => ty_V ct S9 ph u9 ∧ ty_le S S9 ∧ S9 h0 = some (.inl 8)) (cmB D ([(h0, .inr (8, [.int 0, .int 0, .null, .int 0, .int 0]))] ++ ws) sz (fun (u : va_W × ty_S) => match u with | (u9, S9) => ([] ++ u9))) (va_A ([(h0, .inr (8, [.int 0, .int 0, .null, .int 0, .int 0]))] ++ ws) sz)) 1 150 (va_A ([(h0, .inr (8, [.int 0, .int 0, .null, .int 0, .int 0]))] ++ ws) sz) := by
  refine Met.ofW (cc := cX8_init) (maxL := 3) (ret := none) (by decide) rfl ?_
  intro p e s m args below meth c s₁ B hml hv
  obtain ⟨rfl, hsz, hP, hK, hD0, hX⟩ := hv
  have hx := B.exec
  have hb := B.bytes
  have hr := B.returns
  have hts := ws_all (atoms_spec (ws := ws_ yX8_init cX8_init 3 none) B.pre)
  have hown : s.vm.findClass RX8 = some m.cls := findClass_of_methodNamed B.named
  have hlocks := B.notSynchronized
  have hin : meth.name = "<init>" := (name_of_methodNamed B.named B.method).1
  subst hsz
  have hD := hD0.self (sz := s.heap.size)
  generalize hAe : va_A ([(h0, .inr (8, [.int 0, .int 0, .null, .int 0, .int 0]))] ++ ws) s.heap.size = A at hD hX ⊢
  have hA : ∀ q : Nat, s.heap.size ≤ q → A q := fun q h => by rw [← hAe]; exact Or.inr h
  have hS : va_S A s.heap s.heap [] := va_S.rf
  have hl := lv_entry ([.ref h0, .int 30, .int 5]) (n := 3) (Nat.le_of_ble_eq_true rfl)
  rw [lg_entry_eq]
  generalize (lg_sl ([.ref h0, .int 30, .int 5]) ++ List.replicate (3 - (lg_sl ([.ref h0, .int 30, .int 5])).length) Slot.unset).toArray = ls at hl ⊢
  have hl : lv_has ls 3 [(0, .ref h0), (1, .int 30), (2, .int 5)] := hl
  refine lv_aload_n hx hb dX8_init_0 rfl (lv_at hl 0 rfl) ?_
  refine W.objInit hx hb hown (hts _ kl_RX8_1) (hts _ kv_java_lang_Object_init) (hts _ kc_java_lang_Object_init) rfl (by rw [hml]; exact hl.1) rfl dX8_init_1 (Nat.le_of_ble_eq_true rfl) (Nat.le_of_ble_eq_true rfl) ?_
  refine W.eq (g2 := F0 m 4 ls []) rfl ?_
  refine lv_aload_n hx hb dX8_init_4 rfl (lv_at hl 0 rfl) ?_
  refine lv_iconst (v := 1) hx hb dX8_init_5 (by decide) ?_
  refine lv_iload_n hx hb dX8_init_6 rfl (lv_at hl 1 rfl) ?_
  refine va_mmax hx hb (hml.trans hl.1.symm) hown (hts _ kl_RX8_7) (hts _ jm_max_s) (hts _ ki_RJ9) (hts _ jm_max_c) (Nat.le_of_ble_eq_true rfl) (Nat.le_of_ble_eq_true rfl) (Nat.le_of_ble_eq_true rfl) (Nat.le_of_ble_eq_true rfl) dX8_init_7 ?_
  refine cm_cst (y := 30) (by decide) ?_
  refine va_putF (v := .int 30) (ty := .int) (D := D) (ci := 8) (C := RX8) (T := TX8) (N := 5) hx hb hts in_X8 tyX8 tyX8_ok nmX8 hown hK hP hD hS 0 rfl rfl 0 (by decide) (hts _ kl_RX8_13) (fun _ h9 => h9) rfl hin rfl (by decide +kernel) rfl rfl (Nat.le_of_ble_eq_true rfl) dX8_init_10 (fun H locs hP hD hS => ?_)
  have hP : va_P D vwCl ([(h0, .inr (8, [.int 30, .int 0, .null, .int 0, .int 0]))] ++ ws) H := hP
  have hD : va_D A ([(h0, .inr (8, [.int 30, .int 0, .null, .int 0, .int 0]))] ++ ws) := hD
  refine lv_aload_n hx hb dX8_init_13 rfl (lv_at hl 0 rfl) ?_
  refine lv_iconst (v := 1) hx hb dX8_init_14 (by decide) ?_
  refine lv_iload_n hx hb dX8_init_15 rfl (lv_at hl 2 rfl) ?_
  refine va_mmax hx hb (hml.trans hl.1.symm) hown (hts _ kl_RX8_7) (hts _ jm_max_s) (hts _ ki_RJ9) (hts _ jm_max_c) (Nat.le_of_ble_eq_true rfl) (Nat.le_of_ble_eq_true rfl) (Nat.le_of_ble_eq_true rfl) (Nat.le_of_ble_eq_true rfl) dX8_init_16 ?_
  refine cm_cst (y := 5) (by decide) ?_
  refine va_putF (v := .int 5) (ty := .int) (D := D) (ci := 8) (C := RX8) (T := TX8) (N := 5) hx hb hts in_X8 tyX8 tyX8_ok nmX8 hown hK hP hD hS 0 rfl rfl 1 (by decide) (hts _ kl_RX8_19) (fun _ h9 => h9) rfl hin rfl (by decide +kernel) rfl rfl (Nat.le_of_ble_eq_true rfl) dX8_init_19 (fun H locs hP hD hS => ?_)
  have hP : va_P D vwCl ([(h0, .inr (8, [.int 30, .int 5, .null, .int 0, .int 0]))] ++ ws) H := hP
  have hD : va_D A ([(h0, .inr (8, [.int 30, .int 5, .null, .int 0, .int 0]))] ++ ws) := hD
  refine lv_aload_n hx hb dX8_init_22 rfl (lv_at hl 0 rfl) ?_
  refine lv_iconst (v := 1) hx hb dX8_init_23 (by decide) ?_
  refine lv_aload_n hx hb dX8_init_24 rfl (lv_at hl 0 rfl) ?_
  refine va_get (v := .int 30) (D := D) (ci := 8) (C := RX8) (T := TX8) (N := 5) hx hb hts in_X8 hown hK hP 0 rfl rfl 0 (by decide) (hts _ kl_RX8_13) (fun _ h9 => h9) rfl dX8_init_25 ?_
  refine lv_aload_n hx hb dX8_init_28 rfl (lv_at hl 0 rfl) ?_
  refine va_get (v := .int 5) (D := D) (ci := 8) (C := RX8) (T := TX8) (N := 5) hx hb hts in_X8 hown hK hP 0 rfl rfl 1 (by decide) (hts _ kl_RX8_19) (fun _ h9 => h9) rfl dX8_init_29 ?_
  refine lv_imul hx hb dX8_init_32 ?_
  refine cm_cst (y := 150) (by decide) ?_
  refine va_mmax hx hb (hml.trans hl.1.symm) hown (hts _ kl_RX8_7) (hts _ jm_max_s) (hts _ ki_RJ9) (hts _ jm_max_c) (Nat.le_of_ble_eq_true rfl) (Nat.le_of_ble_eq_true rfl) (Nat.le_of_ble_eq_true rfl) (Nat.le_of_ble_eq_true rfl) dX8_init_33 ?_
  refine cm_cst (y := 150) (by decide) ?_
  refine cm_newa (atype := .int) (ty := .int) (a0 := (150, .inl (fun _ => 0))) hx hb (hts _ ka_int) rfl hK 0 rfl cm_raI hP hD hS hA (fun _ => rfl) (by decide) (by decide) (Nat.le_of_ble_eq_true rfl) (Nat.le_of_ble_eq_true rfl) (Nat.le_of_ble_eq_true rfl) dX8_init_36 (fun q_1 H hP hD hS => ?_)
  have hP : va_P D vwCl ([(h0, .inr (8, [.int 30, .int 5, .null, .int 0, .int 0])), (q_1, .inl (ct 0, 150, .inl (fun _ => 0)))] ++ ws) H := ty_permP hP ty_mvp
  have hD : va_D A ([(h0, .inr (8, [.int 30, .int 5, .null, .int 0, .int 0])), (q_1, .inl (ct 0, 150, .inl (fun _ => 0)))] ++ ws) := ty_permD hD ty_mvp
  refine W.widen (k := 1) (n := 150) (Nat.le_of_ble_eq_true rfl) (Nat.le_of_ble_eq_true rfl) ?_
  obtain ⟨ws_2, S_3, hT, hle_4, hk_5, hP, hD, hw_6⟩ := ty_abs (κ := .inr (0, 150)) (E1 := [(h0, .inr (8, [.int 30, .int 5, .null, .int 0, .int 0]))]) hP hD hT hph ⟨by decide, _, rfl⟩
  refine va_putF (v := .ref q_1) (ty := (tyX8 2)) (D := D) (ci := 8) (C := RX8) (T := TX8) (N := 5) hx hb hts in_X8 tyX8 tyX8_ok nmX8 hown hK hP hD hS 0 rfl rfl 2 (by decide) (hts _ kl_RX8_22) (fun _ h9 => h9) rfl hin rfl (by decide +kernel) rfl rfl (Nat.le_of_ble_eq_true rfl) dX8_init_38 (fun H locs hP hD hS => ?_)
  have hP : va_P D vwCl ([(h0, .inr (8, [.int 30, .int 5, .ref q_1, .int 0, .int 0]))] ++ ws_2) H := hP
  have hD : va_D A ([(h0, .inr (8, [.int 30, .int 5, .ref q_1, .int 0, .int 0]))] ++ ws_2) := hD
  obtain ⟨ws_7, S_8, hT, hle_9, hk_10, hP, hD, hw_11⟩ := ty_abs (κ := .inl 8) (E1 := []) hP hD hT hph ⟨_, rfl, ty_of_all (show ty_all S_3 (ty_F 8) [.int 30, .int 5, .ref q_1, .int 0, .int 0] from ⟨⟨_, rfl⟩, ⟨⟨_, rfl⟩, ⟨⟨_, _, rfl, hk_5⟩, ⟨⟨_, rfl⟩, ⟨⟨_, rfl⟩, trivial⟩⟩⟩⟩⟩)⟩
  exact W.vret hx hb hr (fun t ht hW => ⟨⟨(ws_7, S_8), rfl, ⟨hT, (fun a9 k9 h9 => hle_9 _ _ ((fun a9 k9 h9 => hle_4 _ _ ((fun _ _ h9 => h9) a9 k9 h9)) a9 k9 h9)), hk_10⟩, by rw [ht]; exact hP, by rw [hAe]; exact hD⟩, hS.F ht⟩) hS.2.2 dX8_init_41
set_option maxRecDepth 100000 in
set_option maxHeartbeats 4000000 in
theorem t_X8_init_60 (l : Launch) (D : va_G) (ct : Nat → ClassId) (S : ty_S) (ws : va_W) (ph : va_W → Prop) (xx : Nat → Nat → Nat → Prop) (h0 : Nat) (sz : Nat) (hT : ty_V ct S ph ws) (hph : ty_C ph xx) (hy1 : ty_y1 xx) : Met l yX8_init (ws_ yX8_init cX8_init 3 none) ({ frames := 1, cells := 1, slots := 240, locals := 14 } : Room) (va_Pc [.ref h0, .int 60, .int 4] (cmP D ct sz ([(h0, .inr (8, [.int 0, .int 0, .null, .int 0, .int 0]))] ++ ws))) (va_Qv (fun (u : va_W × ty_S) => match u with | (u9, S9) => ty_V ct S9 ph u9 ∧ ty_le S S9 ∧ S9 h0 = some (.inl 8)) (cmB D ([(h0, .inr (8, [.int 0, .int 0, .null, .int 0, .int 0]))] ++ ws) sz (fun (u : va_W × ty_S) => match u with | (u9, S9) => ([] ++ u9))) (va_A ([(h0, .inr (8, [.int 0, .int 0, .null, .int 0, .int 0]))] ++ ws) sz)) 1 240 (va_A ([(h0, .inr (8, [.int 0, .int 0, .null, .int 0, .int 0]))] ++ ws) sz) := by
  refine Met.ofW (cc := cX8_init) (maxL := 3) (ret := none) (by decide) rfl ?_
  intro p e s m args below meth c s₁ B hml hv
  obtain ⟨rfl, hsz, hP, hK, hD0, hX⟩ := hv
  have hx := B.exec
  have hb := B.bytes
  have hr := B.returns
  have hts := ws_all (atoms_spec (ws := ws_ yX8_init cX8_init 3 none) B.pre)
  have hown : s.vm.findClass RX8 = some m.cls := findClass_of_methodNamed B.named
  have hlocks := B.notSynchronized
  have hin : meth.name = "<init>" := (name_of_methodNamed B.named B.method).1
  subst hsz
  have hD := hD0.self (sz := s.heap.size)
  generalize hAe : va_A ([(h0, .inr (8, [.int 0, .int 0, .null, .int 0, .int 0]))] ++ ws) s.heap.size = A at hD hX ⊢
  have hA : ∀ q : Nat, s.heap.size ≤ q → A q := fun q h => by rw [← hAe]; exact Or.inr h
  have hS : va_S A s.heap s.heap [] := va_S.rf
  have hl := lv_entry ([.ref h0, .int 60, .int 4]) (n := 3) (Nat.le_of_ble_eq_true rfl)
  rw [lg_entry_eq]
  generalize (lg_sl ([.ref h0, .int 60, .int 4]) ++ List.replicate (3 - (lg_sl ([.ref h0, .int 60, .int 4])).length) Slot.unset).toArray = ls at hl ⊢
  have hl : lv_has ls 3 [(0, .ref h0), (1, .int 60), (2, .int 4)] := hl
  refine lv_aload_n hx hb dX8_init_0 rfl (lv_at hl 0 rfl) ?_
  refine W.objInit hx hb hown (hts _ kl_RX8_1) (hts _ kv_java_lang_Object_init) (hts _ kc_java_lang_Object_init) rfl (by rw [hml]; exact hl.1) rfl dX8_init_1 (Nat.le_of_ble_eq_true rfl) (Nat.le_of_ble_eq_true rfl) ?_
  refine W.eq (g2 := F0 m 4 ls []) rfl ?_
  refine lv_aload_n hx hb dX8_init_4 rfl (lv_at hl 0 rfl) ?_
  refine lv_iconst (v := 1) hx hb dX8_init_5 (by decide) ?_
  refine lv_iload_n hx hb dX8_init_6 rfl (lv_at hl 1 rfl) ?_
  refine va_mmax hx hb (hml.trans hl.1.symm) hown (hts _ kl_RX8_7) (hts _ jm_max_s) (hts _ ki_RJ9) (hts _ jm_max_c) (Nat.le_of_ble_eq_true rfl) (Nat.le_of_ble_eq_true rfl) (Nat.le_of_ble_eq_true rfl) (Nat.le_of_ble_eq_true rfl) dX8_init_7 ?_
  refine cm_cst (y := 60) (by decide) ?_
  refine va_putF (v := .int 60) (ty := .int) (D := D) (ci := 8) (C := RX8) (T := TX8) (N := 5) hx hb hts in_X8 tyX8 tyX8_ok nmX8 hown hK hP hD hS 0 rfl rfl 0 (by decide) (hts _ kl_RX8_13) (fun _ h9 => h9) rfl hin rfl (by decide +kernel) rfl rfl (Nat.le_of_ble_eq_true rfl) dX8_init_10 (fun H locs hP hD hS => ?_)
  have hP : va_P D vwCl ([(h0, .inr (8, [.int 60, .int 0, .null, .int 0, .int 0]))] ++ ws) H := hP
  have hD : va_D A ([(h0, .inr (8, [.int 60, .int 0, .null, .int 0, .int 0]))] ++ ws) := hD
  refine lv_aload_n hx hb dX8_init_13 rfl (lv_at hl 0 rfl) ?_
  refine lv_iconst (v := 1) hx hb dX8_init_14 (by decide) ?_
  refine lv_iload_n hx hb dX8_init_15 rfl (lv_at hl 2 rfl) ?_
  refine va_mmax hx hb (hml.trans hl.1.symm) hown (hts _ kl_RX8_7) (hts _ jm_max_s) (hts _ ki_RJ9) (hts _ jm_max_c) (Nat.le_of_ble_eq_true rfl) (Nat.le_of_ble_eq_true rfl) (Nat.le_of_ble_eq_true rfl) (Nat.le_of_ble_eq_true rfl) dX8_init_16 ?_
  refine cm_cst (y := 4) (by decide) ?_
  refine va_putF (v := .int 4) (ty := .int) (D := D) (ci := 8) (C := RX8) (T := TX8) (N := 5) hx hb hts in_X8 tyX8 tyX8_ok nmX8 hown hK hP hD hS 0 rfl rfl 1 (by decide) (hts _ kl_RX8_19) (fun _ h9 => h9) rfl hin rfl (by decide +kernel) rfl rfl (Nat.le_of_ble_eq_true rfl) dX8_init_19 (fun H locs hP hD hS => ?_)
  have hP : va_P D vwCl ([(h0, .inr (8, [.int 60, .int 4, .null, .int 0, .int 0]))] ++ ws) H := hP
  have hD : va_D A ([(h0, .inr (8, [.int 60, .int 4, .null, .int 0, .int 0]))] ++ ws) := hD
  refine lv_aload_n hx hb dX8_init_22 rfl (lv_at hl 0 rfl) ?_
  refine lv_iconst (v := 1) hx hb dX8_init_23 (by decide) ?_
  refine lv_aload_n hx hb dX8_init_24 rfl (lv_at hl 0 rfl) ?_
  refine va_get (v := .int 60) (D := D) (ci := 8) (C := RX8) (T := TX8) (N := 5) hx hb hts in_X8 hown hK hP 0 rfl rfl 0 (by decide) (hts _ kl_RX8_13) (fun _ h9 => h9) rfl dX8_init_25 ?_
  refine lv_aload_n hx hb dX8_init_28 rfl (lv_at hl 0 rfl) ?_
  refine va_get (v := .int 4) (D := D) (ci := 8) (C := RX8) (T := TX8) (N := 5) hx hb hts in_X8 hown hK hP 0 rfl rfl 1 (by decide) (hts _ kl_RX8_19) (fun _ h9 => h9) rfl dX8_init_29 ?_
  refine lv_imul hx hb dX8_init_32 ?_
  refine cm_cst (y := 240) (by decide) ?_
  refine va_mmax hx hb (hml.trans hl.1.symm) hown (hts _ kl_RX8_7) (hts _ jm_max_s) (hts _ ki_RJ9) (hts _ jm_max_c) (Nat.le_of_ble_eq_true rfl) (Nat.le_of_ble_eq_true rfl) (Nat.le_of_ble_eq_true rfl) (Nat.le_of_ble_eq_true rfl) dX8_init_33 ?_
  refine cm_cst (y := 240) (by decide) ?_
  refine cm_newa (atype := .int) (ty := .int) (a0 := (240, .inl (fun _ => 0))) hx hb (hts _ ka_int) rfl hK 0 rfl cm_raI hP hD hS hA (fun _ => rfl) (by decide) (by decide) (Nat.le_of_ble_eq_true rfl) (Nat.le_of_ble_eq_true rfl) (Nat.le_of_ble_eq_true rfl) dX8_init_36 (fun q_1 H hP hD hS => ?_)
  have hP : va_P D vwCl ([(h0, .inr (8, [.int 60, .int 4, .null, .int 0, .int 0])), (q_1, .inl (ct 0, 240, .inl (fun _ => 0)))] ++ ws) H := ty_permP hP ty_mvp
  have hD : va_D A ([(h0, .inr (8, [.int 60, .int 4, .null, .int 0, .int 0])), (q_1, .inl (ct 0, 240, .inl (fun _ => 0)))] ++ ws) := ty_permD hD ty_mvp
  refine W.widen (k := 1) (n := 240) (Nat.le_of_ble_eq_true rfl) (Nat.le_of_ble_eq_true rfl) ?_
  obtain ⟨ws_2, S_3, hT, hle_4, hk_5, hP, hD, hw_6⟩ := ty_abs (κ := .inr (0, 240)) (E1 := [(h0, .inr (8, [.int 60, .int 4, .null, .int 0, .int 0]))]) hP hD hT hph ⟨by decide, _, rfl⟩
  refine va_putF (v := .ref q_1) (ty := (tyX8 2)) (D := D) (ci := 8) (C := RX8) (T := TX8) (N := 5) hx hb hts in_X8 tyX8 tyX8_ok nmX8 hown hK hP hD hS 0 rfl rfl 2 (by decide) (hts _ kl_RX8_22) (fun _ h9 => h9) rfl hin rfl (by decide +kernel) rfl rfl (Nat.le_of_ble_eq_true rfl) dX8_init_38 (fun H locs hP hD hS => ?_)
  have hP : va_P D vwCl ([(h0, .inr (8, [.int 60, .int 4, .ref q_1, .int 0, .int 0]))] ++ ws_2) H := hP
  have hD : va_D A ([(h0, .inr (8, [.int 60, .int 4, .ref q_1, .int 0, .int 0]))] ++ ws_2) := hD
  obtain ⟨ws_7, S_8, hT, hle_9, hk_10, hP, hD, hw_11⟩ := ty_abs (κ := .inl 8) (E1 := []) hP hD hT hph ⟨_, rfl, ty_of_all (show ty_all S_3 (ty_F 8) [.int 60, .int 4, .ref q_1, .int 0, .int 0] from ⟨⟨_, rfl⟩, ⟨⟨_, rfl⟩, ⟨⟨_, _, rfl, hk_5⟩, ⟨⟨_, rfl⟩, ⟨⟨_, rfl⟩, trivial⟩⟩⟩⟩⟩)⟩
  exact W.vret hx hb hr (fun t ht hW => ⟨⟨(ws_7, S_8), rfl, ⟨hT, (fun a9 k9 h9 => hle_9 _ _ ((fun a9 k9 h9 => hle_4 _ _ ((fun _ _ h9 => h9) a9 k9 h9)) a9 k9 h9)), hk_10⟩, by rw [ht]; exact hP, by rw [hAe]; exact hD⟩, hS.F ht⟩) hS.2.2 dX8_init_41
theorem dX0_init_0 : decode cX0_init 0 = .ok (.aload_n 0, 1) := by decide +kernel
theorem dX0_init_1 : decode cX0_init 1 = .ok (.invokespecial 3, 3) := by decide +kernel
theorem dX0_init_4 : decode cX0_init 4 = .ok (.aload_n 0, 1) := by decide +kernel
theorem dX0_init_5 : decode cX0_init 5 = .ok (.bipush 11, 2) := by decide +kernel
theorem dX0_init_7 : decode cX0_init 7 = .ok (.newarray .int, 2) := by decide +kernel
theorem dX0_init_9 : decode cX0_init 9 = .ok (.putfield 9, 3) := by decide +kernel
theorem dX0_init_12 : decode cX0_init 12 = .ok (.aload_n 0, 1) := by decide +kernel
theorem dX0_init_13 : decode cX0_init 13 = .ok (.new 15, 3) := by decide +kernel
theorem dX0_init_16 : decode cX0_init 16 = .ok (.dup, 1) := by decide +kernel
theorem dX0_init_17 : decode cX0_init 17 = .ok (.invokespecial 17, 3) := by decide +kernel
theorem dX0_init_20 : decode cX0_init 20 = .ok (.putfield 18, 3) := by decide +kernel
theorem dX0_init_23 : decode cX0_init 23 = .ok (.return_, 1) := by decide +kernel
set_option maxRecDepth 100000 in
set_option maxHeartbeats 4000000 in
theorem t_X0_init (l : Launch) (D : va_G) (ct : Nat → ClassId) (S : ty_S) (ws : va_W) (ph : va_W → Prop) (xx : Nat → Nat → Nat → Prop) (h0 : Nat) (sz : Nat) (hT : ty_V ct S ph ws) (hph : ty_C ph xx) (hy1 : ty_y1 xx) : Met l yX0_init (ws_ yX0_init cX0_init 1 none) ({ frames := 2, cells := 2, slots := 15, locals := 32 } : Room) (va_Pc [.ref h0] (cmP D ct sz ([(h0, .inr (0, [.null, .int 0, .int 0, .int 0, .int 0, .int 0, .int 0, .int 0, .int 0, .int 0, .int 0, .int 0, .int 0, .int 0, .int 0, .null]))] ++ ws))) (va_Qv (fun (u : va_W × ty_S) => match u with | (u9, S9) => ty_V ct S9 ph u9 ∧ ty_le S S9 ∧ S9 h0 = some (.inl 0)) (cmB D ([(h0, .inr (0, [.null, .int 0, .int 0, .int 0, .int 0, .int 0, .int 0, .int 0, .int 0, .int 0, .int 0, .int 0, .int 0, .int 0, .int 0, .null]))] ++ ws) sz (fun (u : va_W × ty_S) => match u with | (u9, S9) => ([] ++ u9))) (va_A ([(h0, .inr (0, [.null, .int 0, .int 0, .int 0, .int 0, .int 0, .int 0, .int 0, .int 0, .int 0, .int 0, .int 0, .int 0, .int 0, .int 0, .null]))] ++ ws) sz)) 2 15 (va_A ([(h0, .inr (0, [.null, .int 0, .int 0, .int 0, .int 0, .int 0, .int 0, .int 0, .int 0, .int 0, .int 0, .int 0, .int 0, .int 0, .int 0, .null]))] ++ ws) sz) := by
  refine Met.ofW (cc := cX0_init) (maxL := 1) (ret := none) (by decide) rfl ?_
  intro p e s m args below meth c s₁ B hml hv
  obtain ⟨rfl, hsz, hP, hK, hD0, hX⟩ := hv
  have hx := B.exec
  have hb := B.bytes
  have hr := B.returns
  have hts := ws_all (atoms_spec (ws := ws_ yX0_init cX0_init 1 none) B.pre)
  have hown : s.vm.findClass RX0 = some m.cls := findClass_of_methodNamed B.named
  have hlocks := B.notSynchronized
  have hin : meth.name = "<init>" := (name_of_methodNamed B.named B.method).1
  subst hsz
  have hD := hD0.self (sz := s.heap.size)
  generalize hAe : va_A ([(h0, .inr (0, [.null, .int 0, .int 0, .int 0, .int 0, .int 0, .int 0, .int 0, .int 0, .int 0, .int 0, .int 0, .int 0, .int 0, .int 0, .null]))] ++ ws) s.heap.size = A at hD hX ⊢
  have hA : ∀ q : Nat, s.heap.size ≤ q → A q := fun q h => by rw [← hAe]; exact Or.inr h
  have hS : va_S A s.heap s.heap [] := va_S.rf
  have hl := lv_entry ([.ref h0]) (n := 1) (Nat.le_of_ble_eq_true rfl)
  rw [lg_entry_eq]
  generalize (lg_sl ([.ref h0]) ++ List.replicate (1 - (lg_sl ([.ref h0])).length) Slot.unset).toArray = ls at hl ⊢
  have hl : lv_has ls 1 [(0, .ref h0)] := hl
  refine lv_aload_n hx hb dX0_init_0 rfl (lv_at hl 0 rfl) ?_
  refine W.objInit hx hb hown (hts _ kl_RX0_3) (hts _ kv_java_lang_Object_init) (hts _ kc_java_lang_Object_init) rfl (by rw [hml]; exact hl.1) rfl dX0_init_1 (Nat.le_of_ble_eq_true rfl) (Nat.le_of_ble_eq_true rfl) ?_
  refine W.eq (g2 := F0 m 4 ls []) rfl ?_
  refine lv_aload_n hx hb dX0_init_4 rfl (lv_at hl 0 rfl) ?_
  refine lv_bipush (v := 11) hx hb dX0_init_5 (by decide) ?_
  refine cm_newa (atype := .int) (ty := .int) (a0 := (11, .inl (fun _ => 0))) hx hb (hts _ ka_int) rfl hK 0 rfl cm_raI hP hD hS hA (fun _ => rfl) (by decide) (by decide) (Nat.le_of_ble_eq_true rfl) (Nat.le_of_ble_eq_true rfl) (Nat.le_of_ble_eq_true rfl) dX0_init_7 (fun q_1 H hP hD hS => ?_)
  have hP : va_P D vwCl ([(h0, .inr (0, [.null, .int 0, .int 0, .int 0, .int 0, .int 0, .int 0, .int 0, .int 0, .int 0, .int 0, .int 0, .int 0, .int 0, .int 0, .null])), (q_1, .inl (ct 0, 11, .inl (fun _ => 0)))] ++ ws) H := ty_permP hP ty_mvp
  have hD : va_D A ([(h0, .inr (0, [.null, .int 0, .int 0, .int 0, .int 0, .int 0, .int 0, .int 0, .int 0, .int 0, .int 0, .int 0, .int 0, .int 0, .int 0, .null])), (q_1, .inl (ct 0, 11, .inl (fun _ => 0)))] ++ ws) := ty_permD hD ty_mvp
  refine W.widen (k := 1) (n := 11) (Nat.le_of_ble_eq_true rfl) (Nat.le_of_ble_eq_true rfl) ?_
  obtain ⟨ws_2, S_3, hT, hle_4, hk_5, hP, hD, hw_6⟩ := ty_abs (κ := .inr (0, 11)) (E1 := [(h0, .inr (0, [.null, .int 0, .int 0, .int 0, .int 0, .int 0, .int 0, .int 0, .int 0, .int 0, .int 0, .int 0, .int 0, .int 0, .int 0, .null]))]) hP hD hT hph ⟨by decide, _, rfl⟩
  refine va_putF (v := .ref q_1) (ty := (tyX0 0)) (D := D) (ci := 0) (C := RX0) (T := TX0) (N := 16) hx hb hts in_X0 tyX0 tyX0_ok nmX0 hown hK hP hD hS 0 rfl rfl 0 (by decide) (hts _ kl_RX0_9) (fun _ h9 => h9) rfl hin rfl (by decide +kernel) rfl rfl (Nat.le_of_ble_eq_true rfl) dX0_init_9 (fun H locs hP hD hS => ?_)
  have hP : va_P D vwCl ([(h0, .inr (0, [.ref q_1, .int 0, .int 0, .int 0, .int 0, .int 0, .int 0, .int 0, .int 0, .int 0, .int 0, .int 0, .int 0, .int 0, .int 0, .null]))] ++ ws_2) H := hP
  have hD : va_D A ([(h0, .inr (0, [.ref q_1, .int 0, .int 0, .int 0, .int 0, .int 0, .int 0, .int 0, .int 0, .int 0, .int 0, .int 0, .int 0, .int 0, .int 0, .null]))] ++ ws_2) := hD
  refine lv_aload_n hx hb dX0_init_12 rfl (lv_at hl 0 rfl) ?_
  refine va_new (ci := 3) (fs := [.long 0, .long 0, .long 0, .long 0]) (C := RX3) (T := TX3) (N := 4) hx hb hts in_X3 tyX3 tyX3_ok hown (hts _ kl_RX0_15) (hts _ kn_RX3) (hts _ ki_RX3) hK hP hD hS hA rfl fs0_X3 (Nat.le_of_ble_eq_true rfl) (Nat.le_of_ble_eq_true rfl) dX0_init_13 (fun q_7 H hP hD hS => ?_)
  have hP : va_P D vwCl ([(h0, .inr (0, [.ref q_1, .int 0, .int 0, .int 0, .int 0, .int 0, .int 0, .int 0, .int 0, .int 0, .int 0, .int 0, .int 0, .int 0, .int 0, .null])), (q_7, .inr (3, [.long 0, .long 0, .long 0, .long 0]))] ++ ws_2) H := ty_permP hP ty_mvp
  have hD : va_D A ([(h0, .inr (0, [.ref q_1, .int 0, .int 0, .int 0, .int 0, .int 0, .int 0, .int 0, .int 0, .int 0, .int 0, .int 0, .int 0, .int 0, .int 0, .null])), (q_7, .inr (3, [.long 0, .long 0, .long 0, .long 0]))] ++ ws_2) := ty_permD hD ty_mvp
  refine W.widen (k := 2) (n := 15) (Nat.le_of_ble_eq_true rfl) (Nat.le_of_ble_eq_true rfl) ?_
  obtain ⟨ws_8, S_9, hT, hle_10, hk_11, hP, hD, hw_12⟩ := ty_abs (κ := .inl 3) (E1 := [(h0, .inr (0, [.ref q_1, .int 0, .int 0, .int 0, .int 0, .int 0, .int 0, .int 0, .int 0, .int 0, .int 0, .int 0, .int 0, .int 0, .int 0, .null]))]) hP hD hT hph ⟨_, rfl, ty_of_all (show ty_all S_3 (ty_F 3) [.long 0, .long 0, .long 0, .long 0] from ⟨⟨_, rfl⟩, ⟨⟨_, rfl⟩, ⟨⟨_, rfl⟩, ⟨⟨_, rfl⟩, trivial⟩⟩⟩⟩)⟩
  have hg_13 := hle_10 _ _ hk_5
  refine lv_dup hx hb dX0_init_16 rfl ?_
  refine ty_kv (wr := [(h0, .inr (0, [.ref q_1, .int 0, .int 0, .int 0, .int 0, .int 0, .int 0, .int 0, .int 0, .int 0, .int 0, .int 0, .int 0, .int 0, .int 0, .null]))]) (wc := ([] ++ ws_8)) (va_runIN (As := []) (rest := [.ref q_7, .ref h0]) ⟨hx, hb, hml, hown, hts⟩ (t_X3_init l D ct S_9 ws_8 ph xx q_7 _ hT hk_11 hph hy1) (cm_IN 0 hts kc_X3_init ki_RX3 kl_RX0_17 kv_X3_init rfl kd_X3_init ⟨Nat.le_of_ble_eq_true rfl, Nat.le_of_ble_eq_true rfl⟩) (ty_preS (wr := [(h0, .inr (0, [.ref q_1, .int 0, .int 0, .int 0, .int 0, .int 0, .int 0, .int 0, .int 0, .int 0, .int 0, .int 0, .int 0, .int 0, .int 0, .null]))]) (wc := ([] ++ ws_8)) hP hK hD hS hA hX) rfl rfl hl.1 rfl (lv_room (Nat.le_of_ble_eq_true rfl)) dX0_init_17 ⟨Nat.le_of_ble_eq_true rfl, Nat.le_of_ble_eq_true rfl⟩) hP hD hS hA (fun u H locs hw_15 hP hD hS => ?_)
  obtain ⟨ws_16, rfl⟩ : ∃ z, z = u := ⟨_, rfl⟩
  have hT := hw_15
  have hP : va_P D vwCl ([(h0, .inr (0, [.ref q_1, .int 0, .int 0, .int 0, .int 0, .int 0, .int 0, .int 0, .int 0, .int 0, .int 0, .int 0, .int 0, .int 0, .int 0, .null]))] ++ ws_16) H := hP
  have hD : va_D A ([(h0, .inr (0, [.ref q_1, .int 0, .int 0, .int 0, .int 0, .int 0, .int 0, .int 0, .int 0, .int 0, .int 0, .int 0, .int 0, .int 0, .int 0, .null]))] ++ ws_16) := hD
  refine va_putF (v := .ref q_7) (ty := (tyX0 15)) (D := D) (ci := 0) (C := RX0) (T := TX0) (N := 16) hx hb hts in_X0 tyX0 tyX0_ok nmX0 hown hK hP hD hS 0 rfl rfl 15 (by decide) (hts _ kl_RX0_18) (fun _ h9 => h9) rfl hin rfl (by decide +kernel) rfl rfl (Nat.le_of_ble_eq_true rfl) dX0_init_20 (fun H locs hP hD hS => ?_)
  have hP : va_P D vwCl ([(h0, .inr (0, [.ref q_1, .int 0, .int 0, .int 0, .int 0, .int 0, .int 0, .int 0, .int 0, .int 0, .int 0, .int 0, .int 0, .int 0, .int 0, .ref q_7]))] ++ ws_16) H := hP
  have hD : va_D A ([(h0, .inr (0, [.ref q_1, .int 0, .int 0, .int 0, .int 0, .int 0, .int 0, .int 0, .int 0, .int 0, .int 0, .int 0, .int 0, .int 0, .int 0, .ref q_7]))] ++ ws_16) := hD
  obtain ⟨ws_17, S_18, hT, hle_19, hk_20, hP, hD, hw_21⟩ := ty_abs (κ := .inl 0) (E1 := []) hP hD hT hph ⟨_, rfl, ty_of_all (show ty_all S_9 (ty_F 0) [.ref q_1, .int 0, .int 0, .int 0, .int 0, .int 0, .int 0, .int 0, .int 0, .int 0, .int 0, .int 0, .int 0, .int 0, .int 0, .ref q_7] from ⟨⟨_, _, rfl, hg_13⟩, ⟨⟨_, rfl⟩, ⟨⟨_, rfl⟩, ⟨⟨_, rfl⟩, ⟨⟨_, rfl⟩, ⟨⟨_, rfl⟩, ⟨⟨_, rfl⟩, ⟨⟨_, rfl⟩, ⟨⟨_, rfl⟩, ⟨⟨_, rfl⟩, ⟨⟨_, rfl⟩, ⟨⟨_, rfl⟩, ⟨⟨_, rfl⟩, ⟨⟨_, rfl⟩, ⟨⟨_, rfl⟩, ⟨⟨_, rfl, hk_11⟩, trivial⟩⟩⟩⟩⟩⟩⟩⟩⟩⟩⟩⟩⟩⟩⟩⟩)⟩
  exact W.vret hx hb hr (fun t ht hW => ⟨⟨(ws_17, S_18), rfl, ⟨hT, (fun a9 k9 h9 => hle_19 _ _ ((fun a9 k9 h9 => hle_10 _ _ ((fun a9 k9 h9 => hle_4 _ _ ((fun _ _ h9 => h9) a9 k9 h9)) a9 k9 h9)) a9 k9 h9)), hk_20⟩, by rw [ht]; exact hP, by rw [hAe]; exact hD⟩, hS.F ht⟩) hS.2.2 dX0_init_23
theorem dX4_init_0 : decode cX4_init 0 = .ok (.aload_n 0, 1) := by decide +kernel
theorem dX4_init_1 : decode cX4_init 1 = .ok (.invokespecial 3, 3) := by decide +kernel
theorem dX4_init_4 : decode cX4_init 4 = .ok (.aload_n 0, 1) := by decide +kernel
theorem dX4_init_5 : decode cX4_init 5 = .ok (.bipush 10, 2) := by decide +kernel
theorem dX4_init_7 : decode cX4_init 7 = .ok (.newarray .int, 2) := by decide +kernel
theorem dX4_init_9 : decode cX4_init 9 = .ok (.putfield 9, 3) := by decide +kernel
theorem dX4_init_12 : decode cX4_init 12 = .ok (.return_, 1) := by decide +kernel
set_option maxRecDepth 100000 in
set_option maxHeartbeats 4000000 in
theorem t_X4_init (l : Launch) (D : va_G) (ct : Nat → ClassId) (S : ty_S) (ws : va_W) (ph : va_W → Prop) (xx : Nat → Nat → Nat → Prop) (h0 : Nat) (sz : Nat) (hT : ty_V ct S ph ws) (hph : ty_C ph xx) (hy1 : ty_y1 xx) : Met l yX4_init (ws_ yX4_init cX4_init 1 none) ({ frames := 1, cells := 1, slots := 10, locals := 12 } : Room) (va_Pc [.ref h0] (cmP D ct sz ([(h0, .inr (4, [.int 0, .int 0, .int 0, .int 0, .int 0, .int 0, .null]))] ++ ws))) (va_Qv (fun (u : va_W × ty_S) => match u with | (u9, S9) => ty_V ct S9 ph u9 ∧ ty_le S S9 ∧ S9 h0 = some (.inl 4)) (cmB D ([(h0, .inr (4, [.int 0, .int 0, .int 0, .int 0, .int 0, .int 0, .null]))] ++ ws) sz (fun (u : va_W × ty_S) => match u with | (u9, S9) => ([] ++ u9))) (va_A ([(h0, .inr (4, [.int 0, .int 0, .int 0, .int 0, .int 0, .int 0, .null]))] ++ ws) sz)) 1 10 (va_A ([(h0, .inr (4, [.int 0, .int 0, .int 0, .int 0, .int 0, .int 0, .null]))] ++ ws) sz) := by
  refine Met.ofW (cc := cX4_init) (maxL := 1) (ret := none) (by decide) rfl ?_
  intro p e s m args below meth c s₁ B hml hv
  obtain ⟨rfl, hsz, hP, hK, hD0, hX⟩ := hv
  have hx := B.exec
  have hb := B.bytes
  have hr := B.returns
  have hts := ws_all (atoms_spec (ws := ws_ yX4_init cX4_init 1 none) B.pre)
  have hown : s.vm.findClass RX4 = some m.cls := findClass_of_methodNamed B.named
  have hlocks := B.notSynchronized
  have hin : meth.name = "<init>" := (name_of_methodNamed B.named B.method).1
  subst hsz
  have hD := hD0.self (sz := s.heap.size)
  generalize hAe : va_A ([(h0, .inr (4, [.int 0, .int 0, .int 0, .int 0, .int 0, .int 0, .null]))] ++ ws) s.heap.size = A at hD hX ⊢
  have hA : ∀ q : Nat, s.heap.size ≤ q → A q := fun q h => by rw [← hAe]; exact Or.inr h
  have hS : va_S A s.heap s.heap [] := va_S.rf
  have hl := lv_entry ([.ref h0]) (n := 1) (Nat.le_of_ble_eq_true rfl)
  rw [lg_entry_eq]
  generalize (lg_sl ([.ref h0]) ++ List.replicate (1 - (lg_sl ([.ref h0])).length) Slot.unset).toArray = ls at hl ⊢
  have hl : lv_has ls 1 [(0, .ref h0)] := hl
  refine lv_aload_n hx hb dX4_init_0 rfl (lv_at hl 0 rfl) ?_
  refine W.objInit hx hb hown (hts _ kl_RX4_3) (hts _ kv_java_lang_Object_init) (hts _ kc_java_lang_Object_init) rfl (by rw [hml]; exact hl.1) rfl dX4_init_1 (Nat.le_of_ble_eq_true rfl) (Nat.le_of_ble_eq_true rfl) ?_
  refine W.eq (g2 := F0 m 4 ls []) rfl ?_
  refine lv_aload_n hx hb dX4_init_4 rfl (lv_at hl 0 rfl) ?_
  refine lv_bipush (v := 10) hx hb dX4_init_5 (by decide) ?_
  refine cm_newa (atype := .int) (ty := .int) (a0 := (10, .inl (fun _ => 0))) hx hb (hts _ ka_int) rfl hK 0 rfl cm_raI hP hD hS hA (fun _ => rfl) (by decide) (by decide) (Nat.le_of_ble_eq_true rfl) (Nat.le_of_ble_eq_true rfl) (Nat.le_of_ble_eq_true rfl) dX4_init_7 (fun q_1 H hP hD hS => ?_)
  have hP : va_P D vwCl ([(h0, .inr (4, [.int 0, .int 0, .int 0, .int 0, .int 0, .int 0, .null])), (q_1, .inl (ct 0, 10, .inl (fun _ => 0)))] ++ ws) H := ty_permP hP ty_mvp
  have hD : va_D A ([(h0, .inr (4, [.int 0, .int 0, .int 0, .int 0, .int 0, .int 0, .null])), (q_1, .inl (ct 0, 10, .inl (fun _ => 0)))] ++ ws) := ty_permD hD ty_mvp
  refine W.widen (k := 1) (n := 10) (Nat.le_of_ble_eq_true rfl) (Nat.le_of_ble_eq_true rfl) ?_
  obtain ⟨ws_2, S_3, hT, hle_4, hk_5, hP, hD, hw_6⟩ := ty_abs (κ := .inr (0, 10)) (E1 := [(h0, .inr (4, [.int 0, .int 0, .int 0, .int 0, .int 0, .int 0, .null]))]) hP hD hT hph ⟨by decide, _, rfl⟩
  refine va_putF (v := .ref q_1) (ty := (tyX4 6)) (D := D) (ci := 4) (C := RX4) (T := TX4) (N := 7) hx hb hts in_X4 tyX4 tyX4_ok nmX4 hown hK hP hD hS 0 rfl rfl 6 (by decide) (hts _ kl_RX4_9) (fun _ h9 => h9) rfl hin rfl (by decide +kernel) rfl rfl (Nat.le_of_ble_eq_true rfl) dX4_init_9 (fun H locs hP hD hS => ?_)
  have hP : va_P D vwCl ([(h0, .inr (4, [.int 0, .int 0, .int 0, .int 0, .int 0, .int 0, .ref q_1]))] ++ ws_2) H := hP
  have hD : va_D A ([(h0, .inr (4, [.int 0, .int 0, .int 0, .int 0, .int 0, .int 0, .ref q_1]))] ++ ws_2) := hD
  obtain ⟨ws_7, S_8, hT, hle_9, hk_10, hP, hD, hw_11⟩ := ty_abs (κ := .inl 4) (E1 := []) hP hD hT hph ⟨_, rfl, ty_of_all (show ty_all S_3 (ty_F 4) [.int 0, .int 0, .int 0, .int 0, .int 0, .int 0, .ref q_1] from ⟨⟨_, rfl⟩, ⟨⟨_, rfl⟩, ⟨⟨_, rfl⟩, ⟨⟨_, rfl⟩, ⟨⟨_, rfl⟩, ⟨⟨_, rfl⟩, ⟨⟨_, _, rfl, hk_5⟩, trivial⟩⟩⟩⟩⟩⟩⟩)⟩
  exact W.vret hx hb hr (fun t ht hW => ⟨⟨(ws_7, S_8), rfl, ⟨hT, (fun a9 k9 h9 => hle_9 _ _ ((fun a9 k9 h9 => hle_4 _ _ ((fun _ _ h9 => h9) a9 k9 h9)) a9 k9 h9)), hk_10⟩, by rw [ht]; exact hP, by rw [hAe]; exact hD⟩, hS.F ht⟩) hS.2.2 dX4_init_12
theorem dX1_init_0 : decode cX1_init 0 = .ok (.aload_n 0, 1) := by decide +kernel
theorem dX1_init_1 : decode cX1_init 1 = .ok (.invokespecial 3, 3) := by decide +kernel
theorem dX1_init_4 : decode cX1_init 4 = .ok (.aload_n 0, 1) := by decide +kernel
theorem dX1_init_5 : decode cX1_init 5 = .ok (.iload_n 1, 1) := by decide +kernel
theorem dX1_init_6 : decode cX1_init 6 = .ok (.putfield 9, 3) := by decide +kernel
theorem dX1_init_9 : decode cX1_init 9 = .ok (.aload_n 0, 1) := by decide +kernel
theorem dX1_init_10 : decode cX1_init 10 = .ok (.new 15, 3) := by decide +kernel
theorem dX1_init_13 : decode cX1_init 13 = .ok (.dup, 1) := by decide +kernel
theorem dX1_init_14 : decode cX1_init 14 = .ok (.invokespecial 17, 3) := by decide +kernel
theorem dX1_init_17 : decode cX1_init 17 = .ok (.putfield 18, 3) := by decide +kernel
theorem dX1_init_20 : decode cX1_init 20 = .ok (.aload_n 0, 1) := by decide +kernel
theorem dX1_init_21 : decode cX1_init 21 = .ok (.new 22, 3) := by decide +kernel
theorem dX1_init_24 : decode cX1_init 24 = .ok (.dup, 1) := by decide +kernel
theorem dX1_init_25 : decode cX1_init 25 = .ok (.invokespecial 24, 3) := by decide +kernel
theorem dX1_init_28 : decode cX1_init 28 = .ok (.putfield 25, 3) := by decide +kernel
theorem dX1_init_31 : decode cX1_init 31 = .ok (.aload_n 0, 1) := by decide +kernel
theorem dX1_init_32 : decode cX1_init 32 = .ok (.bipush 12, 2) := by decide +kernel
theorem dX1_init_34 : decode cX1_init 34 = .ok (.newarray .int, 2) := by decide +kernel
theorem dX1_init_36 : decode cX1_init 36 = .ok (.putfield 29, 3) := by decide +kernel
theorem dX1_init_39 : decode cX1_init 39 = .ok (.aload_n 0, 1) := by decide +kernel
theorem dX1_init_40 : decode cX1_init 40 = .ok (.iconst 4, 1) := by decide +kernel
theorem dX1_init_41 : decode cX1_init 41 = .ok (.newarray .int, 2) := by decide +kernel
theorem dX1_init_43 : decode cX1_init 43 = .ok (.putfield 33, 3) := by decide +kernel
theorem dX1_init_46 : decode cX1_init 46 = .ok (.return_, 1) := by decide +kernel
set_option maxRecDepth 100000 in
set_option maxHeartbeats 4000000 in
theorem t_X1_init (l : Launch) (D : va_G) (ct : Nat → ClassId) (S : ty_S) (ws : va_W) (ph : va_W → Prop) (xx : Nat → Nat → Nat → Prop) (h0 : Nat) (k : Int32) (sz : Nat) (hT : ty_V ct S ph ws) (hph : ty_C ph xx) (hy1 : ty_y1 xx) : Met l yX1_init (ws_ yX1_init cX1_init 2 none) ({ frames := 3, cells := 7, slots := 64, locals := 52 } : Room) (va_Pc [.ref h0, .int k] (cmP D ct sz ([(h0, .inr (1, [.int 0, .null, .null, .int 0, .int 0, .int 0, .int 0, .null, .null, .int 0, .long 0, .long 0, .int 0, .long 0]))] ++ ws))) (va_Qv (fun (u : va_W × ty_S) => match u with | (u9, S9) => ty_V ct S9 ph u9 ∧ ty_le S S9 ∧ S9 h0 = some (.inl 1)) (cmB D ([(h0, .inr (1, [.int 0, .null, .null, .int 0, .int 0, .int 0, .int 0, .null, .null, .int 0, .long 0, .long 0, .int 0, .long 0]))] ++ ws) sz (fun (u : va_W × ty_S) => match u with | (u9, S9) => ([] ++ u9))) (va_A ([(h0, .inr (1, [.int 0, .null, .null, .int 0, .int 0, .int 0, .int 0, .null, .null, .int 0, .long 0, .long 0, .int 0, .long 0]))] ++ ws) sz)) 7 64 (va_A ([(h0, .inr (1, [.int 0, .null, .null, .int 0, .int 0, .int 0, .int 0, .null, .null, .int 0, .long 0, .long 0, .int 0, .long 0]))] ++ ws) sz) := by
  refine Met.ofW (cc := cX1_init) (maxL := 2) (ret := none) (by decide) rfl ?_
  intro p e s m args below meth c s₁ B hml hv
  obtain ⟨rfl, hsz, hP, hK, hD0, hX⟩ := hv
  have hx := B.exec
  have hb := B.bytes
  have hr := B.returns
  have hts := ws_all (atoms_spec (ws := ws_ yX1_init cX1_init 2 none) B.pre)
  have hown : s.vm.findClass RX1 = some m.cls := findClass_of_methodNamed B.named
  have hlocks := B.notSynchronized
  have hin : meth.name = "<init>" := (name_of_methodNamed B.named B.method).1
  subst hsz
  have hD := hD0.self (sz := s.heap.size)
  generalize hAe : va_A ([(h0, .inr (1, [.int 0, .null, .null, .int 0, .int 0, .int 0, .int 0, .null, .null, .int 0, .long 0, .long 0, .int 0, .long 0]))] ++ ws) s.heap.size = A at hD hX ⊢
  have hA : ∀ q : Nat, s.heap.size ≤ q → A q := fun q h => by rw [← hAe]; exact Or.inr h
  have hS : va_S A s.heap s.heap [] := va_S.rf
  have hl := lv_entry ([.ref h0, .int k]) (n := 2) (Nat.le_of_ble_eq_true rfl)
  rw [lg_entry_eq]
  generalize (lg_sl ([.ref h0, .int k]) ++ List.replicate (2 - (lg_sl ([.ref h0, .int k])).length) Slot.unset).toArray = ls at hl ⊢
  have hl : lv_has ls 2 [(0, .ref h0), (1, .int k)] := hl
  refine lv_aload_n hx hb dX1_init_0 rfl (lv_at hl 0 rfl) ?_
  refine W.objInit hx hb hown (hts _ kl_RX1_3) (hts _ kv_java_lang_Object_init) (hts _ kc_java_lang_Object_init) rfl (by rw [hml]; exact hl.1) rfl dX1_init_1 (Nat.le_of_ble_eq_true rfl) (Nat.le_of_ble_eq_true rfl) ?_
  refine W.eq (g2 := F0 m 4 ls []) rfl ?_
  refine lv_aload_n hx hb dX1_init_4 rfl (lv_at hl 0 rfl) ?_
  refine lv_iload_n hx hb dX1_init_5 rfl (lv_at hl 1 rfl) ?_
  refine va_putF (v := .int k) (ty := .int) (D := D) (ci := 1) (C := RX1) (T := TX1) (N := 14) hx hb hts in_X1 tyX1 tyX1_ok nmX1 hown hK hP hD hS 0 rfl rfl 0 (by decide) (hts _ kl_RX1_9) (fun _ h9 => h9) rfl hin rfl (by decide +kernel) rfl rfl (Nat.le_of_ble_eq_true rfl) dX1_init_6 (fun H locs hP hD hS => ?_)
  have hP : va_P D vwCl ([(h0, .inr (1, [.int k, .null, .null, .int 0, .int 0, .int 0, .int 0, .null, .null, .int 0, .long 0, .long 0, .int 0, .long 0]))] ++ ws) H := hP
  have hD : va_D A ([(h0, .inr (1, [.int k, .null, .null, .int 0, .int 0, .int 0, .int 0, .null, .null, .int 0, .long 0, .long 0, .int 0, .long 0]))] ++ ws) := hD
  refine lv_aload_n hx hb dX1_init_9 rfl (lv_at hl 0 rfl) ?_
  refine va_new (ci := 0) (fs := [.null, .int 0, .int 0, .int 0, .int 0, .int 0, .int 0, .int 0, .int 0, .int 0, .int 0, .int 0, .int 0, .int 0, .int 0, .null]) (C := RX0) (T := TX0) (N := 16) hx hb hts in_X0 tyX0 tyX0_ok hown (hts _ kl_RX1_15) (hts _ kn_RX0) (hts _ ki_RX0) hK hP hD hS hA rfl fs0_X0 (Nat.le_of_ble_eq_true rfl) (Nat.le_of_ble_eq_true rfl) dX1_init_10 (fun q_1 H hP hD hS => ?_)
  have hP : va_P D vwCl ([(h0, .inr (1, [.int k, .null, .null, .int 0, .int 0, .int 0, .int 0, .null, .null, .int 0, .long 0, .long 0, .int 0, .long 0])), (q_1, .inr (0, [.null, .int 0, .int 0, .int 0, .int 0, .int 0, .int 0, .int 0, .int 0, .int 0, .int 0, .int 0, .int 0, .int 0, .int 0, .null]))] ++ ws) H := ty_permP hP ty_mvp
  have hD : va_D A ([(h0, .inr (1, [.int k, .null, .null, .int 0, .int 0, .int 0, .int 0, .null, .null, .int 0, .long 0, .long 0, .int 0, .long 0])), (q_1, .inr (0, [.null, .int 0, .int 0, .int 0, .int 0, .int 0, .int 0, .int 0, .int 0, .int 0, .int 0, .int 0, .int 0, .int 0, .int 0, .null]))] ++ ws) := ty_permD hD ty_mvp
  refine W.widen (k := 1) (n := 16) (Nat.le_of_ble_eq_true rfl) (Nat.le_of_ble_eq_true rfl) ?_
  refine lv_dup hx hb dX1_init_13 rfl ?_
  refine ty_kv (wr := [(h0, .inr (1, [.int k, .null, .null, .int 0, .int 0, .int 0, .int 0, .null, .null, .int 0, .long 0, .long 0, .int 0, .long 0]))]) (wc := ([(q_1, .inr (0, [.null, .int 0, .int 0, .int 0, .int 0, .int 0, .int 0, .int 0, .int 0, .int 0, .int 0, .int 0, .int 0, .int 0, .int 0, .null]))] ++ ws)) (va_runIN (As := []) (rest := [.ref q_1, .ref h0]) ⟨hx, hb, hml, hown, hts⟩ (t_X0_init l D ct S ws ph xx q_1 _ hT hph hy1) (cm_IN 0 hts kc_X0_init ki_RX0 kl_RX1_17 kv_X0_init rfl kd_X0_init ⟨Nat.le_of_ble_eq_true rfl, Nat.le_of_ble_eq_true rfl⟩) (ty_preS (wr := [(h0, .inr (1, [.int k, .null, .null, .int 0, .int 0, .int 0, .int 0, .null, .null, .int 0, .long 0, .long 0, .int 0, .long 0]))]) (wc := ([(q_1, .inr (0, [.null, .int 0, .int 0, .int 0, .int 0, .int 0, .int 0, .int 0, .int 0, .int 0, .int 0, .int 0, .int 0, .int 0, .int 0, .null]))] ++ ws)) hP hK hD hS hA hX) rfl rfl hl.1 rfl (lv_room (Nat.le_of_ble_eq_true rfl)) dX1_init_14 ⟨Nat.le_of_ble_eq_true rfl, Nat.le_of_ble_eq_true rfl⟩) hP hD hS hA (fun u H locs hw_3 hP hD hS => ?_)
  obtain ⟨ws_4, S_5⟩ := u
  obtain ⟨hT, hle_6, hp_7⟩ := hw_3
  have hp_7 : S_5 q_1 = some (.inl 0) := hp_7
  have hP : va_P D vwCl ([(h0, .inr (1, [.int k, .null, .null, .int 0, .int 0, .int 0, .int 0, .null, .null, .int 0, .long 0, .long 0, .int 0, .long 0]))] ++ ws_4) H := hP
  have hD : va_D A ([(h0, .inr (1, [.int k, .null, .null, .int 0, .int 0, .int 0, .int 0, .null, .null, .int 0, .long 0, .long 0, .int 0, .long 0]))] ++ ws_4) := hD
  refine W.widen (k := 3) (n := 31) (Nat.le_of_ble_eq_true rfl) (Nat.le_of_ble_eq_true rfl) ?_
  refine va_putF (v := .ref q_1) (ty := (tyX1 1)) (D := D) (ci := 1) (C := RX1) (T := TX1) (N := 14) hx hb hts in_X1 tyX1 tyX1_ok nmX1 hown hK hP hD hS 0 rfl rfl 1 (by decide) (hts _ kl_RX1_18) (fun _ h9 => h9) rfl hin rfl (by decide +kernel) rfl rfl (Nat.le_of_ble_eq_true rfl) dX1_init_17 (fun H locs hP hD hS => ?_)
  have hP : va_P D vwCl ([(h0, .inr (1, [.int k, .ref q_1, .null, .int 0, .int 0, .int 0, .int 0, .null, .null, .int 0, .long 0, .long 0, .int 0, .long 0]))] ++ ws_4) H := hP
  have hD : va_D A ([(h0, .inr (1, [.int k, .ref q_1, .null, .int 0, .int 0, .int 0, .int 0, .null, .null, .int 0, .long 0, .long 0, .int 0, .long 0]))] ++ ws_4) := hD
  refine lv_aload_n hx hb dX1_init_20 rfl (lv_at hl 0 rfl) ?_
  refine va_new (ci := 4) (fs := [.int 0, .int 0, .int 0, .int 0, .int 0, .int 0, .null]) (C := RX4) (T := TX4) (N := 7) hx hb hts in_X4 tyX4 tyX4_ok hown (hts _ kl_RX1_22) (hts _ kn_RX4) (hts _ ki_RX4) hK hP hD hS hA rfl fs0_X4 (Nat.le_of_ble_eq_true rfl) (Nat.le_of_ble_eq_true rfl) dX1_init_21 (fun q_8 H hP hD hS => ?_)
  have hP : va_P D vwCl ([(h0, .inr (1, [.int k, .ref q_1, .null, .int 0, .int 0, .int 0, .int 0, .null, .null, .int 0, .long 0, .long 0, .int 0, .long 0])), (q_8, .inr (4, [.int 0, .int 0, .int 0, .int 0, .int 0, .int 0, .null]))] ++ ws_4) H := ty_permP hP ty_mvp
  have hD : va_D A ([(h0, .inr (1, [.int k, .ref q_1, .null, .int 0, .int 0, .int 0, .int 0, .null, .null, .int 0, .long 0, .long 0, .int 0, .long 0])), (q_8, .inr (4, [.int 0, .int 0, .int 0, .int 0, .int 0, .int 0, .null]))] ++ ws_4) := ty_permD hD ty_mvp
  refine W.widen (k := 4) (n := 38) (Nat.le_of_ble_eq_true rfl) (Nat.le_of_ble_eq_true rfl) ?_
  refine lv_dup hx hb dX1_init_24 rfl ?_
  refine ty_kv (wr := [(h0, .inr (1, [.int k, .ref q_1, .null, .int 0, .int 0, .int 0, .int 0, .null, .null, .int 0, .long 0, .long 0, .int 0, .long 0]))]) (wc := ([(q_8, .inr (4, [.int 0, .int 0, .int 0, .int 0, .int 0, .int 0, .null]))] ++ ws_4)) (va_runIN (As := []) (rest := [.ref q_8, .ref h0]) ⟨hx, hb, hml, hown, hts⟩ (t_X4_init l D ct S_5 ws_4 ph xx q_8 _ hT hph hy1) (cm_IN 0 hts kc_X4_init ki_RX4 kl_RX1_24 kv_X4_init rfl kd_X4_init ⟨Nat.le_of_ble_eq_true rfl, Nat.le_of_ble_eq_true rfl⟩) (ty_preS (wr := [(h0, .inr (1, [.int k, .ref q_1, .null, .int 0, .int 0, .int 0, .int 0, .null, .null, .int 0, .long 0, .long 0, .int 0, .long 0]))]) (wc := ([(q_8, .inr (4, [.int 0, .int 0, .int 0, .int 0, .int 0, .int 0, .null]))] ++ ws_4)) hP hK hD hS hA hX) rfl rfl hl.1 rfl (lv_room (Nat.le_of_ble_eq_true rfl)) dX1_init_25 ⟨Nat.le_of_ble_eq_true rfl, Nat.le_of_ble_eq_true rfl⟩) hP hD hS hA (fun u H locs hw_10 hP hD hS => ?_)
  obtain ⟨ws_11, S_12⟩ := u
  obtain ⟨hT, hle_13, hp_14⟩ := hw_10
  have hp_14 : S_12 q_8 = some (.inl 4) := hp_14
  have hg_15 := hle_13 _ _ hp_7
  have hP : va_P D vwCl ([(h0, .inr (1, [.int k, .ref q_1, .null, .int 0, .int 0, .int 0, .int 0, .null, .null, .int 0, .long 0, .long 0, .int 0, .long 0]))] ++ ws_11) H := hP
  have hD : va_D A ([(h0, .inr (1, [.int k, .ref q_1, .null, .int 0, .int 0, .int 0, .int 0, .null, .null, .int 0, .long 0, .long 0, .int 0, .long 0]))] ++ ws_11) := hD
  refine W.widen (k := 5) (n := 48) (Nat.le_of_ble_eq_true rfl) (Nat.le_of_ble_eq_true rfl) ?_
  refine va_putF (v := .ref q_8) (ty := (tyX1 2)) (D := D) (ci := 1) (C := RX1) (T := TX1) (N := 14) hx hb hts in_X1 tyX1 tyX1_ok nmX1 hown hK hP hD hS 0 rfl rfl 2 (by decide) (hts _ kl_RX1_25) (fun _ h9 => h9) rfl hin rfl (by decide +kernel) rfl rfl (Nat.le_of_ble_eq_true rfl) dX1_init_28 (fun H locs hP hD hS => ?_)
  have hP : va_P D vwCl ([(h0, .inr (1, [.int k, .ref q_1, .ref q_8, .int 0, .int 0, .int 0, .int 0, .null, .null, .int 0, .long 0, .long 0, .int 0, .long 0]))] ++ ws_11) H := hP
  have hD : va_D A ([(h0, .inr (1, [.int k, .ref q_1, .ref q_8, .int 0, .int 0, .int 0, .int 0, .null, .null, .int 0, .long 0, .long 0, .int 0, .long 0]))] ++ ws_11) := hD
  refine lv_aload_n hx hb dX1_init_31 rfl (lv_at hl 0 rfl) ?_
  refine lv_bipush (v := 12) hx hb dX1_init_32 (by decide) ?_
  refine cm_newa (atype := .int) (ty := .int) (a0 := (12, .inl (fun _ => 0))) hx hb (hts _ ka_int) rfl hK 0 rfl cm_raI hP hD hS hA (fun _ => rfl) (by decide) (by decide) (Nat.le_of_ble_eq_true rfl) (Nat.le_of_ble_eq_true rfl) (Nat.le_of_ble_eq_true rfl) dX1_init_34 (fun q_16 H hP hD hS => ?_)
  have hP : va_P D vwCl ([(h0, .inr (1, [.int k, .ref q_1, .ref q_8, .int 0, .int 0, .int 0, .int 0, .null, .null, .int 0, .long 0, .long 0, .int 0, .long 0])), (q_16, .inl (ct 0, 12, .inl (fun _ => 0)))] ++ ws_11) H := ty_permP hP ty_mvp
  have hD : va_D A ([(h0, .inr (1, [.int k, .ref q_1, .ref q_8, .int 0, .int 0, .int 0, .int 0, .null, .null, .int 0, .long 0, .long 0, .int 0, .long 0])), (q_16, .inl (ct 0, 12, .inl (fun _ => 0)))] ++ ws_11) := ty_permD hD ty_mvp
  refine W.widen (k := 6) (n := 60) (Nat.le_of_ble_eq_true rfl) (Nat.le_of_ble_eq_true rfl) ?_
  obtain ⟨ws_17, S_18, hT, hle_19, hk_20, hP, hD, hw_21⟩ := ty_abs (κ := .inr (0, 12)) (E1 := [(h0, .inr (1, [.int k, .ref q_1, .ref q_8, .int 0, .int 0, .int 0, .int 0, .null, .null, .int 0, .long 0, .long 0, .int 0, .long 0]))]) hP hD hT hph ⟨by decide, _, rfl⟩
  have hg_22 := hle_19 _ _ hg_15
  have hg_23 := hle_19 _ _ hp_14
  refine va_putF (v := .ref q_16) (ty := (tyX1 7)) (D := D) (ci := 1) (C := RX1) (T := TX1) (N := 14) hx hb hts in_X1 tyX1 tyX1_ok nmX1 hown hK hP hD hS 0 rfl rfl 7 (by decide) (hts _ kl_RX1_29) (fun _ h9 => h9) rfl hin rfl (by decide +kernel) rfl rfl (Nat.le_of_ble_eq_true rfl) dX1_init_36 (fun H locs hP hD hS => ?_)
  have hP : va_P D vwCl ([(h0, .inr (1, [.int k, .ref q_1, .ref q_8, .int 0, .int 0, .int 0, .int 0, .ref q_16, .null, .int 0, .long 0, .long 0, .int 0, .long 0]))] ++ ws_17) H := hP
  have hD : va_D A ([(h0, .inr (1, [.int k, .ref q_1, .ref q_8, .int 0, .int 0, .int 0, .int 0, .ref q_16, .null, .int 0, .long 0, .long 0, .int 0, .long 0]))] ++ ws_17) := hD
  refine lv_aload_n hx hb dX1_init_39 rfl (lv_at hl 0 rfl) ?_
  refine lv_iconst (v := 4) hx hb dX1_init_40 (by decide) ?_
  refine cm_newa (atype := .int) (ty := .int) (a0 := (4, .inl (fun _ => 0))) hx hb (hts _ ka_int) rfl hK 0 rfl cm_raI hP hD hS hA (fun _ => rfl) (by decide) (by decide) (Nat.le_of_ble_eq_true rfl) (Nat.le_of_ble_eq_true rfl) (Nat.le_of_ble_eq_true rfl) dX1_init_41 (fun q_24 H hP hD hS => ?_)
  have hP : va_P D vwCl ([(h0, .inr (1, [.int k, .ref q_1, .ref q_8, .int 0, .int 0, .int 0, .int 0, .ref q_16, .null, .int 0, .long 0, .long 0, .int 0, .long 0])), (q_24, .inl (ct 0, 4, .inl (fun _ => 0)))] ++ ws_17) H := ty_permP hP ty_mvp
  have hD : va_D A ([(h0, .inr (1, [.int k, .ref q_1, .ref q_8, .int 0, .int 0, .int 0, .int 0, .ref q_16, .null, .int 0, .long 0, .long 0, .int 0, .long 0])), (q_24, .inl (ct 0, 4, .inl (fun _ => 0)))] ++ ws_17) := ty_permD hD ty_mvp
  refine W.widen (k := 7) (n := 64) (Nat.le_of_ble_eq_true rfl) (Nat.le_of_ble_eq_true rfl) ?_
  obtain ⟨ws_25, S_26, hT, hle_27, hk_28, hP, hD, hw_29⟩ := ty_abs (κ := .inr (0, 4)) (E1 := [(h0, .inr (1, [.int k, .ref q_1, .ref q_8, .int 0, .int 0, .int 0, .int 0, .ref q_16, .null, .int 0, .long 0, .long 0, .int 0, .long 0]))]) hP hD hT hph ⟨by decide, _, rfl⟩
  have hg_30 := hle_27 _ _ hg_22
  have hg_31 := hle_27 _ _ hg_23
  have hg_32 := hle_27 _ _ hk_20
  refine va_putF (v := .ref q_24) (ty := (tyX1 8)) (D := D) (ci := 1) (C := RX1) (T := TX1) (N := 14) hx hb hts in_X1 tyX1 tyX1_ok nmX1 hown hK hP hD hS 0 rfl rfl 8 (by decide) (hts _ kl_RX1_33) (fun _ h9 => h9) rfl hin rfl (by decide +kernel) rfl rfl (Nat.le_of_ble_eq_true rfl) dX1_init_43 (fun H locs hP hD hS => ?_)
  have hP : va_P D vwCl ([(h0, .inr (1, [.int k, .ref q_1, .ref q_8, .int 0, .int 0, .int 0, .int 0, .ref q_16, .ref q_24, .int 0, .long 0, .long 0, .int 0, .long 0]))] ++ ws_25) H := hP
  have hD : va_D A ([(h0, .inr (1, [.int k, .ref q_1, .ref q_8, .int 0, .int 0, .int 0, .int 0, .ref q_16, .ref q_24, .int 0, .long 0, .long 0, .int 0, .long 0]))] ++ ws_25) := hD
  obtain ⟨ws_33, S_34, hT, hle_35, hk_36, hP, hD, hw_37⟩ := ty_abs (κ := .inl 1) (E1 := []) hP hD hT hph ⟨_, rfl, ty_of_all (show ty_all S_26 (ty_F 1) [.int k, .ref q_1, .ref q_8, .int 0, .int 0, .int 0, .int 0, .ref q_16, .ref q_24, .int 0, .long 0, .long 0, .int 0, .long 0] from ⟨⟨_, rfl⟩, ⟨⟨_, rfl, hg_30⟩, ⟨⟨_, rfl, hg_31⟩, ⟨⟨_, rfl⟩, ⟨⟨_, rfl⟩, ⟨⟨_, rfl⟩, ⟨⟨_, rfl⟩, ⟨⟨_, _, rfl, hg_32⟩, ⟨⟨_, _, rfl, hk_28⟩, ⟨⟨_, rfl⟩, ⟨⟨_, rfl⟩, ⟨⟨_, rfl⟩, ⟨⟨_, rfl, by decide⟩, ⟨⟨_, rfl⟩, trivial⟩⟩⟩⟩⟩⟩⟩⟩⟩⟩⟩⟩⟩⟩)⟩
  exact W.vret hx hb hr (fun t ht hW => ⟨⟨(ws_33, S_34), rfl, ⟨hT, (fun a9 k9 h9 => hle_35 _ _ ((fun a9 k9 h9 => hle_27 _ _ ((fun a9 k9 h9 => hle_19 _ _ ((fun a9 k9 h9 => hle_13 _ _ ((fun a9 k9 h9 => hle_6 _ _ ((fun _ _ h9 => h9) a9 k9 h9)) a9 k9 h9)) a9 k9 h9)) a9 k9 h9)) a9 k9 h9)), hk_36⟩, by rw [ht]; exact hP, by rw [hAe]; exact hD⟩, hS.F ht⟩) hS.2.2 dX1_init_46
theorem dX9_init_0 : decode cX9_init 0 = .ok (.aload_n 0, 1) := by decide +kernel
theorem dX9_init_1 : decode cX9_init 1 = .ok (.invokespecial 3, 3) := by decide +kernel
theorem dX9_init_4 : decode cX9_init 4 = .ok (.aload_n 0, 1) := by decide +kernel
theorem dX9_init_5 : decode cX9_init 5 = .ok (.new 9, 3) := by decide +kernel
theorem dX9_init_8 : decode cX9_init 8 = .ok (.dup, 1) := by decide +kernel
theorem dX9_init_9 : decode cX9_init 9 = .ok (.invokespecial 11, 3) := by decide +kernel
theorem dX9_init_12 : decode cX9_init 12 = .ok (.putfield 12, 3) := by decide +kernel
theorem dX9_init_15 : decode cX9_init 15 = .ok (.aload_n 0, 1) := by decide +kernel
theorem dX9_init_16 : decode cX9_init 16 = .ok (.new 18, 3) := by decide +kernel
theorem dX9_init_19 : decode cX9_init 19 = .ok (.dup, 1) := by decide +kernel
theorem dX9_init_20 : decode cX9_init 20 = .ok (.invokespecial 20, 3) := by decide +kernel
theorem dX9_init_23 : decode cX9_init 23 = .ok (.putfield 21, 3) := by decide +kernel
theorem dX9_init_26 : decode cX9_init 26 = .ok (.aload_n 0, 1) := by decide +kernel
theorem dX9_init_27 : decode cX9_init 27 = .ok (.new 25, 3) := by decide +kernel
theorem dX9_init_30 : decode cX9_init 30 = .ok (.dup, 1) := by decide +kernel
theorem dX9_init_31 : decode cX9_init 31 = .ok (.invokespecial 27, 3) := by decide +kernel
theorem dX9_init_34 : decode cX9_init 34 = .ok (.putfield 28, 3) := by decide +kernel
theorem dX9_init_37 : decode cX9_init 37 = .ok (.aload_n 0, 1) := by decide +kernel
theorem dX9_init_38 : decode cX9_init 38 = .ok (.bipush 6, 2) := by decide +kernel
theorem dX9_init_40 : decode cX9_init 40 = .ok (.anewarray 32, 3) := by decide +kernel
theorem dX9_init_43 : decode cX9_init 43 = .ok (.putfield 34, 3) := by decide +kernel
theorem dX9_init_46 : decode cX9_init 46 = .ok (.iconst 0, 1) := by decide +kernel
theorem dX9_init_47 : decode cX9_init 47 = .ok (.istore_n 1, 1) := by decide +kernel
theorem dX9_init_48 : decode cX9_init 48 = .ok (.iload_n 1, 1) := by decide +kernel
theorem dX9_init_49 : decode cX9_init 49 = .ok (.aload_n 0, 1) := by decide +kernel
theorem dX9_init_50 : decode cX9_init 50 = .ok (.getfield 34, 3) := by decide +kernel
theorem dX9_init_53 : decode cX9_init 53 = .ok (.arraylength, 1) := by decide +kernel
theorem dX9_init_54 : decode cX9_init 54 = .ok (.if_icmp .ge 23, 3) := by decide +kernel
theorem dX9_init_57 : decode cX9_init 57 = .ok (.aload_n 0, 1) := by decide +kernel
theorem dX9_init_58 : decode cX9_init 58 = .ok (.getfield 34, 3) := by decide +kernel
theorem dX9_init_61 : decode cX9_init 61 = .ok (.iload_n 1, 1) := by decide +kernel
theorem dX9_init_62 : decode cX9_init 62 = .ok (.new 32, 3) := by decide +kernel
theorem dX9_init_65 : decode cX9_init 65 = .ok (.dup, 1) := by decide +kernel
theorem dX9_init_66 : decode cX9_init 66 = .ok (.iload_n 1, 1) := by decide +kernel
theorem dX9_init_67 : decode cX9_init 67 = .ok (.invokespecial 38, 3) := by decide +kernel
theorem dX9_init_70 : decode cX9_init 70 = .ok (.aastore, 1) := by decide +kernel
theorem dX9_init_71 : decode cX9_init 71 = .ok (.iinc 1 1, 3) := by decide +kernel
theorem dX9_init_74 : decode cX9_init 74 = .ok (.goto (-26), 3) := by decide +kernel
theorem dX9_init_77 : decode cX9_init 77 = .ok (.aload_n 0, 1) := by decide +kernel
theorem dX9_init_78 : decode cX9_init 78 = .ok (.new 41, 3) := by decide +kernel
theorem dX9_init_81 : decode cX9_init 81 = .ok (.dup, 1) := by decide +kernel
theorem dX9_init_82 : decode cX9_init 82 = .ok (.bipush 30, 2) := by decide +kernel
theorem dX9_init_84 : decode cX9_init 84 = .ok (.iconst 5, 1) := by decide +kernel
theorem dX9_init_85 : decode cX9_init 85 = .ok (.invokespecial 43, 3) := by decide +kernel
theorem dX9_init_88 : decode cX9_init 88 = .ok (.putfield 46, 3) := by decide +kernel
theorem dX9_init_91 : decode cX9_init 91 = .ok (.aload_n 0, 1) := by decide +kernel
theorem dX9_init_92 : decode cX9_init 92 = .ok (.new 41, 3) := by decide +kernel
theorem dX9_init_95 : decode cX9_init 95 = .ok (.dup, 1) := by decide +kernel
theorem dX9_init_96 : decode cX9_init 96 = .ok (.bipush 60, 2) := by decide +kernel
theorem dX9_init_98 : decode cX9_init 98 = .ok (.iconst 4, 1) := by decide +kernel
theorem dX9_init_99 : decode cX9_init 99 = .ok (.invokespecial 43, 3) := by decide +kernel
theorem dX9_init_102 : decode cX9_init 102 = .ok (.putfield 50, 3) := by decide +kernel
theorem dX9_init_105 : decode cX9_init 105 = .ok (.return_, 1) := by decide +kernel
set_option maxRecDepth 100000 in
set_option maxHeartbeats 4000000 in
theorem t_X9_init (l : Launch) (D : va_G) (ct : Nat → ClassId) (S : ty_S) (ws : va_W) (ph : va_W → Prop) (xx : Nat → Nat → Nat → Prop) (h0 : Nat) (sz : Nat) (hT : ty_V ct S ph ws) (hph : ty_C ph xx) (hy1 : ty_y1 xx) (hy7 : ty_yc xx 7) : Met l yX9_init (ws_ yX9_init cX9_init 2 none) ({ frames := 4, cells := 63, slots := 1095, locals := 73 } : Room) (va_Pc [.ref h0] (cmP D ct sz ([(h0, .inr (9, [.int 0, .null, .null, .null, .int 0, .null, .null, .null]))] ++ ws))) (va_Qv (fun (u : va_W × ty_S × Nat × Nat × Nat × Nat) => match u with | (u9, S9, cu, na, pr, ch) => ty_V ct S9 ph u9 ∧ ty_le S S9 ∧ S9 h0 = some (.inl 9) ∧ (S9 cu = some (.inl 2) ∧ S9 na = some (.inr (1, 4)) ∧ S9 pr = some (.inl 5) ∧ S9 ch = some (.inr (3, 6))) ∧ rp_S0 h0 cu na pr ch u9) (cmB D ([(h0, .inr (9, [.int 0, .null, .null, .null, .int 0, .null, .null, .null]))] ++ ws) sz (fun (u : va_W × ty_S × Nat × Nat × Nat × Nat) => match u with | (u9, S9, cu, na, pr, ch) => ([] ++ u9))) (va_A ([(h0, .inr (9, [.int 0, .null, .null, .null, .int 0, .null, .null, .null]))] ++ ws) sz)) 63 1095 (va_A ([(h0, .inr (9, [.int 0, .null, .null, .null, .int 0, .null, .null, .null]))] ++ ws) sz) := by
  refine Met.ofW (cc := cX9_init) (maxL := 2) (ret := none) (by decide) rfl ?_
  intro p e s m args below meth c s₁ B hml hv
  obtain ⟨rfl, hsz, hP, hK, hD0, hX⟩ := hv
  have hx := B.exec
  have hb := B.bytes
  have hr := B.returns
  have hts := ws_all (atoms_spec (ws := ws_ yX9_init cX9_init 2 none) B.pre)
  have hown : s.vm.findClass RX9 = some m.cls := findClass_of_methodNamed B.named
  have hlocks := B.notSynchronized
  have hin : meth.name = "<init>" := (name_of_methodNamed B.named B.method).1
  subst hsz
  have hD := hD0.self (sz := s.heap.size)
  generalize hAe : va_A ([(h0, .inr (9, [.int 0, .null, .null, .null, .int 0, .null, .null, .null]))] ++ ws) s.heap.size = A at hD hX ⊢
  have hA : ∀ q : Nat, s.heap.size ≤ q → A q := fun q h => by rw [← hAe]; exact Or.inr h
  have hS : va_S A s.heap s.heap [] := va_S.rf
  have hl := lv_entry ([.ref h0]) (n := 2) (Nat.le_of_ble_eq_true rfl)
  rw [lg_entry_eq]
  generalize (lg_sl ([.ref h0]) ++ List.replicate (2 - (lg_sl ([.ref h0])).length) Slot.unset).toArray = ls at hl ⊢
  have hl : lv_has ls 2 [(0, .ref h0)] := hl
  refine lv_aload_n hx hb dX9_init_0 rfl (lv_at hl 0 rfl) ?_
  refine W.objInit hx hb hown (hts _ kl_RX9_3) (hts _ kv_java_lang_Object_init) (hts _ kc_java_lang_Object_init) rfl (by rw [hml]; exact hl.1) rfl dX9_init_1 (Nat.le_of_ble_eq_true rfl) (Nat.le_of_ble_eq_true rfl) ?_
  refine W.eq (g2 := F0 m 4 ls []) rfl ?_
  refine lv_aload_n hx hb dX9_init_4 rfl (lv_at hl 0 rfl) ?_
  refine va_new (ci := 7) (fs := [.int 0, .int 0, .int 0, .int 0, .int 0, .int 0, .int 0, .int 0, .int 0, .int 0, .int 0, .int 0]) (C := RX7) (T := TX7) (N := 12) hx hb hts in_X7 tyX7 tyX7_ok hown (hts _ kl_RX9_9) (hts _ kn_RX7) (hts _ ki_RX7) hK hP hD hS hA rfl fs0_X7 (Nat.le_of_ble_eq_true rfl) (Nat.le_of_ble_eq_true rfl) dX9_init_5 (fun q_1 H hP hD hS => ?_)
  have hP : va_P D vwCl ([(h0, .inr (9, [.int 0, .null, .null, .null, .int 0, .null, .null, .null])), (q_1, .inr (7, [.int 0, .int 0, .int 0, .int 0, .int 0, .int 0, .int 0, .int 0, .int 0, .int 0, .int 0, .int 0]))] ++ ws) H := ty_permP hP ty_mvp
  have hD : va_D A ([(h0, .inr (9, [.int 0, .null, .null, .null, .int 0, .null, .null, .null])), (q_1, .inr (7, [.int 0, .int 0, .int 0, .int 0, .int 0, .int 0, .int 0, .int 0, .int 0, .int 0, .int 0, .int 0]))] ++ ws) := ty_permD hD ty_mvp
  refine W.widen (k := 1) (n := 12) (Nat.le_of_ble_eq_true rfl) (Nat.le_of_ble_eq_true rfl) ?_
  obtain ⟨ws_2, S_3, hT, hle_4, hk_5, hP, hD, hw_6⟩ := ty_abs (κ := .inl 7) (E1 := [(h0, .inr (9, [.int 0, .null, .null, .null, .int 0, .null, .null, .null]))]) hP hD hT hph ⟨_, rfl, ty_of_all (show ty_all S (ty_F 7) [.int 0, .int 0, .int 0, .int 0, .int 0, .int 0, .int 0, .int 0, .int 0, .int 0, .int 0, .int 0] from ⟨⟨_, rfl⟩, ⟨⟨_, rfl⟩, ⟨⟨_, rfl⟩, ⟨⟨_, rfl⟩, ⟨⟨_, rfl⟩, ⟨⟨_, rfl⟩, ⟨⟨_, rfl⟩, ⟨⟨_, rfl⟩, ⟨⟨_, rfl⟩, ⟨⟨_, rfl⟩, ⟨⟨_, rfl⟩, ⟨⟨_, rfl⟩, trivial⟩⟩⟩⟩⟩⟩⟩⟩⟩⟩⟩⟩)⟩
  refine lv_dup hx hb dX9_init_8 rfl ?_
  refine ty_kv (wr := [(h0, .inr (9, [.int 0, .null, .null, .null, .int 0, .null, .null, .null]))]) (wc := ([] ++ ws_2)) (va_runIN (As := []) (rest := [.ref q_1, .ref h0]) ⟨hx, hb, hml, hown, hts⟩ (t_X7_init l D ct S_3 ws_2 ph xx q_1 _ hT hk_5 hph hy1 hy7) (cm_IN 0 hts kc_X7_init ki_RX7 kl_RX9_11 kv_X7_init rfl kd_X7_init ⟨Nat.le_of_ble_eq_true rfl, Nat.le_of_ble_eq_true rfl⟩) (ty_preS (wr := [(h0, .inr (9, [.int 0, .null, .null, .null, .int 0, .null, .null, .null]))]) (wc := ([] ++ ws_2)) hP hK hD hS hA hX) rfl rfl hl.1 rfl (lv_room (Nat.le_of_ble_eq_true rfl)) dX9_init_9 ⟨Nat.le_of_ble_eq_true rfl, Nat.le_of_ble_eq_true rfl⟩) hP hD hS hA (fun u H locs hw_8 hP hD hS => ?_)
  obtain ⟨ws_9, rfl⟩ : ∃ z, z = u := ⟨_, rfl⟩
  have hT := hw_8
  have hP : va_P D vwCl ([(h0, .inr (9, [.int 0, .null, .null, .null, .int 0, .null, .null, .null]))] ++ ws_9) H := hP
  have hD : va_D A ([(h0, .inr (9, [.int 0, .null, .null, .null, .int 0, .null, .null, .null]))] ++ ws_9) := hD
  refine va_putF (v := .ref q_1) (ty := (tyX9 1)) (D := D) (ci := 9) (C := RX9) (T := TX9) (N := 8) hx hb hts in_X9 tyX9 tyX9_ok nmX9 hown hK hP hD hS 0 rfl rfl 1 (by decide) (hts _ kl_RX9_12) (fun _ h9 => h9) rfl hin rfl (by decide +kernel) rfl rfl (Nat.le_of_ble_eq_true rfl) dX9_init_12 (fun H locs hP hD hS => ?_)
  have hP : va_P D vwCl ([(h0, .inr (9, [.int 0, .ref q_1, .null, .null, .int 0, .null, .null, .null]))] ++ ws_9) H := hP
  have hD : va_D A ([(h0, .inr (9, [.int 0, .ref q_1, .null, .null, .int 0, .null, .null, .null]))] ++ ws_9) := hD
  refine lv_aload_n hx hb dX9_init_15 rfl (lv_at hl 0 rfl) ?_
  refine va_new (ci := 2) (fs := [.int 0, .null, .null, .null]) (C := RX2) (T := TX2) (N := 4) hx hb hts in_X2 tyX2 tyX2_ok hown (hts _ kl_RX9_18) (hts _ kn_RX2) (hts _ ki_RX2) hK hP hD hS hA rfl fs0_X2 (Nat.le_of_ble_eq_true rfl) (Nat.le_of_ble_eq_true rfl) dX9_init_16 (fun q_10 H hP hD hS => ?_)
  have hP : va_P D vwCl ([(h0, .inr (9, [.int 0, .ref q_1, .null, .null, .int 0, .null, .null, .null])), (q_10, .inr (2, [.int 0, .null, .null, .null]))] ++ ws_9) H := ty_permP hP ty_mvp
  have hD : va_D A ([(h0, .inr (9, [.int 0, .ref q_1, .null, .null, .int 0, .null, .null, .null])), (q_10, .inr (2, [.int 0, .null, .null, .null]))] ++ ws_9) := ty_permD hD ty_mvp
  refine W.widen (k := 2) (n := 16) (Nat.le_of_ble_eq_true rfl) (Nat.le_of_ble_eq_true rfl) ?_
  refine lv_dup hx hb dX9_init_19 rfl ?_
  refine ty_kv (wr := [(h0, .inr (9, [.int 0, .ref q_1, .null, .null, .int 0, .null, .null, .null]))]) (wc := ([(q_10, .inr (2, [.int 0, .null, .null, .null]))] ++ ws_9)) (va_runIN (As := []) (rest := [.ref q_10, .ref h0]) ⟨hx, hb, hml, hown, hts⟩ (t_X2_init l D ct S_3 ws_9 ph xx q_10 _ hT hph hy1) (cm_IN 0 hts kc_X2_init ki_RX2 kl_RX9_20 kv_X2_init rfl kd_X2_init ⟨Nat.le_of_ble_eq_true rfl, Nat.le_of_ble_eq_true rfl⟩) (ty_preS (wr := [(h0, .inr (9, [.int 0, .ref q_1, .null, .null, .int 0, .null, .null, .null]))]) (wc := ([(q_10, .inr (2, [.int 0, .null, .null, .null]))] ++ ws_9)) hP hK hD hS hA hX) rfl rfl hl.1 rfl (lv_room (Nat.le_of_ble_eq_true rfl)) dX9_init_20 ⟨Nat.le_of_ble_eq_true rfl, Nat.le_of_ble_eq_true rfl⟩) hP hD hS hA (fun u H locs hw_12 hP hD hS => ?_)
  obtain ⟨ws_13, S_14, na_15⟩ := u
  obtain ⟨hT, hle_16, hp_17⟩ := hw_12
  have hp_17 : S_14 q_10 = some (.inl 2) ∧ S_14 na_15 = some (.inr (1, 4)) ∧ ty_fc q_10 2 1 (.ref na_15) ws_13 := hp_17
  have hg_18 := hle_16 _ _ hk_5
  have hP : va_P D vwCl ([(h0, .inr (9, [.int 0, .ref q_1, .null, .null, .int 0, .null, .null, .null]))] ++ ws_13) H := hP
  have hD : va_D A ([(h0, .inr (9, [.int 0, .ref q_1, .null, .null, .int 0, .null, .null, .null]))] ++ ws_13) := hD
  refine W.widen (k := 5) (n := 68) (Nat.le_of_ble_eq_true rfl) (Nat.le_of_ble_eq_true rfl) ?_
  have hT : ty_V ct S_14 (fun ws => ph ws ∧ (ty_fc q_10 2 1 (.ref na_15)) ws) ws_13 := ⟨hT.1, hT.2, hp_17.2.2⟩
  have hph_19 : ty_C (fun ws => ph ws ∧ (ty_fc q_10 2 1 (.ref na_15)) ws) (fun c k b => xx c k b ∧ (fun c' k' _ => ¬ (c' = 2 ∧ k' = 1)) c k b) := ty_Cand hph ty_fcC
  have hy_20 : ty_y1 (fun c k b => xx c k b ∧ (fun c' k' _ => ¬ (c' = 2 ∧ k' = 1)) c k b) := fun c k b h => ⟨hy1 c k b h, (fun c k b h q9 => (ty_frn h).2.1 q9.1) c k b h⟩
  have hy_21 : ty_yc (fun c k b => xx c k b ∧ (fun c' k' _ => ¬ (c' = 2 ∧ k' = 1)) c k b) 7 := fun k b => ⟨hy7 k b, (fun q9 => absurd q9.1 (by decide))⟩
  refine va_putF (v := .ref q_10) (ty := (tyX9 2)) (D := D) (ci := 9) (C := RX9) (T := TX9) (N := 8) hx hb hts in_X9 tyX9 tyX9_ok nmX9 hown hK hP hD hS 0 rfl rfl 2 (by decide) (hts _ kl_RX9_21) (fun _ h9 => h9) rfl hin rfl (by decide +kernel) rfl rfl (Nat.le_of_ble_eq_true rfl) dX9_init_23 (fun H locs hP hD hS => ?_)
  have hP : va_P D vwCl ([(h0, .inr (9, [.int 0, .ref q_1, .ref q_10, .null, .int 0, .null, .null, .null]))] ++ ws_13) H := hP
  have hD : va_D A ([(h0, .inr (9, [.int 0, .ref q_1, .ref q_10, .null, .int 0, .null, .null, .null]))] ++ ws_13) := hD
  refine lv_aload_n hx hb dX9_init_26 rfl (lv_at hl 0 rfl) ?_
  refine va_new (ci := 5) (fs := [.int 0, .null, .null, .null, .null]) (C := RX5) (T := TX5) (N := 5) hx hb hts in_X5 tyX5 tyX5_ok hown (hts _ kl_RX9_25) (hts _ kn_RX5) (hts _ ki_RX5) hK hP hD hS hA rfl fs0_X5 (Nat.le_of_ble_eq_true rfl) (Nat.le_of_ble_eq_true rfl) dX9_init_27 (fun q_22 H hP hD hS => ?_)
  have hP : va_P D vwCl ([(h0, .inr (9, [.int 0, .ref q_1, .ref q_10, .null, .int 0, .null, .null, .null])), (q_22, .inr (5, [.int 0, .null, .null, .null, .null]))] ++ ws_13) H := ty_permP hP ty_mvp
  have hD : va_D A ([(h0, .inr (9, [.int 0, .ref q_1, .ref q_10, .null, .int 0, .null, .null, .null])), (q_22, .inr (5, [.int 0, .null, .null, .null, .null]))] ++ ws_13) := ty_permD hD ty_mvp
  refine W.widen (k := 6) (n := 73) (Nat.le_of_ble_eq_true rfl) (Nat.le_of_ble_eq_true rfl) ?_
  refine lv_dup hx hb dX9_init_30 rfl ?_
  refine ty_kv (wr := [(h0, .inr (9, [.int 0, .ref q_1, .ref q_10, .null, .int 0, .null, .null, .null]))]) (wc := ([(q_22, .inr (5, [.int 0, .null, .null, .null, .null]))] ++ ws_13)) (va_runIN (As := []) (rest := [.ref q_22, .ref h0]) ⟨hx, hb, hml, hown, hts⟩ (t_X5_init l D ct S_14 ws_13 (fun ws => ph ws ∧ (ty_fc q_10 2 1 (.ref na_15)) ws) (fun c k b => xx c k b ∧ (fun c' k' _ => ¬ (c' = 2 ∧ k' = 1)) c k b) q_22 _ hT hph_19 hy_20) (cm_IN 0 hts kc_X5_init ki_RX5 kl_RX9_27 kv_X5_init rfl kd_X5_init ⟨Nat.le_of_ble_eq_true rfl, Nat.le_of_ble_eq_true rfl⟩) (ty_preS (wr := [(h0, .inr (9, [.int 0, .ref q_1, .ref q_10, .null, .int 0, .null, .null, .null]))]) (wc := ([(q_22, .inr (5, [.int 0, .null, .null, .null, .null]))] ++ ws_13)) hP hK hD hS hA hX) rfl rfl hl.1 rfl (lv_room (Nat.le_of_ble_eq_true rfl)) dX9_init_31 ⟨Nat.le_of_ble_eq_true rfl, Nat.le_of_ble_eq_true rfl⟩) hP hD hS hA (fun u H locs hw_24 hP hD hS => ?_)
  obtain ⟨ws_25, S_26⟩ := u
  obtain ⟨hT, hle_27, hp_28⟩ := hw_24
  have hp_28 : S_26 q_22 = some (.inl 5) := hp_28
  have hg_29 := hle_27 _ _ hg_18
  have hg_30 := hle_27 _ _ hp_17.1
  have hg_31 := hle_27 _ _ hp_17.2.1
  have hP : va_P D vwCl ([(h0, .inr (9, [.int 0, .ref q_1, .ref q_10, .null, .int 0, .null, .null, .null]))] ++ ws_25) H := hP
  have hD : va_D A ([(h0, .inr (9, [.int 0, .ref q_1, .ref q_10, .null, .int 0, .null, .null, .null]))] ++ ws_25) := hD
  refine W.widen (k := 10) (n := 221) (Nat.le_of_ble_eq_true rfl) (Nat.le_of_ble_eq_true rfl) ?_
  refine va_putF (v := .ref q_22) (ty := (tyX9 3)) (D := D) (ci := 9) (C := RX9) (T := TX9) (N := 8) hx hb hts in_X9 tyX9 tyX9_ok nmX9 hown hK hP hD hS 0 rfl rfl 3 (by decide) (hts _ kl_RX9_28) (fun _ h9 => h9) rfl hin rfl (by decide +kernel) rfl rfl (Nat.le_of_ble_eq_true rfl) dX9_init_34 (fun H locs hP hD hS => ?_)
  have hP : va_P D vwCl ([(h0, .inr (9, [.int 0, .ref q_1, .ref q_10, .ref q_22, .int 0, .null, .null, .null]))] ++ ws_25) H := hP
  have hD : va_D A ([(h0, .inr (9, [.int 0, .ref q_1, .ref q_10, .ref q_22, .int 0, .null, .null, .null]))] ++ ws_25) := hD
  refine lv_aload_n hx hb dX9_init_37 rfl (lv_at hl 0 rfl) ?_
  refine lv_bipush (v := 6) hx hb dX9_init_38 (by decide) ?_
  refine cm_newq (C := "CellCycler$Channel") (N' := 6) hx hb hown (hts _ kl_RX9_32) (va_AO.of (hts _ kao_RX1)) hK 3 rfl hP hD hS hA (by decide) (by decide) (Nat.le_of_ble_eq_true rfl) (Nat.le_of_ble_eq_true rfl) (Nat.le_of_ble_eq_true rfl) dX9_init_40 (fun q_32 H hP hD hS => ?_)
  have hP : va_P D vwCl ([(h0, .inr (9, [.int 0, .ref q_1, .ref q_10, .ref q_22, .int 0, .null, .null, .null])), (q_32, .inl (ct 3, 6, .inr (.inr (.inr (.inr (fun _ => none))))))] ++ ws_25) H := ty_permP hP ty_mvp
  have hD : va_D A ([(h0, .inr (9, [.int 0, .ref q_1, .ref q_10, .ref q_22, .int 0, .null, .null, .null])), (q_32, .inl (ct 3, 6, .inr (.inr (.inr (.inr (fun _ => none))))))] ++ ws_25) := ty_permD hD ty_mvp
  refine W.widen (k := 11) (n := 227) (Nat.le_of_ble_eq_true rfl) (Nat.le_of_ble_eq_true rfl) ?_
  refine va_putF (v := .ref q_32) (ty := (tyX9 5)) (D := D) (ci := 9) (C := RX9) (T := TX9) (N := 8) hx hb hts in_X9 tyX9 tyX9_ok nmX9 hown hK hP hD hS 0 rfl rfl 5 (by decide) (hts _ kl_RX9_34) (fun _ h9 => h9) rfl hin rfl (by decide +kernel) rfl rfl (Nat.le_of_ble_eq_true rfl) dX9_init_43 (fun H locs hP hD hS => ?_)
  have hP : va_P D vwCl ([(h0, .inr (9, [.int 0, .ref q_1, .ref q_10, .ref q_22, .int 0, .ref q_32, .null, .null])), (q_32, .inl (ct 3, 6, .inr (.inr (.inr (.inr (fun _ => none))))))] ++ ws_25) H := hP
  have hD : va_D A ([(h0, .inr (9, [.int 0, .ref q_1, .ref q_10, .ref q_22, .int 0, .ref q_32, .null, .null])), (q_32, .inl (ct 3, 6, .inr (.inr (.inr (.inr (fun _ => none))))))] ++ ws_25) := hD
  refine lv_iconst (v := 0) hx hb dX9_init_46 (by decide) ?_
  refine lv_istore_n (lv' := [(1, .int 0), (0, .ref h0)]) hx hb dX9_init_47 rfl hl (by decide) rfl (fun ls hl => ?_)
  refine lv_iload_n hx hb dX9_init_48 rfl (lv_at hl 0 rfl) ?_
  refine lv_aload_n hx hb dX9_init_49 rfl (lv_at hl 1 rfl) ?_
  refine va_get (v := .ref q_32) (D := D) (ci := 9) (C := RX9) (T := TX9) (N := 8) hx hb hts in_X9 hown hK hP 0 rfl rfl 5 (by decide) (hts _ kl_RX9_34) (fun _ h9 => h9) rfl dX9_init_50 ?_
  refine va_alen hx hb hK hP 1 3 rfl rfl (v := 6) (show Int32.ofNat 6 = (6 : Int32) from by decide) dX9_init_53 ?_
  refine lv_icmp_ge (tgt := 77) hx hb dX9_init_54 (by decide) (fun hc => absurd hc (by decide)) (fun _ => ?_)
  refine lv_aload_n hx hb dX9_init_57 rfl (lv_at hl 1 rfl) ?_
  refine va_get (v := .ref q_32) (D := D) (ci := 9) (C := RX9) (T := TX9) (N := 8) hx hb hts in_X9 hown hK hP 0 rfl rfl 5 (by decide) (hts _ kl_RX9_34) (fun _ h9 => h9) rfl dX9_init_58 ?_
  refine lv_iload_n hx hb dX9_init_61 rfl (lv_at hl 0 rfl) ?_
  refine va_new (ci := 1) (fs := [.int 0, .null, .null, .int 0, .int 0, .int 0, .int 0, .null, .null, .int 0, .long 0, .long 0, .int 0, .long 0]) (C := RX1) (T := TX1) (N := 14) hx hb hts in_X1 tyX1 tyX1_ok hown (hts _ kl_RX9_32) (hts _ kn_RX1) (hts _ ki_RX1) hK hP hD hS hA rfl fs0_X1 (Nat.le_of_ble_eq_true rfl) (Nat.le_of_ble_eq_true rfl) dX9_init_62 (fun q_33 H hP hD hS => ?_)
  have hP : va_P D vwCl ([(h0, .inr (9, [.int 0, .ref q_1, .ref q_10, .ref q_22, .int 0, .ref q_32, .null, .null])), (q_32, .inl (ct 3, 6, .inr (.inr (.inr (.inr (fun _ => none)))))), (q_33, .inr (1, [.int 0, .null, .null, .int 0, .int 0, .int 0, .int 0, .null, .null, .int 0, .long 0, .long 0, .int 0, .long 0]))] ++ ws_25) H := ty_permP hP ty_mvp
  have hD : va_D A ([(h0, .inr (9, [.int 0, .ref q_1, .ref q_10, .ref q_22, .int 0, .ref q_32, .null, .null])), (q_32, .inl (ct 3, 6, .inr (.inr (.inr (.inr (fun _ => none)))))), (q_33, .inr (1, [.int 0, .null, .null, .int 0, .int 0, .int 0, .int 0, .null, .null, .int 0, .long 0, .long 0, .int 0, .long 0]))] ++ ws_25) := ty_permD hD ty_mvp
  refine W.widen (k := 12) (n := 241) (Nat.le_of_ble_eq_true rfl) (Nat.le_of_ble_eq_true rfl) ?_
  refine lv_dup hx hb dX9_init_65 rfl ?_
  refine lv_iload_n hx hb dX9_init_66 rfl (lv_at hl 0 rfl) ?_
  refine ty_kv (wr := [(h0, .inr (9, [.int 0, .ref q_1, .ref q_10, .ref q_22, .int 0, .ref q_32, .null, .null])), (q_32, .inl (ct 3, 6, .inr (.inr (.inr (.inr (fun _ => none))))))]) (wc := ([(q_33, .inr (1, [.int 0, .null, .null, .int 0, .int 0, .int 0, .int 0, .null, .null, .int 0, .long 0, .long 0, .int 0, .long 0]))] ++ ws_25)) (va_runIN (As := [.int 0]) (rest := [.ref q_33, .int 0, .ref q_32]) ⟨hx, hb, hml, hown, hts⟩ (t_X1_init l D ct S_26 ws_25 (fun ws => ph ws ∧ (ty_fc q_10 2 1 (.ref na_15)) ws) (fun c k b => xx c k b ∧ (fun c' k' _ => ¬ (c' = 2 ∧ k' = 1)) c k b) q_33 (0 : Int32) _ hT hph_19 hy_20) (cm_IN 1 hts kc_X1_init ki_RX1 kl_RX9_38 kv_X1_init rfl kd_X1_init ⟨Nat.le_of_ble_eq_true rfl, Nat.le_of_ble_eq_true rfl⟩) (ty_preS (wr := [(h0, .inr (9, [.int 0, .ref q_1, .ref q_10, .ref q_22, .int 0, .ref q_32, .null, .null])), (q_32, .inl (ct 3, 6, .inr (.inr (.inr (.inr (fun _ => none))))))]) (wc := ([(q_33, .inr (1, [.int 0, .null, .null, .int 0, .int 0, .int 0, .int 0, .null, .null, .int 0, .long 0, .long 0, .int 0, .long 0]))] ++ ws_25)) hP hK hD hS hA hX) rfl rfl hl.1 rfl (lv_room (Nat.le_of_ble_eq_true rfl)) dX9_init_67 ⟨Nat.le_of_ble_eq_true rfl, Nat.le_of_ble_eq_true rfl⟩) hP hD hS hA (fun u H locs hw_35 hP hD hS => ?_)
  obtain ⟨ws_36, S_37⟩ := u
  obtain ⟨hT, hle_38, hp_39⟩ := hw_35
  have hp_39 : S_37 q_33 = some (.inl 1) := hp_39
  have hg_40 := hle_38 _ _ hg_29
  have hg_41 := hle_38 _ _ hg_30
  have hg_42 := hle_38 _ _ hg_31
  have hg_43 := hle_38 _ _ hp_28
  have hP : va_P D vwCl ([(h0, .inr (9, [.int 0, .ref q_1, .ref q_10, .ref q_22, .int 0, .ref q_32, .null, .null])), (q_32, .inl (ct 3, 6, .inr (.inr (.inr (.inr (fun _ => none))))))] ++ ws_36) H := hP
  have hD : va_D A ([(h0, .inr (9, [.int 0, .ref q_1, .ref q_10, .ref q_22, .int 0, .ref q_32, .null, .null])), (q_32, .inl (ct 3, 6, .inr (.inr (.inr (.inr (fun _ => none))))))] ++ ws_36) := hD
  refine W.widen (k := 19) (n := 305) (Nat.le_of_ble_eq_true rfl) (Nat.le_of_ble_eq_true rfl) ?_
  refine ty_astx (E := [(h0, .inr (9, [.int 0, .ref q_1, .ref q_10, .ref q_22, .int 0, .ref q_32, .null, .null])), (q_32, .inl (ct 3, 6, .inr (.inr (.inr (.inr (fun _ => none))))))]) (ws := ws_36) hx hb hK hP hD hS hT (b := q_32) hp_39 1 rfl (cm_vin (by decide)) dX9_init_70 (fun H locs hP hD hS => ?_)
  have hP : va_P D vwCl ([(h0, .inr (9, [.int 0, .ref q_1, .ref q_10, .ref q_22, .int 0, .ref q_32, .null, .null])), (q_32, .inl (ct 3, 6, .inr (.inr (.inr (.inr (va_up (fun _ => none) (0 : Int32).toNatClampNeg (some q_33)))))))] ++ ws_36) H := hP
  have hD : va_D A ([(h0, .inr (9, [.int 0, .ref q_1, .ref q_10, .ref q_22, .int 0, .ref q_32, .null, .null])), (q_32, .inl (ct 3, 6, .inr (.inr (.inr (.inr (va_up (fun _ => none) (0 : Int32).toNatClampNeg (some q_33)))))))] ++ ws_36) := hD
  refine lv_iinc (v := 1) (lv' := [(1, .int 1), (0, .ref h0)]) hx hb dX9_init_71 hl (k := 0) rfl (by decide) (by decide) rfl (fun ls hl => ?_)
  refine lv_goto (tgt := 48) hx hb dX9_init_74 (by decide) ?_
  refine lv_iload_n hx hb dX9_init_48 rfl (lv_at hl 0 rfl) ?_
  refine lv_aload_n hx hb dX9_init_49 rfl (lv_at hl 1 rfl) ?_
  refine va_get (v := .ref q_32) (D := D) (ci := 9) (C := RX9) (T := TX9) (N := 8) hx hb hts in_X9 hown hK hP 0 rfl rfl 5 (by decide) (hts _ kl_RX9_34) (fun _ h9 => h9) rfl dX9_init_50 ?_
  refine va_alen hx hb hK hP 1 3 rfl rfl (v := 6) (show Int32.ofNat 6 = (6 : Int32) from by decide) dX9_init_53 ?_
  refine lv_icmp_ge (tgt := 77) hx hb dX9_init_54 (by decide) (fun hc => absurd hc (by decide)) (fun _ => ?_)
  refine lv_aload_n hx hb dX9_init_57 rfl (lv_at hl 1 rfl) ?_
  refine va_get (v := .ref q_32) (D := D) (ci := 9) (C := RX9) (T := TX9) (N := 8) hx hb hts in_X9 hown hK hP 0 rfl rfl 5 (by decide) (hts _ kl_RX9_34) (fun _ h9 => h9) rfl dX9_init_58 ?_
  refine lv_iload_n hx hb dX9_init_61 rfl (lv_at hl 0 rfl) ?_
  refine va_new (ci := 1) (fs := [.int 0, .null, .null, .int 0, .int 0, .int 0, .int 0, .null, .null, .int 0, .long 0, .long 0, .int 0, .long 0]) (C := RX1) (T := TX1) (N := 14) hx hb hts in_X1 tyX1 tyX1_ok hown (hts _ kl_RX9_32) (hts _ kn_RX1) (hts _ ki_RX1) hK hP hD hS hA rfl fs0_X1 (Nat.le_of_ble_eq_true rfl) (Nat.le_of_ble_eq_true rfl) dX9_init_62 (fun q_44 H hP hD hS => ?_)
  have hP : va_P D vwCl ([(h0, .inr (9, [.int 0, .ref q_1, .ref q_10, .ref q_22, .int 0, .ref q_32, .null, .null])), (q_32, .inl (ct 3, 6, .inr (.inr (.inr (.inr (va_up (fun _ => none) (0 : Int32).toNatClampNeg (some q_33))))))), (q_44, .inr (1, [.int 0, .null, .null, .int 0, .int 0, .int 0, .int 0, .null, .null, .int 0, .long 0, .long 0, .int 0, .long 0]))] ++ ws_36) H := ty_permP hP ty_mvp
  have hD : va_D A ([(h0, .inr (9, [.int 0, .ref q_1, .ref q_10, .ref q_22, .int 0, .ref q_32, .null, .null])), (q_32, .inl (ct 3, 6, .inr (.inr (.inr (.inr (va_up (fun _ => none) (0 : Int32).toNatClampNeg (some q_33))))))), (q_44, .inr (1, [.int 0, .null, .null, .int 0, .int 0, .int 0, .int 0, .null, .null, .int 0, .long 0, .long 0, .int 0, .long 0]))] ++ ws_36) := ty_permD hD ty_mvp
  refine W.widen (k := 20) (n := 319) (Nat.le_of_ble_eq_true rfl) (Nat.le_of_ble_eq_true rfl) ?_
  refine lv_dup hx hb dX9_init_65 rfl ?_
  refine lv_iload_n hx hb dX9_init_66 rfl (lv_at hl 0 rfl) ?_
  refine ty_kv (wr := [(h0, .inr (9, [.int 0, .ref q_1, .ref q_10, .ref q_22, .int 0, .ref q_32, .null, .null])), (q_32, .inl (ct 3, 6, .inr (.inr (.inr (.inr (va_up (fun _ => none) (0 : Int32).toNatClampNeg (some q_33)))))))]) (wc := ([(q_44, .inr (1, [.int 0, .null, .null, .int 0, .int 0, .int 0, .int 0, .null, .null, .int 0, .long 0, .long 0, .int 0, .long 0]))] ++ ws_36)) (va_runIN (As := [.int 1]) (rest := [.ref q_44, .int 1, .ref q_32]) ⟨hx, hb, hml, hown, hts⟩ (t_X1_init l D ct S_37 ws_36 (fun ws => ph ws ∧ (ty_fc q_10 2 1 (.ref na_15)) ws) (fun c k b => xx c k b ∧ (fun c' k' _ => ¬ (c' = 2 ∧ k' = 1)) c k b) q_44 (1 : Int32) _ hT hph_19 hy_20) (cm_IN 1 hts kc_X1_init ki_RX1 kl_RX9_38 kv_X1_init rfl kd_X1_init ⟨Nat.le_of_ble_eq_true rfl, Nat.le_of_ble_eq_true rfl⟩) (ty_preS (wr := [(h0, .inr (9, [.int 0, .ref q_1, .ref q_10, .ref q_22, .int 0, .ref q_32, .null, .null])), (q_32, .inl (ct 3, 6, .inr (.inr (.inr (.inr (va_up (fun _ => none) (0 : Int32).toNatClampNeg (some q_33)))))))]) (wc := ([(q_44, .inr (1, [.int 0, .null, .null, .int 0, .int 0, .int 0, .int 0, .null, .null, .int 0, .long 0, .long 0, .int 0, .long 0]))] ++ ws_36)) hP hK hD hS hA hX) rfl rfl hl.1 rfl (lv_room (Nat.le_of_ble_eq_true rfl)) dX9_init_67 ⟨Nat.le_of_ble_eq_true rfl, Nat.le_of_ble_eq_true rfl⟩) hP hD hS hA (fun u H locs hw_46 hP hD hS => ?_)
  obtain ⟨ws_47, S_48⟩ := u
  obtain ⟨hT, hle_49, hp_50⟩ := hw_46
  have hp_50 : S_48 q_44 = some (.inl 1) := hp_50
  have hg_51 := hle_49 _ _ hg_40
  have hg_52 := hle_49 _ _ hg_41
  have hg_53 := hle_49 _ _ hg_42
  have hg_54 := hle_49 _ _ hg_43
  have hg_55 := hle_49 _ _ hp_39
  have hP : va_P D vwCl ([(h0, .inr (9, [.int 0, .ref q_1, .ref q_10, .ref q_22, .int 0, .ref q_32, .null, .null])), (q_32, .inl (ct 3, 6, .inr (.inr (.inr (.inr (va_up (fun _ => none) (0 : Int32).toNatClampNeg (some q_33)))))))] ++ ws_47) H := hP
  have hD : va_D A ([(h0, .inr (9, [.int 0, .ref q_1, .ref q_10, .ref q_22, .int 0, .ref q_32, .null, .null])), (q_32, .inl (ct 3, 6, .inr (.inr (.inr (.inr (va_up (fun _ => none) (0 : Int32).toNatClampNeg (some q_33)))))))] ++ ws_47) := hD
  refine W.widen (k := 27) (n := 383) (Nat.le_of_ble_eq_true rfl) (Nat.le_of_ble_eq_true rfl) ?_
  refine ty_astx (E := [(h0, .inr (9, [.int 0, .ref q_1, .ref q_10, .ref q_22, .int 0, .ref q_32, .null, .null])), (q_32, .inl (ct 3, 6, .inr (.inr (.inr (.inr (va_up (fun _ => none) (0 : Int32).toNatClampNeg (some q_33)))))))]) (ws := ws_47) hx hb hK hP hD hS hT (b := q_32) hp_50 1 rfl (cm_vin (by decide)) dX9_init_70 (fun H locs hP hD hS => ?_)
  have hP : va_P D vwCl ([(h0, .inr (9, [.int 0, .ref q_1, .ref q_10, .ref q_22, .int 0, .ref q_32, .null, .null])), (q_32, .inl (ct 3, 6, .inr (.inr (.inr (.inr (va_up (va_up (fun _ => none) (0 : Int32).toNatClampNeg (some q_33)) (1 : Int32).toNatClampNeg (some q_44)))))))] ++ ws_47) H := hP
  have hD : va_D A ([(h0, .inr (9, [.int 0, .ref q_1, .ref q_10, .ref q_22, .int 0, .ref q_32, .null, .null])), (q_32, .inl (ct 3, 6, .inr (.inr (.inr (.inr (va_up (va_up (fun _ => none) (0 : Int32).toNatClampNeg (some q_33)) (1 : Int32).toNatClampNeg (some q_44)))))))] ++ ws_47) := hD
  refine lv_iinc (v := 2) (lv' := [(1, .int 2), (0, .ref h0)]) hx hb dX9_init_71 hl (k := 0) rfl (by decide) (by decide) rfl (fun ls hl => ?_)
  refine lv_goto (tgt := 48) hx hb dX9_init_74 (by decide) ?_
  refine lv_iload_n hx hb dX9_init_48 rfl (lv_at hl 0 rfl) ?_
  refine lv_aload_n hx hb dX9_init_49 rfl (lv_at hl 1 rfl) ?_
  refine va_get (v := .ref q_32) (D := D) (ci := 9) (C := RX9) (T := TX9) (N := 8) hx hb hts in_X9 hown hK hP 0 rfl rfl 5 (by decide) (hts _ kl_RX9_34) (fun _ h9 => h9) rfl dX9_init_50 ?_
  refine va_alen hx hb hK hP 1 3 rfl rfl (v := 6) (show Int32.ofNat 6 = (6 : Int32) from by decide) dX9_init_53 ?_
  refine lv_icmp_ge (tgt := 77) hx hb dX9_init_54 (by decide) (fun hc => absurd hc (by decide)) (fun _ => ?_)
  refine lv_aload_n hx hb dX9_init_57 rfl (lv_at hl 1 rfl) ?_
  refine va_get (v := .ref q_32) (D := D) (ci := 9) (C := RX9) (T := TX9) (N := 8) hx hb hts in_X9 hown hK hP 0 rfl rfl 5 (by decide) (hts _ kl_RX9_34) (fun _ h9 => h9) rfl dX9_init_58 ?_
  refine lv_iload_n hx hb dX9_init_61 rfl (lv_at hl 0 rfl) ?_
  refine va_new (ci := 1) (fs := [.int 0, .null, .null, .int 0, .int 0, .int 0, .int 0, .null, .null, .int 0, .long 0, .long 0, .int 0, .long 0]) (C := RX1) (T := TX1) (N := 14) hx hb hts in_X1 tyX1 tyX1_ok hown (hts _ kl_RX9_32) (hts _ kn_RX1) (hts _ ki_RX1) hK hP hD hS hA rfl fs0_X1 (Nat.le_of_ble_eq_true rfl) (Nat.le_of_ble_eq_true rfl) dX9_init_62 (fun q_56 H hP hD hS => ?_)
  have hP : va_P D vwCl ([(h0, .inr (9, [.int 0, .ref q_1, .ref q_10, .ref q_22, .int 0, .ref q_32, .null, .null])), (q_32, .inl (ct 3, 6, .inr (.inr (.inr (.inr (va_up (va_up (fun _ => none) (0 : Int32).toNatClampNeg (some q_33)) (1 : Int32).toNatClampNeg (some q_44))))))), (q_56, .inr (1, [.int 0, .null, .null, .int 0, .int 0, .int 0, .int 0, .null, .null, .int 0, .long 0, .long 0, .int 0, .long 0]))] ++ ws_47) H := ty_permP hP ty_mvp
  have hD : va_D A ([(h0, .inr (9, [.int 0, .ref q_1, .ref q_10, .ref q_22, .int 0, .ref q_32, .null, .null])), (q_32, .inl (ct 3, 6, .inr (.inr (.inr (.inr (va_up (va_up (fun _ => none) (0 : Int32).toNatClampNeg (some q_33)) (1 : Int32).toNatClampNeg (some q_44))))))), (q_56, .inr (1, [.int 0, .null, .null, .int 0, .int 0, .int 0, .int 0, .null, .null, .int 0, .long 0, .long 0, .int 0, .long 0]))] ++ ws_47) := ty_permD hD ty_mvp
  refine W.widen (k := 28) (n := 397) (Nat.le_of_ble_eq_true rfl) (Nat.le_of_ble_eq_true rfl) ?_
  refine lv_dup hx hb dX9_init_65 rfl ?_
  refine lv_iload_n hx hb dX9_init_66 rfl (lv_at hl 0 rfl) ?_
  refine ty_kv (wr := [(h0, .inr (9, [.int 0, .ref q_1, .ref q_10, .ref q_22, .int 0, .ref q_32, .null, .null])), (q_32, .inl (ct 3, 6, .inr (.inr (.inr (.inr (va_up (va_up (fun _ => none) (0 : Int32).toNatClampNeg (some q_33)) (1 : Int32).toNatClampNeg (some q_44)))))))]) (wc := ([(q_56, .inr (1, [.int 0, .null, .null, .int 0, .int 0, .int 0, .int 0, .null, .null, .int 0, .long 0, .long 0, .int 0, .long 0]))] ++ ws_47)) (va_runIN (As := [.int 2]) (rest := [.ref q_56, .int 2, .ref q_32]) ⟨hx, hb, hml, hown, hts⟩ (t_X1_init l D ct S_48 ws_47 (fun ws => ph ws ∧ (ty_fc q_10 2 1 (.ref na_15)) ws) (fun c k b => xx c k b ∧ (fun c' k' _ => ¬ (c' = 2 ∧ k' = 1)) c k b) q_56 (2 : Int32) _ hT hph_19 hy_20) (cm_IN 1 hts kc_X1_init ki_RX1 kl_RX9_38 kv_X1_init rfl kd_X1_init ⟨Nat.le_of_ble_eq_true rfl, Nat.le_of_ble_eq_true rfl⟩) (ty_preS (wr := [(h0, .inr (9, [.int 0, .ref q_1, .ref q_10, .ref q_22, .int 0, .ref q_32, .null, .null])), (q_32, .inl (ct 3, 6, .inr (.inr (.inr (.inr (va_up (va_up (fun _ => none) (0 : Int32).toNatClampNeg (some q_33)) (1 : Int32).toNatClampNeg (some q_44)))))))]) (wc := ([(q_56, .inr (1, [.int 0, .null, .null, .int 0, .int 0, .int 0, .int 0, .null, .null, .int 0, .long 0, .long 0, .int 0, .long 0]))] ++ ws_47)) hP hK hD hS hA hX) rfl rfl hl.1 rfl (lv_room (Nat.le_of_ble_eq_true rfl)) dX9_init_67 ⟨Nat.le_of_ble_eq_true rfl, Nat.le_of_ble_eq_true rfl⟩) hP hD hS hA (fun u H locs hw_58 hP hD hS => ?_)
  obtain ⟨ws_59, S_60⟩ := u
  obtain ⟨hT, hle_61, hp_62⟩ := hw_58
  have hp_62 : S_60 q_56 = some (.inl 1) := hp_62
  have hg_63 := hle_61 _ _ hg_51
  have hg_64 := hle_61 _ _ hg_52
  have hg_65 := hle_61 _ _ hg_53
  have hg_66 := hle_61 _ _ hg_54
  have hg_67 := hle_61 _ _ hg_55
  have hg_68 := hle_61 _ _ hp_50
  have hP : va_P D vwCl ([(h0, .inr (9, [.int 0, .ref q_1, .ref q_10, .ref q_22, .int 0, .ref q_32, .null, .null])), (q_32, .inl (ct 3, 6, .inr (.inr (.inr (.inr (va_up (va_up (fun _ => none) (0 : Int32).toNatClampNeg (some q_33)) (1 : Int32).toNatClampNeg (some q_44)))))))] ++ ws_59) H := hP
  have hD : va_D A ([(h0, .inr (9, [.int 0, .ref q_1, .ref q_10, .ref q_22, .int 0, .ref q_32, .null, .null])), (q_32, .inl (ct 3, 6, .inr (.inr (.inr (.inr (va_up (va_up (fun _ => none) (0 : Int32).toNatClampNeg (some q_33)) (1 : Int32).toNatClampNeg (some q_44)))))))] ++ ws_59) := hD
  refine W.widen (k := 35) (n := 461) (Nat.le_of_ble_eq_true rfl) (Nat.le_of_ble_eq_true rfl) ?_
  refine ty_astx (E := [(h0, .inr (9, [.int 0, .ref q_1, .ref q_10, .ref q_22, .int 0, .ref q_32, .null, .null])), (q_32, .inl (ct 3, 6, .inr (.inr (.inr (.inr (va_up (va_up (fun _ => none) (0 : Int32).toNatClampNeg (some q_33)) (1 : Int32).toNatClampNeg (some q_44)))))))]) (ws := ws_59) hx hb hK hP hD hS hT (b := q_32) hp_62 1 rfl (cm_vin (by decide)) dX9_init_70 (fun H locs hP hD hS => ?_)
  have hP : va_P D vwCl ([(h0, .inr (9, [.int 0, .ref q_1, .ref q_10, .ref q_22, .int 0, .ref q_32, .null, .null])), (q_32, .inl (ct 3, 6, .inr (.inr (.inr (.inr (va_up (va_up (va_up (fun _ => none) (0 : Int32).toNatClampNeg (some q_33)) (1 : Int32).toNatClampNeg (some q_44)) (2 : Int32).toNatClampNeg (some q_56)))))))] ++ ws_59) H := hP
  have hD : va_D A ([(h0, .inr (9, [.int 0, .ref q_1, .ref q_10, .ref q_22, .int 0, .ref q_32, .null, .null])), (q_32, .inl (ct 3, 6, .inr (.inr (.inr (.inr (va_up (va_up (va_up (fun _ => none) (0 : Int32).toNatClampNeg (some q_33)) (1 : Int32).toNatClampNeg (some q_44)) (2 : Int32).toNatClampNeg (some q_56)))))))] ++ ws_59) := hD
  refine lv_iinc (v := 3) (lv' := [(1, .int 3), (0, .ref h0)]) hx hb dX9_init_71 hl (k := 0) rfl (by decide) (by decide) rfl (fun ls hl => ?_)
  refine lv_goto (tgt := 48) hx hb dX9_init_74 (by decide) ?_
  refine lv_iload_n hx hb dX9_init_48 rfl (lv_at hl 0 rfl) ?_
  refine lv_aload_n hx hb dX9_init_49 rfl (lv_at hl 1 rfl) ?_
  refine va_get (v := .ref q_32) (D := D) (ci := 9) (C := RX9) (T := TX9) (N := 8) hx hb hts in_X9 hown hK hP 0 rfl rfl 5 (by decide) (hts _ kl_RX9_34) (fun _ h9 => h9) rfl dX9_init_50 ?_
  refine va_alen hx hb hK hP 1 3 rfl rfl (v := 6) (show Int32.ofNat 6 = (6 : Int32) from by decide) dX9_init_53 ?_
  refine lv_icmp_ge (tgt := 77) hx hb dX9_init_54 (by decide) (fun hc => absurd hc (by decide)) (fun _ => ?_)
  refine lv_aload_n hx hb dX9_init_57 rfl (lv_at hl 1 rfl) ?_
  refine va_get (v := .ref q_32) (D := D) (ci := 9) (C := RX9) (T := TX9) (N := 8) hx hb hts in_X9 hown hK hP 0 rfl rfl 5 (by decide) (hts _ kl_RX9_34) (fun _ h9 => h9) rfl dX9_init_58 ?_
  refine lv_iload_n hx hb dX9_init_61 rfl (lv_at hl 0 rfl) ?_
  refine va_new (ci := 1) (fs := [.int 0, .null, .null, .int 0, .int 0, .int 0, .int 0, .null, .null, .int 0, .long 0, .long 0, .int 0, .long 0]) (C := RX1) (T := TX1) (N := 14) hx hb hts in_X1 tyX1 tyX1_ok hown (hts _ kl_RX9_32) (hts _ kn_RX1) (hts _ ki_RX1) hK hP hD hS hA rfl fs0_X1 (Nat.le_of_ble_eq_true rfl) (Nat.le_of_ble_eq_true rfl) dX9_init_62 (fun q_69 H hP hD hS => ?_)
  have hP : va_P D vwCl ([(h0, .inr (9, [.int 0, .ref q_1, .ref q_10, .ref q_22, .int 0, .ref q_32, .null, .null])), (q_32, .inl (ct 3, 6, .inr (.inr (.inr (.inr (va_up (va_up (va_up (fun _ => none) (0 : Int32).toNatClampNeg (some q_33)) (1 : Int32).toNatClampNeg (some q_44)) (2 : Int32).toNatClampNeg (some q_56))))))), (q_69, .inr (1, [.int 0, .null, .null, .int 0, .int 0, .int 0, .int 0, .null, .null, .int 0, .long 0, .long 0, .int 0, .long 0]))] ++ ws_59) H := ty_permP hP ty_mvp
  have hD : va_D A ([(h0, .inr (9, [.int 0, .ref q_1, .ref q_10, .ref q_22, .int 0, .ref q_32, .null, .null])), (q_32, .inl (ct 3, 6, .inr (.inr (.inr (.inr (va_up (va_up (va_up (fun _ => none) (0 : Int32).toNatClampNeg (some q_33)) (1 : Int32).toNatClampNeg (some q_44)) (2 : Int32).toNatClampNeg (some q_56))))))), (q_69, .inr (1, [.int 0, .null, .null, .int 0, .int 0, .int 0, .int 0, .null, .null, .int 0, .long 0, .long 0, .int 0, .long 0]))] ++ ws_59) := ty_permD hD ty_mvp
  refine W.widen (k := 36) (n := 475) (Nat.le_of_ble_eq_true rfl) (Nat.le_of_ble_eq_true rfl) ?_
  refine lv_dup hx hb dX9_init_65 rfl ?_
  refine lv_iload_n hx hb dX9_init_66 rfl (lv_at hl 0 rfl) ?_
  refine ty_kv (wr := [(h0, .inr (9, [.int 0, .ref q_1, .ref q_10, .ref q_22, .int 0, .ref q_32, .null, .null])), (q_32, .inl (ct 3, 6, .inr (.inr (.inr (.inr (va_up (va_up (va_up (fun _ => none) (0 : Int32).toNatClampNeg (some q_33)) (1 : Int32).toNatClampNeg (some q_44)) (2 : Int32).toNatClampNeg (some q_56)))))))]) (wc := ([(q_69, .inr (1, [.int 0, .null, .null, .int 0, .int 0, .int 0, .int 0, .null, .null, .int 0, .long 0, .long 0, .int 0, .long 0]))] ++ ws_59)) (va_runIN (As := [.int 3]) (rest := [.ref q_69, .int 3, .ref q_32]) ⟨hx, hb, hml, hown, hts⟩ (t_X1_init l D ct S_60 ws_59 (fun ws => ph ws ∧ (ty_fc q_10 2 1 (.ref na_15)) ws) (fun c k b => xx c k b ∧ (fun c' k' _ => ¬ (c' = 2 ∧ k' = 1)) c k b) q_69 (3 : Int32) _ hT hph_19 hy_20) (cm_IN 1 hts kc_X1_init ki_RX1 kl_RX9_38 kv_X1_init rfl kd_X1_init ⟨Nat.le_of_ble_eq_true rfl, Nat.le_of_ble_eq_true rfl⟩) (ty_preS (wr := [(h0, .inr (9, [.int 0, .ref q_1, .ref q_10, .ref q_22, .int 0, .ref q_32, .null, .null])), (q_32, .inl (ct 3, 6, .inr (.inr (.inr (.inr (va_up (va_up (va_up (fun _ => none) (0 : Int32).toNatClampNeg (some q_33)) (1 : Int32).toNatClampNeg (some q_44)) (2 : Int32).toNatClampNeg (some q_56)))))))]) (wc := ([(q_69, .inr (1, [.int 0, .null, .null, .int 0, .int 0, .int 0, .int 0, .null, .null, .int 0, .long 0, .long 0, .int 0, .long 0]))] ++ ws_59)) hP hK hD hS hA hX) rfl rfl hl.1 rfl (lv_room (Nat.le_of_ble_eq_true rfl)) dX9_init_67 ⟨Nat.le_of_ble_eq_true rfl, Nat.le_of_ble_eq_true rfl⟩) hP hD hS hA (fun u H locs hw_71 hP hD hS => ?_)
  obtain ⟨ws_72, S_73⟩ := u
  obtain ⟨hT, hle_74, hp_75⟩ := hw_71
  have hp_75 : S_73 q_69 = some (.inl 1) := hp_75
  have hg_76 := hle_74 _ _ hg_63
  have hg_77 := hle_74 _ _ hg_64
  have hg_78 := hle_74 _ _ hg_65
  have hg_79 := hle_74 _ _ hg_66
  have hg_80 := hle_74 _ _ hg_67
  have hg_81 := hle_74 _ _ hg_68
  have hg_82 := hle_74 _ _ hp_62
  have hP : va_P D vwCl ([(h0, .inr (9, [.int 0, .ref q_1, .ref q_10, .ref q_22, .int 0, .ref q_32, .null, .null])), (q_32, .inl (ct 3, 6, .inr (.inr (.inr (.inr (va_up (va_up (va_up (fun _ => none) (0 : Int32).toNatClampNeg (some q_33)) (1 : Int32).toNatClampNeg (some q_44)) (2 : Int32).toNatClampNeg (some q_56)))))))] ++ ws_72) H := hP
  have hD : va_D A ([(h0, .inr (9, [.int 0, .ref q_1, .ref q_10, .ref q_22, .int 0, .ref q_32, .null, .null])), (q_32, .inl (ct 3, 6, .inr (.inr (.inr (.inr (va_up (va_up (va_up (fun _ => none) (0 : Int32).toNatClampNeg (some q_33)) (1 : Int32).toNatClampNeg (some q_44)) (2 : Int32).toNatClampNeg (some q_56)))))))] ++ ws_72) := hD
  refine W.widen (k := 43) (n := 539) (Nat.le_of_ble_eq_true rfl) (Nat.le_of_ble_eq_true rfl) ?_
  refine ty_astx (E := [(h0, .inr (9, [.int 0, .ref q_1, .ref q_10, .ref q_22, .int 0, .ref q_32, .null, .null])), (q_32, .inl (ct 3, 6, .inr (.inr (.inr (.inr (va_up (va_up (va_up (fun _ => none) (0 : Int32).toNatClampNeg (some q_33)) (1 : Int32).toNatClampNeg (some q_44)) (2 : Int32).toNatClampNeg (some q_56)))))))]) (ws := ws_72) hx hb hK hP hD hS hT (b := q_32) hp_75 1 rfl (cm_vin (by decide)) dX9_init_70 (fun H locs hP hD hS => ?_)
  have hP : va_P D vwCl ([(h0, .inr (9, [.int 0, .ref q_1, .ref q_10, .ref q_22, .int 0, .ref q_32, .null, .null])), (q_32, .inl (ct 3, 6, .inr (.inr (.inr (.inr (va_up (va_up (va_up (va_up (fun _ => none) (0 : Int32).toNatClampNeg (some q_33)) (1 : Int32).toNatClampNeg (some q_44)) (2 : Int32).toNatClampNeg (some q_56)) (3 : Int32).toNatClampNeg (some q_69)))))))] ++ ws_72) H := hP
  have hD : va_D A ([(h0, .inr (9, [.int 0, .ref q_1, .ref q_10, .ref q_22, .int 0, .ref q_32, .null, .null])), (q_32, .inl (ct 3, 6, .inr (.inr (.inr (.inr (va_up (va_up (va_up (va_up (fun _ => none) (0 : Int32).toNatClampNeg (some q_33)) (1 : Int32).toNatClampNeg (some q_44)) (2 : Int32).toNatClampNeg (some q_56)) (3 : Int32).toNatClampNeg (some q_69)))))))] ++ ws_72) := hD
  refine lv_iinc (v := 4) (lv' := [(1, .int 4), (0, .ref h0)]) hx hb dX9_init_71 hl (k := 0) rfl (by decide) (by decide) rfl (fun ls hl => ?_)
  refine lv_goto (tgt := 48) hx hb dX9_init_74 (by decide) ?_
  refine lv_iload_n hx hb dX9_init_48 rfl (lv_at hl 0 rfl) ?_
  refine lv_aload_n hx hb dX9_init_49 rfl (lv_at hl 1 rfl) ?_
  refine va_get (v := .ref q_32) (D := D) (ci := 9) (C := RX9) (T := TX9) (N := 8) hx hb hts in_X9 hown hK hP 0 rfl rfl 5 (by decide) (hts _ kl_RX9_34) (fun _ h9 => h9) rfl dX9_init_50 ?_
  refine va_alen hx hb hK hP 1 3 rfl rfl (v := 6) (show Int32.ofNat 6 = (6 : Int32) from by decide) dX9_init_53 ?_
  refine lv_icmp_ge (tgt := 77) hx hb dX9_init_54 (by decide) (fun hc => absurd hc (by decide)) (fun _ => ?_)
  refine lv_aload_n hx hb dX9_init_57 rfl (lv_at hl 1 rfl) ?_
  refine va_get (v := .ref q_32) (D := D) (ci := 9) (C := RX9) (T := TX9) (N := 8) hx hb hts in_X9 hown hK hP 0 rfl rfl 5 (by decide) (hts _ kl_RX9_34) (fun _ h9 => h9) rfl dX9_init_58 ?_
  refine lv_iload_n hx hb dX9_init_61 rfl (lv_at hl 0 rfl) ?_
  refine va_new (ci := 1) (fs := [.int 0, .null, .null, .int 0, .int 0, .int 0, .int 0, .null, .null, .int 0, .long 0, .long 0, .int 0, .long 0]) (C := RX1) (T := TX1) (N := 14) hx hb hts in_X1 tyX1 tyX1_ok hown (hts _ kl_RX9_32) (hts _ kn_RX1) (hts _ ki_RX1) hK hP hD hS hA rfl fs0_X1 (Nat.le_of_ble_eq_true rfl) (Nat.le_of_ble_eq_true rfl) dX9_init_62 (fun q_83 H hP hD hS => ?_)
  have hP : va_P D vwCl ([(h0, .inr (9, [.int 0, .ref q_1, .ref q_10, .ref q_22, .int 0, .ref q_32, .null, .null])), (q_32, .inl (ct 3, 6, .inr (.inr (.inr (.inr (va_up (va_up (va_up (va_up (fun _ => none) (0 : Int32).toNatClampNeg (some q_33)) (1 : Int32).toNatClampNeg (some q_44)) (2 : Int32).toNatClampNeg (some q_56)) (3 : Int32).toNatClampNeg (some q_69))))))), (q_83, .inr (1, [.int 0, .null, .null, .int 0, .int 0, .int 0, .int 0, .null, .null, .int 0, .long 0, .long 0, .int 0, .long 0]))] ++ ws_72) H := ty_permP hP ty_mvp
  have hD : va_D A ([(h0, .inr (9, [.int 0, .ref q_1, .ref q_10, .ref q_22, .int 0, .ref q_32, .null, .null])), (q_32, .inl (ct 3, 6, .inr (.inr (.inr (.inr (va_up (va_up (va_up (va_up (fun _ => none) (0 : Int32).toNatClampNeg (some q_33)) (1 : Int32).toNatClampNeg (some q_44)) (2 : Int32).toNatClampNeg (some q_56)) (3 : Int32).toNatClampNeg (some q_69))))))), (q_83, .inr (1, [.int 0, .null, .null, .int 0, .int 0, .int 0, .int 0, .null, .null, .int 0, .long 0, .long 0, .int 0, .long 0]))] ++ ws_72) := ty_permD hD ty_mvp
  refine W.widen (k := 44) (n := 553) (Nat.le_of_ble_eq_true rfl) (Nat.le_of_ble_eq_true rfl) ?_
  refine lv_dup hx hb dX9_init_65 rfl ?_
  refine lv_iload_n hx hb dX9_init_66 rfl (lv_at hl 0 rfl) ?_
  refine ty_kv (wr := [(h0, .inr (9, [.int 0, .ref q_1, .ref q_10, .ref q_22, .int 0, .ref q_32, .null, .null])), (q_32, .inl (ct 3, 6, .inr (.inr (.inr (.inr (va_up (va_up (va_up (va_up (fun _ => none) (0 : Int32).toNatClampNeg (some q_33)) (1 : Int32).toNatClampNeg (some q_44)) (2 : Int32).toNatClampNeg (some q_56)) (3 : Int32).toNatClampNeg (some q_69)))))))]) (wc := ([(q_83, .inr (1, [.int 0, .null, .null, .int 0, .int 0, .int 0, .int 0, .null, .null, .int 0, .long 0, .long 0, .int 0, .long 0]))] ++ ws_72)) (va_runIN (As := [.int 4]) (rest := [.ref q_83, .int 4, .ref q_32]) ⟨hx, hb, hml, hown, hts⟩ (t_X1_init l D ct S_73 ws_72 (fun ws => ph ws ∧ (ty_fc q_10 2 1 (.ref na_15)) ws) (fun c k b => xx c k b ∧ (fun c' k' _ => ¬ (c' = 2 ∧ k' = 1)) c k b) q_83 (4 : Int32) _ hT hph_19 hy_20) (cm_IN 1 hts kc_X1_init ki_RX1 kl_RX9_38 kv_X1_init rfl kd_X1_init ⟨Nat.le_of_ble_eq_true rfl, Nat.le_of_ble_eq_true rfl⟩) (ty_preS (wr := [(h0, .inr (9, [.int 0, .ref q_1, .ref q_10, .ref q_22, .int 0, .ref q_32, .null, .null])), (q_32, .inl (ct 3, 6, .inr (.inr (.inr (.inr (va_up (va_up (va_up (va_up (fun _ => none) (0 : Int32).toNatClampNeg (some q_33)) (1 : Int32).toNatClampNeg (some q_44)) (2 : Int32).toNatClampNeg (some q_56)) (3 : Int32).toNatClampNeg (some q_69)))))))]) (wc := ([(q_83, .inr (1, [.int 0, .null, .null, .int 0, .int 0, .int 0, .int 0, .null, .null, .int 0, .long 0, .long 0, .int 0, .long 0]))] ++ ws_72)) hP hK hD hS hA hX) rfl rfl hl.1 rfl (lv_room (Nat.le_of_ble_eq_true rfl)) dX9_init_67 ⟨Nat.le_of_ble_eq_true rfl, Nat.le_of_ble_eq_true rfl⟩) hP hD hS hA (fun u H locs hw_85 hP hD hS => ?_)
  obtain ⟨ws_86, S_87⟩ := u
  obtain ⟨hT, hle_88, hp_89⟩ := hw_85
  have hp_89 : S_87 q_83 = some (.inl 1) := hp_89
  have hg_90 := hle_88 _ _ hg_76
  have hg_91 := hle_88 _ _ hg_77
  have hg_92 := hle_88 _ _ hg_78
  have hg_93 := hle_88 _ _ hg_79
  have hg_94 := hle_88 _ _ hg_80
  have hg_95 := hle_88 _ _ hg_81
  have hg_96 := hle_88 _ _ hg_82
  have hg_97 := hle_88 _ _ hp_75
  have hP : va_P D vwCl ([(h0, .inr (9, [.int 0, .ref q_1, .ref q_10, .ref q_22, .int 0, .ref q_32, .null, .null])), (q_32, .inl (ct 3, 6, .inr (.inr (.inr (.inr (va_up (va_up (va_up (va_up (fun _ => none) (0 : Int32).toNatClampNeg (some q_33)) (1 : Int32).toNatClampNeg (some q_44)) (2 : Int32).toNatClampNeg (some q_56)) (3 : Int32).toNatClampNeg (some q_69)))))))] ++ ws_86) H := hP
  have hD : va_D A ([(h0, .inr (9, [.int 0, .ref q_1, .ref q_10, .ref q_22, .int 0, .ref q_32, .null, .null])), (q_32, .inl (ct 3, 6, .inr (.inr (.inr (.inr (va_up (va_up (va_up (va_up (fun _ => none) (0 : Int32).toNatClampNeg (some q_33)) (1 : Int32).toNatClampNeg (some q_44)) (2 : Int32).toNatClampNeg (some q_56)) (3 : Int32).toNatClampNeg (some q_69)))))))] ++ ws_86) := hD
  refine W.widen (k := 51) (n := 617) (Nat.le_of_ble_eq_true rfl) (Nat.le_of_ble_eq_true rfl) ?_
  refine ty_astx (E := [(h0, .inr (9, [.int 0, .ref q_1, .ref q_10, .ref q_22, .int 0, .ref q_32, .null, .null])), (q_32, .inl (ct 3, 6, .inr (.inr (.inr (.inr (va_up (va_up (va_up (va_up (fun _ => none) (0 : Int32).toNatClampNeg (some q_33)) (1 : Int32).toNatClampNeg (some q_44)) (2 : Int32).toNatClampNeg (some q_56)) (3 : Int32).toNatClampNeg (some q_69)))))))]) (ws := ws_86) hx hb hK hP hD hS hT (b := q_32) hp_89 1 rfl (cm_vin (by decide)) dX9_init_70 (fun H locs hP hD hS => ?_)
  have hP : va_P D vwCl ([(h0, .inr (9, [.int 0, .ref q_1, .ref q_10, .ref q_22, .int 0, .ref q_32, .null, .null])), (q_32, .inl (ct 3, 6, .inr (.inr (.inr (.inr (va_up (va_up (va_up (va_up (va_up (fun _ => none) (0 : Int32).toNatClampNeg (some q_33)) (1 : Int32).toNatClampNeg (some q_44)) (2 : Int32).toNatClampNeg (some q_56)) (3 : Int32).toNatClampNeg (some q_69)) (4 : Int32).toNatClampNeg (some q_83)))))))] ++ ws_86) H := hP
  have hD : va_D A ([(h0, .inr (9, [.int 0, .ref q_1, .ref q_10, .ref q_22, .int 0, .ref q_32, .null, .null])), (q_32, .inl (ct 3, 6, .inr (.inr (.inr (.inr (va_up (va_up (va_up (va_up (va_up (fun _ => none) (0 : Int32).toNatClampNeg (some q_33)) (1 : Int32).toNatClampNeg (some q_44)) (2 : Int32).toNatClampNeg (some q_56)) (3 : Int32).toNatClampNeg (some q_69)) (4 : Int32).toNatClampNeg (some q_83)))))))] ++ ws_86) := hD
  refine lv_iinc (v := 5) (lv' := [(1, .int 5), (0, .ref h0)]) hx hb dX9_init_71 hl (k := 0) rfl (by decide) (by decide) rfl (fun ls hl => ?_)
  refine lv_goto (tgt := 48) hx hb dX9_init_74 (by decide) ?_
  refine lv_iload_n hx hb dX9_init_48 rfl (lv_at hl 0 rfl) ?_
  refine lv_aload_n hx hb dX9_init_49 rfl (lv_at hl 1 rfl) ?_
  refine va_get (v := .ref q_32) (D := D) (ci := 9) (C := RX9) (T := TX9) (N := 8) hx hb hts in_X9 hown hK hP 0 rfl rfl 5 (by decide) (hts _ kl_RX9_34) (fun _ h9 => h9) rfl dX9_init_50 ?_
  refine va_alen hx hb hK hP 1 3 rfl rfl (v := 6) (show Int32.ofNat 6 = (6 : Int32) from by decide) dX9_init_53 ?_
  refine lv_icmp_ge (tgt := 77) hx hb dX9_init_54 (by decide) (fun hc => absurd hc (by decide)) (fun _ => ?_)
  refine lv_aload_n hx hb dX9_init_57 rfl (lv_at hl 1 rfl) ?_
  refine va_get (v := .ref q_32) (D := D) (ci := 9) (C := RX9) (T := TX9) (N := 8) hx hb hts in_X9 hown hK hP 0 rfl rfl 5 (by decide) (hts _ kl_RX9_34) (fun _ h9 => h9) rfl dX9_init_58 ?_
  refine lv_iload_n hx hb dX9_init_61 rfl (lv_at hl 0 rfl) ?_
  refine va_new (ci := 1) (fs := [.int 0, .null, .null, .int 0, .int 0, .int 0, .int 0, .null, .null, .int 0, .long 0, .long 0, .int 0, .long 0]) (C := RX1) (T := TX1) (N := 14) hx hb hts in_X1 tyX1 tyX1_ok hown (hts _ kl_RX9_32) (hts _ kn_RX1) (hts _ ki_RX1) hK hP hD hS hA rfl fs0_X1 (Nat.le_of_ble_eq_true rfl) (Nat.le_of_ble_eq_true rfl) dX9_init_62 (fun q_98 H hP hD hS => ?_)
  have hP : va_P D vwCl ([(h0, .inr (9, [.int 0, .ref q_1, .ref q_10, .ref q_22, .int 0, .ref q_32, .null, .null])), (q_32, .inl (ct 3, 6, .inr (.inr (.inr (.inr (va_up (va_up (va_up (va_up (va_up (fun _ => none) (0 : Int32).toNatClampNeg (some q_33)) (1 : Int32).toNatClampNeg (some q_44)) (2 : Int32).toNatClampNeg (some q_56)) (3 : Int32).toNatClampNeg (some q_69)) (4 : Int32).toNatClampNeg (some q_83))))))), (q_98, .inr (1, [.int 0, .null, .null, .int 0, .int 0, .int 0, .int 0, .null, .null, .int 0, .long 0, .long 0, .int 0, .long 0]))] ++ ws_86) H := ty_permP hP ty_mvp
  have hD : va_D A ([(h0, .inr (9, [.int 0, .ref q_1, .ref q_10, .ref q_22, .int 0, .ref q_32, .null, .null])), (q_32, .inl (ct 3, 6, .inr (.inr (.inr (.inr (va_up (va_up (va_up (va_up (va_up (fun _ => none) (0 : Int32).toNatClampNeg (some q_33)) (1 : Int32).toNatClampNeg (some q_44)) (2 : Int32).toNatClampNeg (some q_56)) (3 : Int32).toNatClampNeg (some q_69)) (4 : Int32).toNatClampNeg (some q_83))))))), (q_98, .inr (1, [.int 0, .null, .null, .int 0, .int 0, .int 0, .int 0, .null, .null, .int 0, .long 0, .long 0, .int 0, .long 0]))] ++ ws_86) := ty_permD hD ty_mvp
  refine W.widen (k := 52) (n := 631) (Nat.le_of_ble_eq_true rfl) (Nat.le_of_ble_eq_true rfl) ?_
  refine lv_dup hx hb dX9_init_65 rfl ?_
  refine lv_iload_n hx hb dX9_init_66 rfl (lv_at hl 0 rfl) ?_
  refine ty_kv (wr := [(h0, .inr (9, [.int 0, .ref q_1, .ref q_10, .ref q_22, .int 0, .ref q_32, .null, .null])), (q_32, .inl (ct 3, 6, .inr (.inr (.inr (.inr (va_up (va_up (va_up (va_up (va_up (fun _ => none) (0 : Int32).toNatClampNeg (some q_33)) (1 : Int32).toNatClampNeg (some q_44)) (2 : Int32).toNatClampNeg (some q_56)) (3 : Int32).toNatClampNeg (some q_69)) (4 : Int32).toNatClampNeg (some q_83)))))))]) (wc := ([(q_98, .inr (1, [.int 0, .null, .null, .int 0, .int 0, .int 0, .int 0, .null, .null, .int 0, .long 0, .long 0, .int 0, .long 0]))] ++ ws_86)) (va_runIN (As := [.int 5]) (rest := [.ref q_98, .int 5, .ref q_32]) ⟨hx, hb, hml, hown, hts⟩ (t_X1_init l D ct S_87 ws_86 (fun ws => ph ws ∧ (ty_fc q_10 2 1 (.ref na_15)) ws) (fun c k b => xx c k b ∧ (fun c' k' _ => ¬ (c' = 2 ∧ k' = 1)) c k b) q_98 (5 : Int32) _ hT hph_19 hy_20) (cm_IN 1 hts kc_X1_init ki_RX1 kl_RX9_38 kv_X1_init rfl kd_X1_init ⟨Nat.le_of_ble_eq_true rfl, Nat.le_of_ble_eq_true rfl⟩) (ty_preS (wr := [(h0, .inr (9, [.int 0, .ref q_1, .ref q_10, .ref q_22, .int 0, .ref q_32, .null, .null])), (q_32, .inl (ct 3, 6, .inr (.inr (.inr (.inr (va_up (va_up (va_up (va_up (va_up (fun _ => none) (0 : Int32).toNatClampNeg (some q_33)) (1 : Int32).toNatClampNeg (some q_44)) (2 : Int32).toNatClampNeg (some q_56)) (3 : Int32).toNatClampNeg (some q_69)) (4 : Int32).toNatClampNeg (some q_83)))))))]) (wc := ([(q_98, .inr (1, [.int 0, .null, .null, .int 0, .int 0, .int 0, .int 0, .null, .null, .int 0, .long 0, .long 0, .int 0, .long 0]))] ++ ws_86)) hP hK hD hS hA hX) rfl rfl hl.1 rfl (lv_room (Nat.le_of_ble_eq_true rfl)) dX9_init_67 ⟨Nat.le_of_ble_eq_true rfl, Nat.le_of_ble_eq_true rfl⟩) hP hD hS hA (fun u H locs hw_100 hP hD hS => ?_)
  obtain ⟨ws_101, S_102⟩ := u
  obtain ⟨hT, hle_103, hp_104⟩ := hw_100
  have hp_104 : S_102 q_98 = some (.inl 1) := hp_104
  have hg_105 := hle_103 _ _ hg_90
  have hg_106 := hle_103 _ _ hg_91
  have hg_107 := hle_103 _ _ hg_92
  have hg_108 := hle_103 _ _ hg_93
  have hg_109 := hle_103 _ _ hg_94
  have hg_110 := hle_103 _ _ hg_95
  have hg_111 := hle_103 _ _ hg_96
  have hg_112 := hle_103 _ _ hg_97
  have hg_113 := hle_103 _ _ hp_89
  have hP : va_P D vwCl ([(h0, .inr (9, [.int 0, .ref q_1, .ref q_10, .ref q_22, .int 0, .ref q_32, .null, .null])), (q_32, .inl (ct 3, 6, .inr (.inr (.inr (.inr (va_up (va_up (va_up (va_up (va_up (fun _ => none) (0 : Int32).toNatClampNeg (some q_33)) (1 : Int32).toNatClampNeg (some q_44)) (2 : Int32).toNatClampNeg (some q_56)) (3 : Int32).toNatClampNeg (some q_69)) (4 : Int32).toNatClampNeg (some q_83)))))))] ++ ws_101) H := hP
  have hD : va_D A ([(h0, .inr (9, [.int 0, .ref q_1, .ref q_10, .ref q_22, .int 0, .ref q_32, .null, .null])), (q_32, .inl (ct 3, 6, .inr (.inr (.inr (.inr (va_up (va_up (va_up (va_up (va_up (fun _ => none) (0 : Int32).toNatClampNeg (some q_33)) (1 : Int32).toNatClampNeg (some q_44)) (2 : Int32).toNatClampNeg (some q_56)) (3 : Int32).toNatClampNeg (some q_69)) (4 : Int32).toNatClampNeg (some q_83)))))))] ++ ws_101) := hD
  refine W.widen (k := 59) (n := 695) (Nat.le_of_ble_eq_true rfl) (Nat.le_of_ble_eq_true rfl) ?_
  refine ty_astx (E := [(h0, .inr (9, [.int 0, .ref q_1, .ref q_10, .ref q_22, .int 0, .ref q_32, .null, .null])), (q_32, .inl (ct 3, 6, .inr (.inr (.inr (.inr (va_up (va_up (va_up (va_up (va_up (fun _ => none) (0 : Int32).toNatClampNeg (some q_33)) (1 : Int32).toNatClampNeg (some q_44)) (2 : Int32).toNatClampNeg (some q_56)) (3 : Int32).toNatClampNeg (some q_69)) (4 : Int32).toNatClampNeg (some q_83)))))))]) (ws := ws_101) hx hb hK hP hD hS hT (b := q_32) hp_104 1 rfl (cm_vin (by decide)) dX9_init_70 (fun H locs hP hD hS => ?_)
  have hP : va_P D vwCl ([(h0, .inr (9, [.int 0, .ref q_1, .ref q_10, .ref q_22, .int 0, .ref q_32, .null, .null])), (q_32, .inl (ct 3, 6, .inr (.inr (.inr (.inr (va_up (va_up (va_up (va_up (va_up (va_up (fun _ => none) (0 : Int32).toNatClampNeg (some q_33)) (1 : Int32).toNatClampNeg (some q_44)) (2 : Int32).toNatClampNeg (some q_56)) (3 : Int32).toNatClampNeg (some q_69)) (4 : Int32).toNatClampNeg (some q_83)) (5 : Int32).toNatClampNeg (some q_98)))))))] ++ ws_101) H := hP
  have hD : va_D A ([(h0, .inr (9, [.int 0, .ref q_1, .ref q_10, .ref q_22, .int 0, .ref q_32, .null, .null])), (q_32, .inl (ct 3, 6, .inr (.inr (.inr (.inr (va_up (va_up (va_up (va_up (va_up (va_up (fun _ => none) (0 : Int32).toNatClampNeg (some q_33)) (1 : Int32).toNatClampNeg (some q_44)) (2 : Int32).toNatClampNeg (some q_56)) (3 : Int32).toNatClampNeg (some q_69)) (4 : Int32).toNatClampNeg (some q_83)) (5 : Int32).toNatClampNeg (some q_98)))))))] ++ ws_101) := hD
  refine lv_iinc (v := 6) (lv' := [(1, .int 6), (0, .ref h0)]) hx hb dX9_init_71 hl (k := 0) rfl (by decide) (by decide) rfl (fun ls hl => ?_)
  refine lv_goto (tgt := 48) hx hb dX9_init_74 (by decide) ?_
  refine lv_iload_n hx hb dX9_init_48 rfl (lv_at hl 0 rfl) ?_
  refine lv_aload_n hx hb dX9_init_49 rfl (lv_at hl 1 rfl) ?_
  refine va_get (v := .ref q_32) (D := D) (ci := 9) (C := RX9) (T := TX9) (N := 8) hx hb hts in_X9 hown hK hP 0 rfl rfl 5 (by decide) (hts _ kl_RX9_34) (fun _ h9 => h9) rfl dX9_init_50 ?_
  refine va_alen hx hb hK hP 1 3 rfl rfl (v := 6) (show Int32.ofNat 6 = (6 : Int32) from by decide) dX9_init_53 ?_
  refine lv_icmp_ge (tgt := 77) hx hb dX9_init_54 (by decide) (fun _ => ?_) (fun hc => absurd (by decide) hc)
  refine lv_aload_n hx hb dX9_init_77 rfl (lv_at hl 1 rfl) ?_
  refine va_new (ci := 8) (fs := [.int 0, .int 0, .null, .int 0, .int 0]) (C := RX8) (T := TX8) (N := 5) hx hb hts in_X8 tyX8 tyX8_ok hown (hts _ kl_RX9_41) (hts _ kn_RX8) (hts _ ki_RX8) hK hP hD hS hA rfl fs0_X8 (Nat.le_of_ble_eq_true rfl) (Nat.le_of_ble_eq_true rfl) dX9_init_78 (fun q_114 H hP hD hS => ?_)
  have hP : va_P D vwCl ([(h0, .inr (9, [.int 0, .ref q_1, .ref q_10, .ref q_22, .int 0, .ref q_32, .null, .null])), (q_32, .inl (ct 3, 6, .inr (.inr (.inr (.inr (va_up (va_up (va_up (va_up (va_up (va_up (fun _ => none) (0 : Int32).toNatClampNeg (some q_33)) (1 : Int32).toNatClampNeg (some q_44)) (2 : Int32).toNatClampNeg (some q_56)) (3 : Int32).toNatClampNeg (some q_69)) (4 : Int32).toNatClampNeg (some q_83)) (5 : Int32).toNatClampNeg (some q_98))))))), (q_114, .inr (8, [.int 0, .int 0, .null, .int 0, .int 0]))] ++ ws_101) H := ty_permP hP ty_mvp
  have hD : va_D A ([(h0, .inr (9, [.int 0, .ref q_1, .ref q_10, .ref q_22, .int 0, .ref q_32, .null, .null])), (q_32, .inl (ct 3, 6, .inr (.inr (.inr (.inr (va_up (va_up (va_up (va_up (va_up (va_up (fun _ => none) (0 : Int32).toNatClampNeg (some q_33)) (1 : Int32).toNatClampNeg (some q_44)) (2 : Int32).toNatClampNeg (some q_56)) (3 : Int32).toNatClampNeg (some q_69)) (4 : Int32).toNatClampNeg (some q_83)) (5 : Int32).toNatClampNeg (some q_98))))))), (q_114, .inr (8, [.int 0, .int 0, .null, .int 0, .int 0]))] ++ ws_101) := ty_permD hD ty_mvp
  refine W.widen (k := 60) (n := 700) (Nat.le_of_ble_eq_true rfl) (Nat.le_of_ble_eq_true rfl) ?_
  refine lv_dup hx hb dX9_init_81 rfl ?_
  refine lv_bipush (v := 30) hx hb dX9_init_82 (by decide) ?_
  refine lv_iconst (v := 5) hx hb dX9_init_84 (by decide) ?_
  refine ty_kv (wr := [(h0, .inr (9, [.int 0, .ref q_1, .ref q_10, .ref q_22, .int 0, .ref q_32, .null, .null])), (q_32, .inl (ct 3, 6, .inr (.inr (.inr (.inr (va_up (va_up (va_up (va_up (va_up (va_up (fun _ => none) (0 : Int32).toNatClampNeg (some q_33)) (1 : Int32).toNatClampNeg (some q_44)) (2 : Int32).toNatClampNeg (some q_56)) (3 : Int32).toNatClampNeg (some q_69)) (4 : Int32).toNatClampNeg (some q_83)) (5 : Int32).toNatClampNeg (some q_98)))))))]) (wc := ([(q_114, .inr (8, [.int 0, .int 0, .null, .int 0, .int 0]))] ++ ws_101)) (va_runIN (As := [.int 30, .int 5]) (rest := [.ref q_114, .ref h0]) ⟨hx, hb, hml, hown, hts⟩ (t_X8_init_30 l D ct S_102 ws_101 (fun ws => ph ws ∧ (ty_fc q_10 2 1 (.ref na_15)) ws) (fun c k b => xx c k b ∧ (fun c' k' _ => ¬ (c' = 2 ∧ k' = 1)) c k b) q_114 _ hT hph_19 hy_20) (cm_IN 2 hts kc_X8_init ki_RX8 kl_RX9_43 kv_X8_init rfl kd_X8_init ⟨Nat.le_of_ble_eq_true rfl, Nat.le_of_ble_eq_true rfl⟩) (ty_preS (wr := [(h0, .inr (9, [.int 0, .ref q_1, .ref q_10, .ref q_22, .int 0, .ref q_32, .null, .null])), (q_32, .inl (ct 3, 6, .inr (.inr (.inr (.inr (va_up (va_up (va_up (va_up (va_up (va_up (fun _ => none) (0 : Int32).toNatClampNeg (some q_33)) (1 : Int32).toNatClampNeg (some q_44)) (2 : Int32).toNatClampNeg (some q_56)) (3 : Int32).toNatClampNeg (some q_69)) (4 : Int32).toNatClampNeg (some q_83)) (5 : Int32).toNatClampNeg (some q_98)))))))]) (wc := ([(q_114, .inr (8, [.int 0, .int 0, .null, .int 0, .int 0]))] ++ ws_101)) hP hK hD hS hA hX) rfl rfl hl.1 rfl (lv_room (Nat.le_of_ble_eq_true rfl)) dX9_init_85 ⟨Nat.le_of_ble_eq_true rfl, Nat.le_of_ble_eq_true rfl⟩) hP hD hS hA (fun u H locs hw_116 hP hD hS => ?_)
  obtain ⟨ws_117, S_118⟩ := u
  obtain ⟨hT, hle_119, hp_120⟩ := hw_116
  have hp_120 : S_118 q_114 = some (.inl 8) := hp_120
  have hg_121 := hle_119 _ _ hg_105
  have hg_122 := hle_119 _ _ hg_106
  have hg_123 := hle_119 _ _ hg_107
  have hg_124 := hle_119 _ _ hg_108
  have hg_125 := hle_119 _ _ hg_109
  have hg_126 := hle_119 _ _ hg_110
  have hg_127 := hle_119 _ _ hg_111
  have hg_128 := hle_119 _ _ hg_112
  have hg_129 := hle_119 _ _ hg_113
  have hg_130 := hle_119 _ _ hp_104
  have hP : va_P D vwCl ([(h0, .inr (9, [.int 0, .ref q_1, .ref q_10, .ref q_22, .int 0, .ref q_32, .null, .null])), (q_32, .inl (ct 3, 6, .inr (.inr (.inr (.inr (va_up (va_up (va_up (va_up (va_up (va_up (fun _ => none) (0 : Int32).toNatClampNeg (some q_33)) (1 : Int32).toNatClampNeg (some q_44)) (2 : Int32).toNatClampNeg (some q_56)) (3 : Int32).toNatClampNeg (some q_69)) (4 : Int32).toNatClampNeg (some q_83)) (5 : Int32).toNatClampNeg (some q_98)))))))] ++ ws_117) H := hP
  have hD : va_D A ([(h0, .inr (9, [.int 0, .ref q_1, .ref q_10, .ref q_22, .int 0, .ref q_32, .null, .null])), (q_32, .inl (ct 3, 6, .inr (.inr (.inr (.inr (va_up (va_up (va_up (va_up (va_up (va_up (fun _ => none) (0 : Int32).toNatClampNeg (some q_33)) (1 : Int32).toNatClampNeg (some q_44)) (2 : Int32).toNatClampNeg (some q_56)) (3 : Int32).toNatClampNeg (some q_69)) (4 : Int32).toNatClampNeg (some q_83)) (5 : Int32).toNatClampNeg (some q_98)))))))] ++ ws_117) := hD
  refine W.widen (k := 61) (n := 850) (Nat.le_of_ble_eq_true rfl) (Nat.le_of_ble_eq_true rfl) ?_
  refine va_putF (v := .ref q_114) (ty := (tyX9 6)) (D := D) (ci := 9) (C := RX9) (T := TX9) (N := 8) hx hb hts in_X9 tyX9 tyX9_ok nmX9 hown hK hP hD hS 0 rfl rfl 6 (by decide) (hts _ kl_RX9_46) (fun _ h9 => h9) rfl hin rfl (by decide +kernel) rfl rfl (Nat.le_of_ble_eq_true rfl) dX9_init_88 (fun H locs hP hD hS => ?_)
  have hP : va_P D vwCl ([(h0, .inr (9, [.int 0, .ref q_1, .ref q_10, .ref q_22, .int 0, .ref q_32, .ref q_114, .null])), (q_32, .inl (ct 3, 6, .inr (.inr (.inr (.inr (va_up (va_up (va_up (va_up (va_up (va_up (fun _ => none) (0 : Int32).toNatClampNeg (some q_33)) (1 : Int32).toNatClampNeg (some q_44)) (2 : Int32).toNatClampNeg (some q_56)) (3 : Int32).toNatClampNeg (some q_69)) (4 : Int32).toNatClampNeg (some q_83)) (5 : Int32).toNatClampNeg (some q_98)))))))] ++ ws_117) H := hP
  have hD : va_D A ([(h0, .inr (9, [.int 0, .ref q_1, .ref q_10, .ref q_22, .int 0, .ref q_32, .ref q_114, .null])), (q_32, .inl (ct 3, 6, .inr (.inr (.inr (.inr (va_up (va_up (va_up (va_up (va_up (va_up (fun _ => none) (0 : Int32).toNatClampNeg (some q_33)) (1 : Int32).toNatClampNeg (some q_44)) (2 : Int32).toNatClampNeg (some q_56)) (3 : Int32).toNatClampNeg (some q_69)) (4 : Int32).toNatClampNeg (some q_83)) (5 : Int32).toNatClampNeg (some q_98)))))))] ++ ws_117) := hD
  refine lv_aload_n hx hb dX9_init_91 rfl (lv_at hl 1 rfl) ?_
  refine va_new (ci := 8) (fs := [.int 0, .int 0, .null, .int 0, .int 0]) (C := RX8) (T := TX8) (N := 5) hx hb hts in_X8 tyX8 tyX8_ok hown (hts _ kl_RX9_41) (hts _ kn_RX8) (hts _ ki_RX8) hK hP hD hS hA rfl fs0_X8 (Nat.le_of_ble_eq_true rfl) (Nat.le_of_ble_eq_true rfl) dX9_init_92 (fun q_131 H hP hD hS => ?_)
  have hP : va_P D vwCl ([(h0, .inr (9, [.int 0, .ref q_1, .ref q_10, .ref q_22, .int 0, .ref q_32, .ref q_114, .null])), (q_32, .inl (ct 3, 6, .inr (.inr (.inr (.inr (va_up (va_up (va_up (va_up (va_up (va_up (fun _ => none) (0 : Int32).toNatClampNeg (some q_33)) (1 : Int32).toNatClampNeg (some q_44)) (2 : Int32).toNatClampNeg (some q_56)) (3 : Int32).toNatClampNeg (some q_69)) (4 : Int32).toNatClampNeg (some q_83)) (5 : Int32).toNatClampNeg (some q_98))))))), (q_131, .inr (8, [.int 0, .int 0, .null, .int 0, .int 0]))] ++ ws_117) H := ty_permP hP ty_mvp
  have hD : va_D A ([(h0, .inr (9, [.int 0, .ref q_1, .ref q_10, .ref q_22, .int 0, .ref q_32, .ref q_114, .null])), (q_32, .inl (ct 3, 6, .inr (.inr (.inr (.inr (va_up (va_up (va_up (va_up (va_up (va_up (fun _ => none) (0 : Int32).toNatClampNeg (some q_33)) (1 : Int32).toNatClampNeg (some q_44)) (2 : Int32).toNatClampNeg (some q_56)) (3 : Int32).toNatClampNeg (some q_69)) (4 : Int32).toNatClampNeg (some q_83)) (5 : Int32).toNatClampNeg (some q_98))))))), (q_131, .inr (8, [.int 0, .int 0, .null, .int 0, .int 0]))] ++ ws_117) := ty_permD hD ty_mvp
  refine W.widen (k := 62) (n := 855) (Nat.le_of_ble_eq_true rfl) (Nat.le_of_ble_eq_true rfl) ?_
  refine lv_dup hx hb dX9_init_95 rfl ?_
  refine lv_bipush (v := 60) hx hb dX9_init_96 (by decide) ?_
  refine lv_iconst (v := 4) hx hb dX9_init_98 (by decide) ?_
  refine ty_kv (wr := [(h0, .inr (9, [.int 0, .ref q_1, .ref q_10, .ref q_22, .int 0, .ref q_32, .ref q_114, .null])), (q_32, .inl (ct 3, 6, .inr (.inr (.inr (.inr (va_up (va_up (va_up (va_up (va_up (va_up (fun _ => none) (0 : Int32).toNatClampNeg (some q_33)) (1 : Int32).toNatClampNeg (some q_44)) (2 : Int32).toNatClampNeg (some q_56)) (3 : Int32).toNatClampNeg (some q_69)) (4 : Int32).toNatClampNeg (some q_83)) (5 : Int32).toNatClampNeg (some q_98)))))))]) (wc := ([(q_131, .inr (8, [.int 0, .int 0, .null, .int 0, .int 0]))] ++ ws_117)) (va_runIN (As := [.int 60, .int 4]) (rest := [.ref q_131, .ref h0]) ⟨hx, hb, hml, hown, hts⟩ (t_X8_init_60 l D ct S_118 ws_117 (fun ws => ph ws ∧ (ty_fc q_10 2 1 (.ref na_15)) ws) (fun c k b => xx c k b ∧ (fun c' k' _ => ¬ (c' = 2 ∧ k' = 1)) c k b) q_131 _ hT hph_19 hy_20) (cm_IN 2 hts kc_X8_init ki_RX8 kl_RX9_43 kv_X8_init rfl kd_X8_init ⟨Nat.le_of_ble_eq_true rfl, Nat.le_of_ble_eq_true rfl⟩) (ty_preS (wr := [(h0, .inr (9, [.int 0, .ref q_1, .ref q_10, .ref q_22, .int 0, .ref q_32, .ref q_114, .null])), (q_32, .inl (ct 3, 6, .inr (.inr (.inr (.inr (va_up (va_up (va_up (va_up (va_up (va_up (fun _ => none) (0 : Int32).toNatClampNeg (some q_33)) (1 : Int32).toNatClampNeg (some q_44)) (2 : Int32).toNatClampNeg (some q_56)) (3 : Int32).toNatClampNeg (some q_69)) (4 : Int32).toNatClampNeg (some q_83)) (5 : Int32).toNatClampNeg (some q_98)))))))]) (wc := ([(q_131, .inr (8, [.int 0, .int 0, .null, .int 0, .int 0]))] ++ ws_117)) hP hK hD hS hA hX) rfl rfl hl.1 rfl (lv_room (Nat.le_of_ble_eq_true rfl)) dX9_init_99 ⟨Nat.le_of_ble_eq_true rfl, Nat.le_of_ble_eq_true rfl⟩) hP hD hS hA (fun u H locs hw_133 hP hD hS => ?_)
  obtain ⟨ws_134, S_135⟩ := u
  obtain ⟨hT, hle_136, hp_137⟩ := hw_133
  have hp_137 : S_135 q_131 = some (.inl 8) := hp_137
  have hg_138 := hle_136 _ _ hg_121
  have hg_139 := hle_136 _ _ hg_122
  have hg_140 := hle_136 _ _ hg_123
  have hg_141 := hle_136 _ _ hg_124
  have hg_142 := hle_136 _ _ hg_125
  have hg_143 := hle_136 _ _ hg_126
  have hg_144 := hle_136 _ _ hg_127
  have hg_145 := hle_136 _ _ hg_128
  have hg_146 := hle_136 _ _ hg_129
  have hg_147 := hle_136 _ _ hg_130
  have hg_148 := hle_136 _ _ hp_120
  have hP : va_P D vwCl ([(h0, .inr (9, [.int 0, .ref q_1, .ref q_10, .ref q_22, .int 0, .ref q_32, .ref q_114, .null])), (q_32, .inl (ct 3, 6, .inr (.inr (.inr (.inr (va_up (va_up (va_up (va_up (va_up (va_up (fun _ => none) (0 : Int32).toNatClampNeg (some q_33)) (1 : Int32).toNatClampNeg (some q_44)) (2 : Int32).toNatClampNeg (some q_56)) (3 : Int32).toNatClampNeg (some q_69)) (4 : Int32).toNatClampNeg (some q_83)) (5 : Int32).toNatClampNeg (some q_98)))))))] ++ ws_134) H := hP
  have hD : va_D A ([(h0, .inr (9, [.int 0, .ref q_1, .ref q_10, .ref q_22, .int 0, .ref q_32, .ref q_114, .null])), (q_32, .inl (ct 3, 6, .inr (.inr (.inr (.inr (va_up (va_up (va_up (va_up (va_up (va_up (fun _ => none) (0 : Int32).toNatClampNeg (some q_33)) (1 : Int32).toNatClampNeg (some q_44)) (2 : Int32).toNatClampNeg (some q_56)) (3 : Int32).toNatClampNeg (some q_69)) (4 : Int32).toNatClampNeg (some q_83)) (5 : Int32).toNatClampNeg (some q_98)))))))] ++ ws_134) := hD
  refine W.widen (k := 63) (n := 1095) (Nat.le_of_ble_eq_true rfl) (Nat.le_of_ble_eq_true rfl) ?_
  refine va_putF (v := .ref q_131) (ty := (tyX9 7)) (D := D) (ci := 9) (C := RX9) (T := TX9) (N := 8) hx hb hts in_X9 tyX9 tyX9_ok nmX9 hown hK hP hD hS 0 rfl rfl 7 (by decide) (hts _ kl_RX9_50) (fun _ h9 => h9) rfl hin rfl (by decide +kernel) rfl rfl (Nat.le_of_ble_eq_true rfl) dX9_init_102 (fun H locs hP hD hS => ?_)
  have hP : va_P D vwCl ([(h0, .inr (9, [.int 0, .ref q_1, .ref q_10, .ref q_22, .int 0, .ref q_32, .ref q_114, .ref q_131])), (q_32, .inl (ct 3, 6, .inr (.inr (.inr (.inr (va_up (va_up (va_up (va_up (va_up (va_up (fun _ => none) (0 : Int32).toNatClampNeg (some q_33)) (1 : Int32).toNatClampNeg (some q_44)) (2 : Int32).toNatClampNeg (some q_56)) (3 : Int32).toNatClampNeg (some q_69)) (4 : Int32).toNatClampNeg (some q_83)) (5 : Int32).toNatClampNeg (some q_98)))))))] ++ ws_134) H := hP
  have hD : va_D A ([(h0, .inr (9, [.int 0, .ref q_1, .ref q_10, .ref q_22, .int 0, .ref q_32, .ref q_114, .ref q_131])), (q_32, .inl (ct 3, 6, .inr (.inr (.inr (.inr (va_up (va_up (va_up (va_up (va_up (va_up (fun _ => none) (0 : Int32).toNatClampNeg (some q_33)) (1 : Int32).toNatClampNeg (some q_44)) (2 : Int32).toNatClampNeg (some q_56)) (3 : Int32).toNatClampNeg (some q_69)) (4 : Int32).toNatClampNeg (some q_83)) (5 : Int32).toNatClampNeg (some q_98)))))))] ++ ws_134) := hD
  obtain ⟨ws_149, S_150, hT, hle_151, hk_152, hP, hD, hw_153⟩ := ty_abs (κ := .inr (3, 6)) (E1 := [(h0, .inr (9, [.int 0, .ref q_1, .ref q_10, .ref q_22, .int 0, .ref q_32, .ref q_114, .ref q_131]))]) hP hD hT hph_19 ⟨by decide, _, rfl, ty_upq (ty_upq (ty_upq (ty_upq (ty_upq (ty_upq (fun j b h => by cases h) hg_142) hg_143) hg_144) hg_145) hg_146) hg_147⟩
  have hg_154 := hle_151 _ _ hg_138
  have hg_155 := hle_151 _ _ hg_139
  have hg_156 := hle_151 _ _ hg_140
  have hg_157 := hle_151 _ _ hg_141
  have hg_158 := hle_151 _ _ hg_148
  have hg_159 := hle_151 _ _ hp_137
  have hT : ty_V ct S_150 (fun ws => (fun ws => ph ws ∧ (ty_fc q_10 2 1 (.ref na_15)) ws) ws ∧ (ty_fq q_32) ws) ws_149 := ⟨hT.1, hT.2, ⟨0, _, _, _, hw_153, ty_nnq (i := 5) (k := 5) (by decide) (ty_nnq (i := 4) (k := 4) (by decide) (ty_nnq (i := 3) (k := 3) (by decide) (ty_nnq (i := 2) (k := 2) (by decide) (ty_nnq (i := 1) (k := 1) (by decide) (ty_nnq (i := 0) (k := 0) (by decide) (fun j h => absurd h (Nat.not_lt_zero j)))))))⟩⟩
  have hph_160 : ty_C (fun ws => (fun ws => ph ws ∧ (ty_fc q_10 2 1 (.ref na_15)) ws) ws ∧ (ty_fq q_32) ws) (fun c k b => (fun c k b => xx c k b ∧ (fun c' k' _ => ¬ (c' = 2 ∧ k' = 1)) c k b) c k b ∧ (fun c' _ b' => c' = 14 → b' ≠ q_32) c k b) := ty_Cand hph_19 ty_fqC
  have hy_161 : ty_y1 (fun c k b => (fun c k b => xx c k b ∧ (fun c' k' _ => ¬ (c' = 2 ∧ k' = 1)) c k b) c k b ∧ (fun c' _ b' => c' = 14 → b' ≠ q_32) c k b) := fun c k b h => ⟨hy_20 c k b h, (fun c k b h q9 => absurd q9 (ty_frn h).2.2.2.2.2) c k b h⟩
  have hy_162 : ty_yc (fun c k b => (fun c k b => xx c k b ∧ (fun c' k' _ => ¬ (c' = 2 ∧ k' = 1)) c k b) c k b ∧ (fun c' _ b' => c' = 14 → b' ≠ q_32) c k b) 7 := fun k b => ⟨hy_21 k b, (fun q9 => absurd q9 (by decide))⟩
  obtain ⟨ws_163, S_164, hT, hle_165, hk_166, hP, hD, hw_167⟩ := ty_abs (κ := .inl 9) (E1 := []) hP hD hT hph_160 ⟨_, rfl, ty_of_all (show ty_all S_150 (ty_F 9) [.int 0, .ref q_1, .ref q_10, .ref q_22, .int 0, .ref q_32, .ref q_114, .ref q_131] from ⟨⟨_, rfl⟩, ⟨⟨_, rfl, hg_154⟩, ⟨⟨_, rfl, hg_155⟩, ⟨⟨_, rfl, hg_157⟩, ⟨⟨_, rfl⟩, ⟨⟨_, _, rfl, hk_152⟩, ⟨⟨_, rfl, hg_158⟩, ⟨⟨_, rfl, hg_159⟩, trivial⟩⟩⟩⟩⟩⟩⟩⟩)⟩
  have hg_168 := hle_165 _ _ hg_154
  have hg_169 := hle_165 _ _ hg_155
  have hg_170 := hle_165 _ _ hg_156
  have hg_171 := hle_165 _ _ hg_157
  have hg_172 := hle_165 _ _ hg_158
  have hg_173 := hle_165 _ _ hg_159
  have hg_174 := hle_165 _ _ hk_152
  exact W.vret hx hb hr (fun t ht hW => ⟨⟨(ws_163, S_164, q_10, na_15, q_22, q_32), rfl, ⟨⟨hT.1, hT.2.1.1⟩, (fun a9 k9 h9 => hle_165 _ _ ((fun a9 k9 h9 => hle_151 _ _ ((fun a9 k9 h9 => hle_136 _ _ ((fun a9 k9 h9 => hle_119 _ _ ((fun a9 k9 h9 => hle_103 _ _ ((fun a9 k9 h9 => hle_88 _ _ ((fun a9 k9 h9 => hle_74 _ _ ((fun a9 k9 h9 => hle_61 _ _ ((fun a9 k9 h9 => hle_49 _ _ ((fun a9 k9 h9 => hle_38 _ _ ((fun a9 k9 h9 => hle_27 _ _ ((fun a9 k9 h9 => hle_16 _ _ ((fun a9 k9 h9 => hle_4 _ _ ((fun _ _ h9 => h9) a9 k9 h9)) a9 k9 h9)) a9 k9 h9)) a9 k9 h9)) a9 k9 h9)) a9 k9 h9)) a9 k9 h9)) a9 k9 h9)) a9 k9 h9)) a9 k9 h9)) a9 k9 h9)) a9 k9 h9)) a9 k9 h9)), ⟨hk_166, ⟨hg_169, hg_170, hg_171, hg_174⟩, ⟨⟨0, _, hw_167, rfl⟩, hT.2.1.2, ⟨0, _, hw_167, rfl⟩, ⟨0, _, hw_167, rfl⟩, hT.2.2, trivial⟩, ⟨0, _, hw_167, rfl⟩⟩⟩, by rw [ht]; exact hP, by rw [hAe]; exact hD⟩, hS.F ht⟩) hS.2.2 dX9_init_105
